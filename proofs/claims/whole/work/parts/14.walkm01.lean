set_option maxHeartbeats 4000000 in
set_option maxRecDepth 100000 in
theorem kM_X7_put (l : Launch) (D : va_G) (ad : Nat → Nat) (cI cZ : ClassId) (σ : tf_S) (x1 x2 x3 : Int32) (z : Int32 × tf_S) (h : fX7_put σ x1 x2 x3 = some z) : tf_C l D (tf_wm ad cI cZ) [(cI, .int), (cZ, .boolean)] [] yX7_put wsX7_put ({ frames := 1, cells := 0, slots := 0, locals := 24 }) [.ref (ad 0), .int x1, .int x2, .int x3] σ z := by
  intro sz
  refine Met.ofW (cc := cX7_put) (maxL := 6) (ret := (some .int)) (by decide) rfl ?_
  intro p e s m args below meth c s₁ B hml hv
  obtain ⟨rfl, hsz, hP, hK, hN, hD0⟩ := hv
  have hx := B.exec
  have hb := B.bytes
  have hr := B.returns
  have hts := atoms_spec (ws := wsX7_put) B.pre
  have hown : s.vm.findClass RX7 = some m.cls := findClass_of_methodNamed B.named
  have hlocks := B.notSynchronized
  subst hsz
  have hI := tf_start (D := D) (tf_m_ad ad cI cZ) hP hD0
  have hl := lv_entry ([.ref (ad 0), .int x1, .int x2, .int x3]) (n := 6) (Nat.le_of_ble_eq_true rfl)
  rw [lg_entry_eq]
  generalize (lg_sl ([.ref (ad 0), .int x1, .int x2, .int x3]) ++ List.replicate (6 - (lg_sl ([.ref (ad 0), .int x1, .int x2, .int x3])).length) Slot.unset).toArray = ls at hl ⊢
  have hl : lv_has ls 6 [(0, .ref (ad 0)), (1, .int x1), (2, .int x2), (3, .int x3)] := hl
  have hn_X7 : ∀ w ∈ u_ws RX7 TX7 35, w ∈ wsX7_put := by decide +kernel
  have hf_23 := hts (.fieldLink RX7 23 "TypeFlowModel" "classes0" "[I") (by decide +kernel)
  have hf_26 := hts (.fieldLink RX7 26 "TypeFlowModel" "first" "[I") (by decide +kernel)
  have hf_29 := hts (.fieldLink RX7 29 "TypeFlowModel" "second" "[I") (by decide +kernel)
  have hf_32 := hts (.fieldLink RX7 32 "TypeFlowModel" "free" "[I") (by decide +kernel)
  have hf_35 := hts (.fieldLink RX7 35 "TypeFlowModel" "came" "[I") (by decide +kernel)
  have hf_38 := hts (.fieldLink RX7 38 "TypeFlowModel" "stack" "[I") (by decide +kernel)
  have hf_123 := hts (.fieldLink RX7 123 "TypeFlowModel" "high" "I") (by decide +kernel)
  have j251 : ∀ (k48 : tf_S → Option (Int32 × tf_S)), (∀ (σ : tf_S) (H : Heap) (locs : List Loc) (ls : Array Slot), k48 σ = some z → tf_I D (tf_wm ad cI cZ) s.heap σ H locs → lv_has ls 6 [(0, .ref (ad 0)), (1, .int x1)] → W p l e (headSpec wsX7_put ({ frames := 1, cells := 0, slots := 0, locals := 24 })).room s m ([.ref (ad 0), .int x1, .int x2, .int x3] : List Value).toArray below meth c H locs 0 0 (tf_Q below D (tf_wm ad cI cZ) z ([.ref (ad 0), .int x1, .int x2, .int x3] : List Value).toArray s) (F0 m 48 ls [])) → ∀ (σ : tf_S) (y4 t0 t1 t2 : Int32) (H : Heap) (locs : List Loc) (ls : Array Slot), fX7_put_251 x1 x2 x3 k48 σ y4 t0 t1 t2 = some z → tf_I D (tf_wm ad cI cZ) s.heap σ H locs → lv_has ls 6 [(0, .ref (ad 0)), (1, .int x1), (4, .int y4)] → W p l e (headSpec wsX7_put ({ frames := 1, cells := 0, slots := 0, locals := 24 })).room s m ([.ref (ad 0), .int x1, .int x2, .int x3] : List Value).toArray below meth c H locs 0 0 (tf_Q below D (tf_wm ad cI cZ) z ([.ref (ad 0), .int x1, .int x2, .int x3] : List Value).toArray s) (F0 m 251 ls [.int t0, .int t1, .int t2, .ref (ad 0)]) := by
    intro k48 hk48 σ y4 t0 t1 t2 H locs ls h hI hl
    unfold fX7_put_251 at h
    obtain ⟨u37, q38, h⟩ := tf_gbind h
    refine tf_callV (rest := []) ⟨hx, hb, hml, hown, hts⟩ hK hN hI (kM_X7_made l D ad cI cZ _ _ _ _ _ q38) (cwV 3 hts gX7_put_X7_made rfl rfl rfl (by decide +kernel) ⟨Nat.le_of_ble_eq_true rfl, Nat.le_of_ble_eq_true rfl⟩) 0 7 (tf_mat_0 ad cI cZ _) rfl rfl hl.1 rfl (Nat.le_of_ble_eq_true rfl) dX7_put_251 (fun H locs hI => ?_)
    obtain ⟨v39, ev39, h⟩ := tf_glet h
    refine tf_top ev39 ?_
    refine lv_istore (lv' := [(5, .int v39), (0, .ref (ad 0)), (1, .int x1), (4, .int y4)]) hx hb dX7_put_254 hl (by decide) rfl (fun ls hl => ?_)
    refine lv_iload hx hb dX7_put_256 (lv_at hl 0 rfl) ?_
    refine lv_bipush (v := -3) hx hb dX7_put_258 (by decide +kernel) ?_
    refine lv_icmp_ne (tgt := 266) hx hb dX7_put_260 (by decide) (fun c40 => ?_) (fun c40 => ?_)
    · replace h := tf_neg c40 h
      refine lv_aload_n hx hb dX7_put_266 rfl (lv_at hl 1 rfl) ?_
      refine tf_get (C := RX7) (T := TX7) (N := 35) hx hb hts hn_X7 hown hK hI 0 (tf_mat_0 ad cI cZ _) rfl 8 (by decide) hf_35 rfl rfl dX7_put_267 ?_
      refine lv_iload hx hb dX7_put_270 (lv_at hl 3 rfl) ?_
      refine lv_iload hx hb dX7_put_272 (lv_at hl 0 rfl) ?_
      obtain ⟨b41, h⟩ := tf_gin h
      obtain ⟨s42, es42, h⟩ := tf_glet h
      refine tf_iast hx hb hK hI 7 0 (tf_mat_7 ad cI cZ _) (tf_mset_7 ad cI cZ _) rfl b41 es42 dX7_put_274 (fun H locs hI => ?_)
      refine lv_aload_n hx hb dX7_put_275 rfl (lv_at hl 1 rfl) ?_
      refine lv_dup hx hb dX7_put_276 rfl ?_
      refine tf_get (C := RX7) (T := TX7) (N := 35) hx hb hts hn_X7 hown hK hI 0 (tf_mat_0 ad cI cZ _) rfl 10 (by decide) hf_123 rfl rfl dX7_put_277 ?_
      refine lv_iconst (v := 1) hx hb dX7_put_280 (by decide +kernel) ?_
      refine lv_isub hx hb dX7_put_281 ?_
      obtain ⟨s43, es43, h⟩ := tf_glet h
      refine tf_put (C := RX7) (T := TX7) (N := 35) (ty := .int) hx hb hts hn_X7 tyX7 tyX7_ok nmX7 hown hK hI 0 (tf_mat_0 ad cI cZ _) rfl 10 (by decide) hf_123 rfl rfl (by decide +kernel) rfl rfl (Nat.le_of_ble_eq_true rfl) (tf_mput_0_10 ad cI cZ _ _) es43 dX7_put_282 (fun H locs hI => ?_)
      refine lv_goto (tgt := 48) hx hb dX7_put_285 (by decide) ?_
      exact hk48 _ _ _ _ h hI (lv_sub hl [1, 2] rfl)
    replace h := tf_pos c40 h
    refine lv_bipush (v := -3) hx hb dX7_put_263 (by decide +kernel) ?_
    exact tf_iret hx hb hr hI h dX7_put_265 hlocks
  have j99 : ∀ (k48 : tf_S → Option (Int32 × tf_S)), (∀ (σ : tf_S) (H : Heap) (locs : List Loc) (ls : Array Slot), k48 σ = some z → tf_I D (tf_wm ad cI cZ) s.heap σ H locs → lv_has ls 6 [(0, .ref (ad 0)), (1, .int x1)] → W p l e (headSpec wsX7_put ({ frames := 1, cells := 0, slots := 0, locals := 24 })).room s m ([.ref (ad 0), .int x1, .int x2, .int x3] : List Value).toArray below meth c H locs 0 0 (tf_Q below D (tf_wm ad cI cZ) z ([.ref (ad 0), .int x1, .int x2, .int x3] : List Value).toArray s) (F0 m 48 ls [])) → ∀ (σ : tf_S) (y4 : Int32) (H : Heap) (locs : List Loc) (ls : Array Slot), fX7_put_99 x1 x2 x3 k48 σ y4 = some z → tf_I D (tf_wm ad cI cZ) s.heap σ H locs → lv_has ls 6 [(0, .ref (ad 0)), (1, .int x1), (4, .int y4)] → W p l e (headSpec wsX7_put ({ frames := 1, cells := 0, slots := 0, locals := 24 })).room s m ([.ref (ad 0), .int x1, .int x2, .int x3] : List Value).toArray below meth c H locs 0 0 (tf_Q below D (tf_wm ad cI cZ) z ([.ref (ad 0), .int x1, .int x2, .int x3] : List Value).toArray s) (F0 m 99 ls []) := by
    intro k48 hk48 σ y4 H locs ls h hI hl
    unfold fX7_put_99 at h
    refine lv_iload hx hb dX7_put_99 (lv_at hl 2 rfl) ?_
    refine lv_iconst (v := 4) hx hb dX7_put_101 (by decide +kernel) ?_
    refine lv_icmp_eq (tgt := 122) hx hb dX7_put_102 (by decide) (fun c14 => ?_) (fun c14 => ?_)
    · replace h := tf_pos c14 h
      refine lv_aload_n hx hb dX7_put_122 rfl (lv_at hl 0 rfl) ?_
      refine lv_dup hx hb dX7_put_123 rfl ?_
      refine tf_get (C := RX7) (T := TX7) (N := 35) hx hb hts hn_X7 hown hK hI 0 (tf_mat_0 ad cI cZ _) rfl 10 (by decide) hf_123 rfl rfl dX7_put_124 ?_
      refine lv_iconst (v := 1) hx hb dX7_put_127 (by decide +kernel) ?_
      refine lv_isub hx hb dX7_put_128 ?_
      obtain ⟨s15, es15, h⟩ := tf_glet h
      refine tf_put (C := RX7) (T := TX7) (N := 35) (ty := .int) hx hb hts hn_X7 tyX7 tyX7_ok nmX7 hown hK hI 0 (tf_mat_0 ad cI cZ _) rfl 10 (by decide) hf_123 rfl rfl (by decide +kernel) rfl rfl (Nat.le_of_ble_eq_true rfl) (tf_mput_0_10 ad cI cZ _ _) es15 dX7_put_129 (fun H locs hI => ?_)
      refine lv_goto (tgt := 285) hx hb dX7_put_132 (by decide) ?_
      refine lv_goto (tgt := 48) hx hb dX7_put_285 (by decide) ?_
      exact hk48 _ _ _ _ h hI (lv_sub hl [0, 1] rfl)
    replace h := tf_neg c14 h
    refine lv_iload hx hb dX7_put_105 (lv_at hl 2 rfl) ?_
    refine lv_iconst (v := 5) hx hb dX7_put_107 (by decide +kernel) ?_
    refine lv_icmp_eq (tgt := 122) hx hb dX7_put_108 (by decide) (fun c16 => ?_) (fun c16 => ?_)
    · replace h := tf_pos c16 h
      refine lv_aload_n hx hb dX7_put_122 rfl (lv_at hl 0 rfl) ?_
      refine lv_dup hx hb dX7_put_123 rfl ?_
      refine tf_get (C := RX7) (T := TX7) (N := 35) hx hb hts hn_X7 hown hK hI 0 (tf_mat_0 ad cI cZ _) rfl 10 (by decide) hf_123 rfl rfl dX7_put_124 ?_
      refine lv_iconst (v := 1) hx hb dX7_put_127 (by decide +kernel) ?_
      refine lv_isub hx hb dX7_put_128 ?_
      obtain ⟨s17, es17, h⟩ := tf_glet h
      refine tf_put (C := RX7) (T := TX7) (N := 35) (ty := .int) hx hb hts hn_X7 tyX7 tyX7_ok nmX7 hown hK hI 0 (tf_mat_0 ad cI cZ _) rfl 10 (by decide) hf_123 rfl rfl (by decide +kernel) rfl rfl (Nat.le_of_ble_eq_true rfl) (tf_mput_0_10 ad cI cZ _ _) es17 dX7_put_129 (fun H locs hI => ?_)
      refine lv_goto (tgt := 285) hx hb dX7_put_132 (by decide) ?_
      refine lv_goto (tgt := 48) hx hb dX7_put_285 (by decide) ?_
      exact hk48 _ _ _ _ h hI (lv_sub hl [0, 1] rfl)
    replace h := tf_neg c16 h
    refine lv_aload_n hx hb dX7_put_111 rfl (lv_at hl 0 rfl) ?_
    refine tf_get (C := RX7) (T := TX7) (N := 35) hx hb hts hn_X7 hown hK hI 0 (tf_mat_0 ad cI cZ _) rfl 8 (by decide) hf_35 rfl rfl dX7_put_112 ?_
    refine lv_iload hx hb dX7_put_115 (lv_at hl 2 rfl) ?_
    obtain ⟨b18, h⟩ := tf_gin h
    refine va_iald hx hb hK hI.1 7 0 (tf_mat_7 ad cI cZ _) rfl b18 dX7_put_117 ?_
    refine lv_iconst (v := -1) hx hb dX7_put_118 (by decide +kernel) ?_
    refine lv_icmp_eq (tgt := 135) hx hb dX7_put_119 (by decide) (fun c19 => ?_) (fun c19 => ?_)
    · replace h := tf_pos c19 h
      refine lv_aload_n hx hb dX7_put_135 rfl (lv_at hl 0 rfl) ?_
      refine lv_aload_n hx hb dX7_put_136 rfl (lv_at hl 0 rfl) ?_
      refine tf_get (C := RX7) (T := TX7) (N := 35) hx hb hts hn_X7 hown hK hI 0 (tf_mat_0 ad cI cZ _) rfl 5 (by decide) hf_26 rfl rfl dX7_put_137 ?_
      refine lv_iload hx hb dX7_put_140 (lv_at hl 2 rfl) ?_
      obtain ⟨b20, h⟩ := tf_gin h
      refine va_iald hx hb hK hI.1 4 0 (tf_mat_4 ad cI cZ _) rfl b20 dX7_put_142 ?_
      obtain ⟨u21, q22, h⟩ := tf_gbind h
      refine tf_callV (rest := []) ⟨hx, hb, hml, hown, hts⟩ hK hN hI (kM_X7_isOpen l D ad cI cZ _ _ _ q22) (cwV 1 hts gX7_put_X7_isOpen rfl rfl rfl (by decide +kernel) ⟨Nat.le_of_ble_eq_true rfl, Nat.le_of_ble_eq_true rfl⟩) 0 7 (tf_mat_0 ad cI cZ _) rfl rfl hl.1 rfl (Nat.le_of_ble_eq_true rfl) dX7_put_143 (fun H locs hI => ?_)
      refine lv_if_eq (tgt := 163) hx hb dX7_put_146 (by decide) (fun c23 => ?_) (fun c23 => ?_)
      · replace h := tf_pos c23 h
        refine lv_aload_n hx hb dX7_put_163 rfl (lv_at hl 0 rfl) ?_
        refine lv_aload_n hx hb dX7_put_164 rfl (lv_at hl 0 rfl) ?_
        refine tf_get (C := RX7) (T := TX7) (N := 35) hx hb hts hn_X7 hown hK hI 0 (tf_mat_0 ad cI cZ _) rfl 6 (by decide) hf_29 rfl rfl dX7_put_165 ?_
        refine lv_iload hx hb dX7_put_168 (lv_at hl 2 rfl) ?_
        obtain ⟨b24, h⟩ := tf_gin h
        refine va_iald hx hb hK hI.1 5 0 (tf_mat_5 ad cI cZ _) rfl b24 dX7_put_170 ?_
        obtain ⟨u25, q26, h⟩ := tf_gbind h
        refine tf_callV (rest := []) ⟨hx, hb, hml, hown, hts⟩ hK hN hI (kM_X7_isOpen l D ad cI cZ _ _ _ q26) (cwV 1 hts gX7_put_X7_isOpen rfl rfl rfl (by decide +kernel) ⟨Nat.le_of_ble_eq_true rfl, Nat.le_of_ble_eq_true rfl⟩) 0 7 (tf_mat_0 ad cI cZ _) rfl rfl hl.1 rfl (Nat.le_of_ble_eq_true rfl) dX7_put_171 (fun H locs hI => ?_)
        refine lv_if_eq (tgt := 191) hx hb dX7_put_174 (by decide) (fun c27 => ?_) (fun c27 => ?_)
        · replace h := tf_pos c27 h
          refine lv_aload_n hx hb dX7_put_191 rfl (lv_at hl 0 rfl) ?_
          refine lv_aload_n hx hb dX7_put_192 rfl (lv_at hl 0 rfl) ?_
          refine tf_get (C := RX7) (T := TX7) (N := 35) hx hb hts hn_X7 hown hK hI 0 (tf_mat_0 ad cI cZ _) rfl 4 (by decide) hf_23 rfl rfl dX7_put_193 ?_
          refine lv_iload hx hb dX7_put_196 (lv_at hl 2 rfl) ?_
          obtain ⟨b28, h⟩ := tf_gin h
          refine va_iald hx hb hK hI.1 3 0 (tf_mat_3 ad cI cZ _) rfl b28 dX7_put_198 ?_
          refine lv_aload_n hx hb dX7_put_199 rfl (lv_at hl 0 rfl) ?_
          refine tf_get (C := RX7) (T := TX7) (N := 35) hx hb hts hn_X7 hown hK hI 0 (tf_mat_0 ad cI cZ _) rfl 5 (by decide) hf_26 rfl rfl dX7_put_200 ?_
          refine lv_iload hx hb dX7_put_203 (lv_at hl 2 rfl) ?_
          obtain ⟨b29, h⟩ := tf_gin h
          refine va_iald hx hb hK hI.1 4 0 (tf_mat_4 ad cI cZ _) rfl b29 dX7_put_205 ?_
          refine lv_if_ge (tgt := 213) hx hb dX7_put_206 (by decide) (fun c30 => ?_) (fun c30 => ?_)
          · replace h := tf_pos c30 h
            refine lv_aload_n hx hb dX7_put_213 rfl (lv_at hl 0 rfl) ?_
            refine tf_get (C := RX7) (T := TX7) (N := 35) hx hb hts hn_X7 hown hK hI 0 (tf_mat_0 ad cI cZ _) rfl 8 (by decide) hf_35 rfl rfl dX7_put_214 ?_
            refine lv_aload_n hx hb dX7_put_217 rfl (lv_at hl 0 rfl) ?_
            refine tf_get (C := RX7) (T := TX7) (N := 35) hx hb hts hn_X7 hown hK hI 0 (tf_mat_0 ad cI cZ _) rfl 5 (by decide) hf_26 rfl rfl dX7_put_218 ?_
            refine lv_iload hx hb dX7_put_221 (lv_at hl 2 rfl) ?_
            obtain ⟨b31, h⟩ := tf_gin h
            refine va_iald hx hb hK hI.1 4 0 (tf_mat_4 ad cI cZ _) rfl b31 dX7_put_223 ?_
            obtain ⟨b32, h⟩ := tf_gin h
            refine va_iald hx hb hK hI.1 7 0 (tf_mat_7 ad cI cZ _) rfl b32 dX7_put_224 ?_
            refine lv_aload_n hx hb dX7_put_225 rfl (lv_at hl 0 rfl) ?_
            refine tf_get (C := RX7) (T := TX7) (N := 35) hx hb hts hn_X7 hown hK hI 0 (tf_mat_0 ad cI cZ _) rfl 6 (by decide) hf_29 rfl rfl dX7_put_226 ?_
            refine lv_iload hx hb dX7_put_229 (lv_at hl 2 rfl) ?_
            obtain ⟨b33, h⟩ := tf_gin h
            refine va_iald hx hb hK hI.1 5 0 (tf_mat_5 ad cI cZ _) rfl b33 dX7_put_231 ?_
            refine lv_if_ge (tgt := 239) hx hb dX7_put_232 (by decide) (fun c34 => ?_) (fun c34 => ?_)
            · replace h := tf_pos c34 h
              refine lv_aload_n hx hb dX7_put_239 rfl (lv_at hl 0 rfl) ?_
              refine tf_get (C := RX7) (T := TX7) (N := 35) hx hb hts hn_X7 hown hK hI 0 (tf_mat_0 ad cI cZ _) rfl 8 (by decide) hf_35 rfl rfl dX7_put_240 ?_
              refine lv_aload_n hx hb dX7_put_243 rfl (lv_at hl 0 rfl) ?_
              refine tf_get (C := RX7) (T := TX7) (N := 35) hx hb hts hn_X7 hown hK hI 0 (tf_mat_0 ad cI cZ _) rfl 6 (by decide) hf_29 rfl rfl dX7_put_244 ?_
              refine lv_iload hx hb dX7_put_247 (lv_at hl 2 rfl) ?_
              obtain ⟨b35, h⟩ := tf_gin h
              refine va_iald hx hb hK hI.1 5 0 (tf_mat_5 ad cI cZ _) rfl b35 dX7_put_249 ?_
              obtain ⟨b36, h⟩ := tf_gin h
              refine va_iald hx hb hK hI.1 7 0 (tf_mat_7 ad cI cZ _) rfl b36 dX7_put_250 ?_
              exact j251 _ hk48 _ _ _ _ _ _ _ _ h hI (lv_sub hl [0, 1, 2] rfl)
            replace h := tf_neg c34 h
            refine lv_iconst (v := -1) hx hb dX7_put_235 (by decide +kernel) ?_
            refine lv_goto (tgt := 251) hx hb dX7_put_236 (by decide) ?_
            exact j251 _ hk48 _ _ _ _ _ _ _ _ h hI (lv_sub hl [0, 1, 2] rfl)
          replace h := tf_neg c30 h
          refine lv_iconst (v := -1) hx hb dX7_put_209 (by decide +kernel) ?_
          refine lv_goto (tgt := 225) hx hb dX7_put_210 (by decide) ?_
          refine lv_aload_n hx hb dX7_put_225 rfl (lv_at hl 0 rfl) ?_
          refine tf_get (C := RX7) (T := TX7) (N := 35) hx hb hts hn_X7 hown hK hI 0 (tf_mat_0 ad cI cZ _) rfl 6 (by decide) hf_29 rfl rfl dX7_put_226 ?_
          refine lv_iload hx hb dX7_put_229 (lv_at hl 2 rfl) ?_
          obtain ⟨b44, h⟩ := tf_gin h
          refine va_iald hx hb hK hI.1 5 0 (tf_mat_5 ad cI cZ _) rfl b44 dX7_put_231 ?_
          refine lv_if_ge (tgt := 239) hx hb dX7_put_232 (by decide) (fun c45 => ?_) (fun c45 => ?_)
          · replace h := tf_pos c45 h
            refine lv_aload_n hx hb dX7_put_239 rfl (lv_at hl 0 rfl) ?_
            refine tf_get (C := RX7) (T := TX7) (N := 35) hx hb hts hn_X7 hown hK hI 0 (tf_mat_0 ad cI cZ _) rfl 8 (by decide) hf_35 rfl rfl dX7_put_240 ?_
            refine lv_aload_n hx hb dX7_put_243 rfl (lv_at hl 0 rfl) ?_
            refine tf_get (C := RX7) (T := TX7) (N := 35) hx hb hts hn_X7 hown hK hI 0 (tf_mat_0 ad cI cZ _) rfl 6 (by decide) hf_29 rfl rfl dX7_put_244 ?_
            refine lv_iload hx hb dX7_put_247 (lv_at hl 2 rfl) ?_
            obtain ⟨b46, h⟩ := tf_gin h
            refine va_iald hx hb hK hI.1 5 0 (tf_mat_5 ad cI cZ _) rfl b46 dX7_put_249 ?_
            obtain ⟨b47, h⟩ := tf_gin h
            refine va_iald hx hb hK hI.1 7 0 (tf_mat_7 ad cI cZ _) rfl b47 dX7_put_250 ?_
            exact j251 _ hk48 _ _ _ _ _ _ _ _ h hI (lv_sub hl [0, 1, 2] rfl)
          replace h := tf_neg c45 h
          refine lv_iconst (v := -1) hx hb dX7_put_235 (by decide +kernel) ?_
          refine lv_goto (tgt := 251) hx hb dX7_put_236 (by decide) ?_
          exact j251 _ hk48 _ _ _ _ _ _ _ _ h hI (lv_sub hl [0, 1, 2] rfl)
        replace h := tf_neg c27 h
        refine lv_aload_n hx hb dX7_put_177 rfl (lv_at hl 0 rfl) ?_
        refine lv_aload_n hx hb dX7_put_178 rfl (lv_at hl 0 rfl) ?_
        refine tf_get (C := RX7) (T := TX7) (N := 35) hx hb hts hn_X7 hown hK hI 0 (tf_mat_0 ad cI cZ _) rfl 6 (by decide) hf_29 rfl rfl dX7_put_179 ?_
        refine lv_iload hx hb dX7_put_182 (lv_at hl 2 rfl) ?_
        obtain ⟨b48, h⟩ := tf_gin h
        refine va_iald hx hb hK hI.1 5 0 (tf_mat_5 ad cI cZ _) rfl b48 dX7_put_184 ?_
        obtain ⟨u49, q50, h⟩ := tf_gbind h
        refine tf_callVv (rest := []) ⟨hx, hb, hml, hown, hts⟩ hK hN hI (kM_X7_push l D ad cI cZ _ _ _ q50) (cwV 1 hts gX7_put_X7_push rfl rfl rfl (by decide +kernel) ⟨Nat.le_of_ble_eq_true rfl, Nat.le_of_ble_eq_true rfl⟩) 0 7 (tf_mat_0 ad cI cZ _) rfl rfl hl.1 rfl (Nat.le_of_ble_eq_true rfl) dX7_put_185 (fun H locs hI => ?_)
        refine lv_goto (tgt := 285) hx hb dX7_put_188 (by decide) ?_
        refine lv_goto (tgt := 48) hx hb dX7_put_285 (by decide) ?_
        exact hk48 _ _ _ _ h hI (lv_sub hl [0, 1] rfl)
      replace h := tf_neg c23 h
      refine lv_aload_n hx hb dX7_put_149 rfl (lv_at hl 0 rfl) ?_
      refine lv_aload_n hx hb dX7_put_150 rfl (lv_at hl 0 rfl) ?_
      refine tf_get (C := RX7) (T := TX7) (N := 35) hx hb hts hn_X7 hown hK hI 0 (tf_mat_0 ad cI cZ _) rfl 5 (by decide) hf_26 rfl rfl dX7_put_151 ?_
      refine lv_iload hx hb dX7_put_154 (lv_at hl 2 rfl) ?_
      obtain ⟨b51, h⟩ := tf_gin h
      refine va_iald hx hb hK hI.1 4 0 (tf_mat_4 ad cI cZ _) rfl b51 dX7_put_156 ?_
      obtain ⟨u52, q53, h⟩ := tf_gbind h
      refine tf_callVv (rest := []) ⟨hx, hb, hml, hown, hts⟩ hK hN hI (kM_X7_push l D ad cI cZ _ _ _ q53) (cwV 1 hts gX7_put_X7_push rfl rfl rfl (by decide +kernel) ⟨Nat.le_of_ble_eq_true rfl, Nat.le_of_ble_eq_true rfl⟩) 0 7 (tf_mat_0 ad cI cZ _) rfl rfl hl.1 rfl (Nat.le_of_ble_eq_true rfl) dX7_put_157 (fun H locs hI => ?_)
      refine lv_goto (tgt := 285) hx hb dX7_put_160 (by decide) ?_
      refine lv_goto (tgt := 48) hx hb dX7_put_285 (by decide) ?_
      exact hk48 _ _ _ _ h hI (lv_sub hl [0, 1] rfl)
    replace h := tf_neg c19 h
    refine lv_aload_n hx hb dX7_put_122 rfl (lv_at hl 0 rfl) ?_
    refine lv_dup hx hb dX7_put_123 rfl ?_
    refine tf_get (C := RX7) (T := TX7) (N := 35) hx hb hts hn_X7 hown hK hI 0 (tf_mat_0 ad cI cZ _) rfl 10 (by decide) hf_123 rfl rfl dX7_put_124 ?_
    refine lv_iconst (v := 1) hx hb dX7_put_127 (by decide +kernel) ?_
    refine lv_isub hx hb dX7_put_128 ?_
    obtain ⟨s54, es54, h⟩ := tf_glet h
    refine tf_put (C := RX7) (T := TX7) (N := 35) (ty := .int) hx hb hts hn_X7 tyX7 tyX7_ok nmX7 hown hK hI 0 (tf_mat_0 ad cI cZ _) rfl 10 (by decide) hf_123 rfl rfl (by decide +kernel) rfl rfl (Nat.le_of_ble_eq_true rfl) (tf_mput_0_10 ad cI cZ _ _) es54 dX7_put_129 (fun H locs hI => ?_)
    refine lv_goto (tgt := 285) hx hb dX7_put_132 (by decide) ?_
    refine lv_goto (tgt := 48) hx hb dX7_put_285 (by decide) ?_
    exact hk48 _ _ _ _ h hI (lv_sub hl [0, 1] rfl)
  have j48 : ∀ n : Nat, ∀ (σ : tf_S) (H : Heap) (locs : List Loc) (ls : Array Slot), fX7_put_48 x1 x2 x3 n σ = some z → tf_I D (tf_wm ad cI cZ) s.heap σ H locs → lv_has ls 6 [(0, .ref (ad 0)), (1, .int x1)] → W p l e (headSpec wsX7_put ({ frames := 1, cells := 0, slots := 0, locals := 24 })).room s m ([.ref (ad 0), .int x1, .int x2, .int x3] : List Value).toArray below meth c H locs 0 0 (tf_Q below D (tf_wm ad cI cZ) z ([.ref (ad 0), .int x1, .int x2, .int x3] : List Value).toArray s) (F0 m 48 ls []) := by
    intro n
    induction n with
    | zero =>
      intro σ H locs ls h
      rw [fX7_put_48] at h
      cases h
    | succ n ih =>
      intro σ H locs ls h hI hl
      rw [fX7_put_48] at h
      refine lv_aload_n hx hb dX7_put_48 rfl (lv_at hl 0 rfl) ?_
      refine tf_get (C := RX7) (T := TX7) (N := 35) hx hb hts hn_X7 hown hK hI 0 (tf_mat_0 ad cI cZ _) rfl 10 (by decide) hf_123 rfl rfl dX7_put_49 ?_
      refine lv_if_le (tgt := 288) hx hb dX7_put_52 (by decide) (fun c9 => ?_) (fun c9 => ?_)
      · replace h := tf_pos c9 h
        refine lv_aload_n hx hb dX7_put_288 rfl (lv_at hl 0 rfl) ?_
        refine tf_get (C := RX7) (T := TX7) (N := 35) hx hb hts hn_X7 hown hK hI 0 (tf_mat_0 ad cI cZ _) rfl 8 (by decide) hf_35 rfl rfl dX7_put_289 ?_
        refine lv_iload_n hx hb dX7_put_292 rfl (lv_at hl 1 rfl) ?_
        obtain ⟨b10, h⟩ := tf_gin h
        refine va_iald hx hb hK hI.1 7 0 (tf_mat_7 ad cI cZ _) rfl b10 dX7_put_293 ?_
        exact tf_iret hx hb hr hI h dX7_put_294 hlocks
      replace h := tf_neg c9 h
      refine lv_aload_n hx hb dX7_put_55 rfl (lv_at hl 0 rfl) ?_
      refine tf_get (C := RX7) (T := TX7) (N := 35) hx hb hts hn_X7 hown hK hI 0 (tf_mat_0 ad cI cZ _) rfl 9 (by decide) hf_38 rfl rfl dX7_put_56 ?_
      refine lv_aload_n hx hb dX7_put_59 rfl (lv_at hl 0 rfl) ?_
      refine tf_get (C := RX7) (T := TX7) (N := 35) hx hb hts hn_X7 hown hK hI 0 (tf_mat_0 ad cI cZ _) rfl 10 (by decide) hf_123 rfl rfl dX7_put_60 ?_
      refine lv_iconst (v := 1) hx hb dX7_put_63 (by decide +kernel) ?_
      refine lv_isub hx hb dX7_put_64 ?_
      obtain ⟨b11, h⟩ := tf_gin h
      refine va_iald hx hb hK hI.1 8 0 (tf_mat_8 ad cI cZ _) rfl b11 dX7_put_65 ?_
      obtain ⟨v12, ev12, h⟩ := tf_glet h
      refine tf_top ev12 ?_
      refine lv_istore (lv' := [(4, .int v12), (0, .ref (ad 0)), (1, .int x1)]) hx hb dX7_put_66 hl (by decide) rfl (fun ls hl => ?_)
      refine lv_iload hx hb dX7_put_68 (lv_at hl 0 rfl) ?_
      refine lv_iconst (v := 4) hx hb dX7_put_70 (by decide +kernel) ?_
      refine lv_icmp_eq (tgt := 99) hx hb dX7_put_71 (by decide) (fun c13 => ?_) (fun c13 => ?_)
      · replace h := tf_pos c13 h
        exact j99 _ ih _ _ _ _ _ h hI (lv_sub hl [1, 2, 0] rfl)
      replace h := tf_neg c13 h
      refine lv_iload hx hb dX7_put_74 (lv_at hl 0 rfl) ?_
      refine lv_iconst (v := 5) hx hb dX7_put_76 (by decide +kernel) ?_
      refine lv_icmp_eq (tgt := 99) hx hb dX7_put_77 (by decide) (fun c55 => ?_) (fun c55 => ?_)
      · replace h := tf_pos c55 h
        exact j99 _ ih _ _ _ _ _ h hI (lv_sub hl [1, 2, 0] rfl)
      replace h := tf_neg c55 h
      refine lv_aload_n hx hb dX7_put_80 rfl (lv_at hl 1 rfl) ?_
      refine tf_get (C := RX7) (T := TX7) (N := 35) hx hb hts hn_X7 hown hK hI 0 (tf_mat_0 ad cI cZ _) rfl 7 (by decide) hf_32 rfl rfl dX7_put_81 ?_
      refine lv_iload hx hb dX7_put_84 (lv_at hl 0 rfl) ?_
      obtain ⟨b56, h⟩ := tf_gin h
      refine va_iald hx hb hK hI.1 6 0 (tf_mat_6 ad cI cZ _) rfl b56 dX7_put_86 ?_
      refine lv_if_ne (tgt := 99) hx hb dX7_put_87 (by decide) (fun c57 => ?_) (fun c57 => ?_)
      · replace h := tf_neg c57 h
        exact j99 _ ih _ _ _ _ _ h hI (lv_sub hl [1, 2, 0] rfl)
      replace h := tf_pos c57 h
      refine lv_aload_n hx hb dX7_put_90 rfl (lv_at hl 1 rfl) ?_
      refine tf_get (C := RX7) (T := TX7) (N := 35) hx hb hts hn_X7 hown hK hI 0 (tf_mat_0 ad cI cZ _) rfl 8 (by decide) hf_35 rfl rfl dX7_put_91 ?_
      refine lv_iload hx hb dX7_put_94 (lv_at hl 0 rfl) ?_
      refine lv_iload hx hb dX7_put_96 (lv_at hl 0 rfl) ?_
      obtain ⟨b58, h⟩ := tf_gin h
      obtain ⟨s59, es59, h⟩ := tf_glet h
      refine tf_iast hx hb hK hI 7 0 (tf_mat_7 ad cI cZ _) (tf_mset_7 ad cI cZ _) rfl b58 es59 dX7_put_98 (fun H locs hI => ?_)
      exact j99 _ ih _ _ _ _ _ h hI (lv_sub hl [1, 2, 0] rfl)
  have j3 : ∀ n : Nat, ∀ (σ : tf_S) (y4 : Int32) (H : Heap) (locs : List Loc) (ls : Array Slot), fX7_put_3 x1 x2 x3 n σ y4 = some z → tf_I D (tf_wm ad cI cZ) s.heap σ H locs → lv_has ls 6 [(0, .ref (ad 0)), (1, .int x1), (2, .int x2), (3, .int x3), (4, .int y4)] → W p l e (headSpec wsX7_put ({ frames := 1, cells := 0, slots := 0, locals := 24 })).room s m ([.ref (ad 0), .int x1, .int x2, .int x3] : List Value).toArray below meth c H locs 0 0 (tf_Q below D (tf_wm ad cI cZ) z ([.ref (ad 0), .int x1, .int x2, .int x3] : List Value).toArray s) (F0 m 3 ls []) := by
    intro n
    induction n with
    | zero =>
      intro σ y4 H locs ls h
      rw [fX7_put_3] at h
      cases h
    | succ n ih =>
      intro σ y4 H locs ls h hI hl
      rw [fX7_put_3] at h
      refine lv_iload hx hb dX7_put_3 (lv_at hl 4 rfl) ?_
      refine lv_bipush (v := 80) hx hb dX7_put_5 (by decide +kernel) ?_
      refine lv_icmp_ge (tgt := 24) hx hb dX7_put_7 (by decide) (fun c1 => ?_) (fun c1 => ?_)
      · replace h := tf_pos c1 h
        refine lv_aload_n hx hb dX7_put_24 rfl (lv_at hl 0 rfl) ?_
        refine tf_get (C := RX7) (T := TX7) (N := 35) hx hb hts hn_X7 hown hK hI 0 (tf_mat_0 ad cI cZ _) rfl 8 (by decide) hf_35 rfl rfl dX7_put_25 ?_
        refine lv_iconst (v := 4) hx hb dX7_put_28 (by decide +kernel) ?_
        refine lv_iload_n hx hb dX7_put_29 rfl (lv_at hl 2 rfl) ?_
        obtain ⟨b2, h⟩ := tf_gin h
        obtain ⟨s3, es3, h⟩ := tf_glet h
        refine tf_iast hx hb hK hI 7 0 (tf_mat_7 ad cI cZ _) (tf_mset_7 ad cI cZ _) rfl b2 es3 dX7_put_30 (fun H locs hI => ?_)
        refine lv_aload_n hx hb dX7_put_31 rfl (lv_at hl 0 rfl) ?_
        refine tf_get (C := RX7) (T := TX7) (N := 35) hx hb hts hn_X7 hown hK hI 0 (tf_mat_0 ad cI cZ _) rfl 8 (by decide) hf_35 rfl rfl dX7_put_32 ?_
        refine lv_iconst (v := 5) hx hb dX7_put_35 (by decide +kernel) ?_
        refine lv_iload_n hx hb dX7_put_36 rfl (lv_at hl 3 rfl) ?_
        obtain ⟨b4, h⟩ := tf_gin h
        obtain ⟨s5, es5, h⟩ := tf_glet h
        refine tf_iast hx hb hK hI 7 0 (tf_mat_7 ad cI cZ _) (tf_mset_7 ad cI cZ _) rfl b4 es5 dX7_put_37 (fun H locs hI => ?_)
        refine lv_aload_n hx hb dX7_put_38 rfl (lv_at hl 0 rfl) ?_
        refine lv_iconst (v := 0) hx hb dX7_put_39 (by decide +kernel) ?_
        obtain ⟨s6, es6, h⟩ := tf_glet h
        refine tf_put (C := RX7) (T := TX7) (N := 35) (ty := .int) hx hb hts hn_X7 tyX7 tyX7_ok nmX7 hown hK hI 0 (tf_mat_0 ad cI cZ _) rfl 10 (by decide) hf_123 rfl rfl (by decide +kernel) rfl rfl (Nat.le_of_ble_eq_true rfl) (tf_mput_0_10 ad cI cZ _ _) es6 dX7_put_40 (fun H locs hI => ?_)
        refine lv_aload_n hx hb dX7_put_43 rfl (lv_at hl 0 rfl) ?_
        refine lv_iload_n hx hb dX7_put_44 rfl (lv_at hl 1 rfl) ?_
        obtain ⟨u7, q8, h⟩ := tf_gbind h
        refine tf_callVv (rest := []) ⟨hx, hb, hml, hown, hts⟩ hK hN hI (kM_X7_push l D ad cI cZ _ _ _ q8) (cwV 1 hts gX7_put_X7_push rfl rfl rfl (by decide +kernel) ⟨Nat.le_of_ble_eq_true rfl, Nat.le_of_ble_eq_true rfl⟩) 0 7 (tf_mat_0 ad cI cZ _) rfl rfl hl.1 rfl (Nat.le_of_ble_eq_true rfl) dX7_put_45 (fun H locs hI => ?_)
        exact j48  _ _ _ _ _ h hI (lv_sub hl [0, 1] rfl)
      replace h := tf_neg c1 h
      refine lv_aload_n hx hb dX7_put_10 rfl (lv_at hl 0 rfl) ?_
      refine tf_get (C := RX7) (T := TX7) (N := 35) hx hb hts hn_X7 hown hK hI 0 (tf_mat_0 ad cI cZ _) rfl 8 (by decide) hf_35 rfl rfl dX7_put_11 ?_
      refine lv_iload hx hb dX7_put_14 (lv_at hl 4 rfl) ?_
      refine lv_iconst (v := -1) hx hb dX7_put_16 (by decide +kernel) ?_
      obtain ⟨b60, h⟩ := tf_gin h
      obtain ⟨s61, es61, h⟩ := tf_glet h
      refine tf_iast hx hb hK hI 7 0 (tf_mat_7 ad cI cZ _) (tf_mset_7 ad cI cZ _) rfl b60 es61 dX7_put_17 (fun H locs hI => ?_)
      obtain ⟨v62, ev62, h⟩ := tf_glet h
      refine lv_iinc (v := v62) (lv' := [(4, .int v62), (0, .ref (ad 0)), (1, .int x1), (2, .int x2), (3, .int x3)]) hx hb dX7_put_18 hl (k := 4) rfl (by rw [ev62]; rfl) (by decide) rfl (fun ls hl => ?_)
      refine lv_goto (tgt := 3) hx hb dX7_put_21 (by decide) ?_
      exact ih _ _ _ _ _ h hI (lv_sub hl [1, 2, 3, 4, 0] rfl)
  unfold fX7_put at h
  refine lv_iconst (v := 0) hx hb dX7_put_0 (by decide +kernel) ?_
  refine lv_istore (lv' := [(4, .int (0 : Int32)), (0, .ref (ad 0)), (1, .int x1), (2, .int x2), (3, .int x3)]) hx hb dX7_put_1 hl (by decide) rfl (fun ls hl => ?_)
  exact j3  _ _ _ _ _ _ h hI (lv_sub hl [1, 2, 3, 4, 0] rfl)

set_option maxHeartbeats 4000000 in
set_option maxRecDepth 100000 in
theorem kM_X7_comesFrom (l : Launch) (D : va_G) (ad : Nat → Nat) (cI cZ : ClassId) (σ : tf_S) (x1 x2 : Int32) (z : Int32 × tf_S) (h : fX7_comesFrom σ x1 x2 = some z) : tf_C l D (tf_wm ad cI cZ) [(cI, .int), (cZ, .boolean)] [] yX7_comesFrom wsX7_comesFrom ({ frames := 0, cells := 0, slots := 0, locals := 0 }) [.ref (ad 0), .int x1, .int x2] σ z := by
  intro sz
  refine Met.ofW (cc := cX7_comesFrom) (maxL := 4) (ret := (some .boolean)) (by decide) rfl ?_
  intro p e s m args below meth c s₁ B hml hv
  obtain ⟨rfl, hsz, hP, hK, hN, hD0⟩ := hv
  have hx := B.exec
  have hb := B.bytes
  have hr := B.returns
  have hts := atoms_spec (ws := wsX7_comesFrom) B.pre
  have hown : s.vm.findClass RX7 = some m.cls := findClass_of_methodNamed B.named
  have hlocks := B.notSynchronized
  subst hsz
  have hI := tf_start (D := D) (tf_m_ad ad cI cZ) hP hD0
  have hl := lv_entry ([.ref (ad 0), .int x1, .int x2]) (n := 4) (Nat.le_of_ble_eq_true rfl)
  rw [lg_entry_eq]
  generalize (lg_sl ([.ref (ad 0), .int x1, .int x2]) ++ List.replicate (4 - (lg_sl ([.ref (ad 0), .int x1, .int x2])).length) Slot.unset).toArray = ls at hl ⊢
  have hl : lv_has ls 4 [(0, .ref (ad 0)), (1, .int x1), (2, .int x2)] := hl
  have hn_X7 : ∀ w ∈ u_ws RX7 TX7 35, w ∈ wsX7_comesFrom := by decide +kernel
  have hf_17 := hts (.fieldLink RX7 17 "TypeFlowModel" "parent" "[I") (by decide +kernel)
  have hf_23 := hts (.fieldLink RX7 23 "TypeFlowModel" "classes0" "[I") (by decide +kernel)
  have j2 : ∀ n : Nat, ∀ (σ : tf_S) (y3 : Int32) (H : Heap) (locs : List Loc) (ls : Array Slot), fX7_comesFrom_2 x1 x2 n σ y3 = some z → tf_I D (tf_wm ad cI cZ) s.heap σ H locs → lv_has ls 4 [(0, .ref (ad 0)), (2, .int x2), (3, .int y3)] → W p l e (headSpec wsX7_comesFrom ({ frames := 0, cells := 0, slots := 0, locals := 0 })).room s m ([.ref (ad 0), .int x1, .int x2] : List Value).toArray below meth c H locs 0 0 (tf_Q below D (tf_wm ad cI cZ) z ([.ref (ad 0), .int x1, .int x2] : List Value).toArray s) (F0 m 2 ls []) := by
    intro n
    induction n with
    | zero =>
      intro σ y3 H locs ls h
      rw [fX7_comesFrom_2] at h
      cases h
    | succ n ih =>
      intro σ y3 H locs ls h hI hl
      rw [fX7_comesFrom_2] at h
      refine lv_iload_n hx hb dX7_comesFrom_2 rfl (lv_at hl 2 rfl) ?_
      refine lv_iload_n hx hb dX7_comesFrom_3 rfl (lv_at hl 1 rfl) ?_
      refine lv_icmp_eq (tgt := 26) hx hb dX7_comesFrom_4 (by decide) (fun c1 => ?_) (fun c1 => ?_)
      · replace h := tf_pos c1 h
        refine lv_iload_n hx hb dX7_comesFrom_26 rfl (lv_at hl 2 rfl) ?_
        refine lv_iload_n hx hb dX7_comesFrom_27 rfl (lv_at hl 1 rfl) ?_
        refine lv_icmp_ne (tgt := 35) hx hb dX7_comesFrom_28 (by decide) (fun c2 => ?_) (fun c2 => ?_)
        · replace h := tf_neg c2 h
          refine lv_iconst (v := 0) hx hb dX7_comesFrom_35 (by decide +kernel) ?_
          exact tf_zret hx hb hr (Or.inl rfl) hI h dX7_comesFrom_36 hlocks
        replace h := tf_pos c2 h
        refine lv_iconst (v := 1) hx hb dX7_comesFrom_31 (by decide +kernel) ?_
        refine lv_goto (tgt := 36) hx hb dX7_comesFrom_32 (by decide) ?_
        exact tf_zret hx hb hr (Or.inr rfl) hI h dX7_comesFrom_36 hlocks
      replace h := tf_neg c1 h
      refine lv_iload_n hx hb dX7_comesFrom_7 rfl (lv_at hl 2 rfl) ?_
      refine lv_if_eq (tgt := 26) hx hb dX7_comesFrom_8 (by decide) (fun c3 => ?_) (fun c3 => ?_)
      · replace h := tf_pos c3 h
        refine lv_iload_n hx hb dX7_comesFrom_26 rfl (lv_at hl 2 rfl) ?_
        refine lv_iload_n hx hb dX7_comesFrom_27 rfl (lv_at hl 1 rfl) ?_
        refine lv_icmp_ne (tgt := 35) hx hb dX7_comesFrom_28 (by decide) (fun c4 => ?_) (fun c4 => ?_)
        · replace h := tf_neg c4 h
          refine lv_iconst (v := 0) hx hb dX7_comesFrom_35 (by decide +kernel) ?_
          exact tf_zret hx hb hr (Or.inl rfl) hI h dX7_comesFrom_36 hlocks
        replace h := tf_pos c4 h
        refine lv_iconst (v := 1) hx hb dX7_comesFrom_31 (by decide +kernel) ?_
        refine lv_goto (tgt := 36) hx hb dX7_comesFrom_32 (by decide) ?_
        exact tf_zret hx hb hr (Or.inr rfl) hI h dX7_comesFrom_36 hlocks
      replace h := tf_neg c3 h
      refine lv_aload_n hx hb dX7_comesFrom_11 rfl (lv_at hl 0 rfl) ?_
      refine tf_get (C := RX7) (T := TX7) (N := 35) hx hb hts hn_X7 hown hK hI 0 (tf_mat_0 ad cI cZ _) rfl 4 (by decide) hf_23 rfl rfl dX7_comesFrom_12 ?_
      refine lv_aload_n hx hb dX7_comesFrom_15 rfl (lv_at hl 0 rfl) ?_
      refine tf_get (C := RX7) (T := TX7) (N := 35) hx hb hts hn_X7 hown hK hI 0 (tf_mat_0 ad cI cZ _) rfl 2 (by decide) hf_17 rfl rfl dX7_comesFrom_16 ?_
      refine lv_iload_n hx hb dX7_comesFrom_19 rfl (lv_at hl 2 rfl) ?_
      obtain ⟨b5, h⟩ := tf_gin h
      refine va_iald hx hb hK hI.1 2 0 (tf_mat_2 ad cI cZ _) rfl b5 dX7_comesFrom_20 ?_
      obtain ⟨b6, h⟩ := tf_gin h
      refine va_iald hx hb hK hI.1 3 0 (tf_mat_3 ad cI cZ _) rfl b6 dX7_comesFrom_21 ?_
      obtain ⟨v7, ev7, h⟩ := tf_glet h
      refine tf_top ev7 ?_
      refine lv_istore_n (lv' := [(3, .int v7), (0, .ref (ad 0)), (2, .int x2)]) hx hb dX7_comesFrom_22 rfl hl (by decide) rfl (fun ls hl => ?_)
      refine lv_goto (tgt := 2) hx hb dX7_comesFrom_23 (by decide) ?_
      exact ih _ _ _ _ _ h hI (lv_sub hl [1, 2, 0] rfl)
  unfold fX7_comesFrom at h
  refine lv_iload_n hx hb dX7_comesFrom_0 rfl (lv_at hl 1 rfl) ?_
  refine lv_istore_n (lv' := [(3, .int x1), (0, .ref (ad 0)), (1, .int x1), (2, .int x2)]) hx hb dX7_comesFrom_1 rfl hl (by decide) rfl (fun ls hl => ?_)
  exact j2  _ _ _ _ _ _ h hI (lv_sub hl [1, 3, 0] rfl)

set_option maxHeartbeats 4000000 in
set_option maxRecDepth 100000 in
theorem kM_X7_seenAs (l : Launch) (D : va_G) (ad : Nat → Nat) (cI cZ : ClassId) (σ : tf_S) (x1 x2 : Int32) (z : Int32 × tf_S) (h : fX7_seenAs σ x1 x2 = some z) : tf_C l D (tf_wm ad cI cZ) [(cI, .int), (cZ, .boolean)] [] yX7_seenAs wsX7_seenAs ({ frames := 2, cells := 0, slots := 0, locals := 49 }) [.ref (ad 0), .int x1, .int x2] σ z := by
  intro sz
  refine Met.ofW (cc := cX7_seenAs) (maxL := 4) (ret := (some .int)) (by decide) rfl ?_
  intro p e s m args below meth c s₁ B hml hv
  obtain ⟨rfl, hsz, hP, hK, hN, hD0⟩ := hv
  have hx := B.exec
  have hb := B.bytes
  have hr := B.returns
  have hts := atoms_spec (ws := wsX7_seenAs) B.pre
  have hown : s.vm.findClass RX7 = some m.cls := findClass_of_methodNamed B.named
  have hlocks := B.notSynchronized
  subst hsz
  have hI := tf_start (D := D) (tf_m_ad ad cI cZ) hP hD0
  have hl := lv_entry ([.ref (ad 0), .int x1, .int x2]) (n := 4) (Nat.le_of_ble_eq_true rfl)
  rw [lg_entry_eq]
  generalize (lg_sl ([.ref (ad 0), .int x1, .int x2]) ++ List.replicate (4 - (lg_sl ([.ref (ad 0), .int x1, .int x2])).length) Slot.unset).toArray = ls at hl ⊢
  have hl : lv_has ls 4 [(0, .ref (ad 0)), (1, .int x1), (2, .int x2)] := hl
  have hn_X7 : ∀ w ∈ u_ws RX7 TX7 35, w ∈ wsX7_seenAs := by decide +kernel
  have hf_17 := hts (.fieldLink RX7 17 "TypeFlowModel" "parent" "[I") (by decide +kernel)
  have hf_23 := hts (.fieldLink RX7 23 "TypeFlowModel" "classes0" "[I") (by decide +kernel)
  have hf_26 := hts (.fieldLink RX7 26 "TypeFlowModel" "first" "[I") (by decide +kernel)
  have hf_29 := hts (.fieldLink RX7 29 "TypeFlowModel" "second" "[I") (by decide +kernel)
  have j18 : ∀ n : Nat, ∀ (σ : tf_S) (y3 : Int32) (H : Heap) (locs : List Loc) (ls : Array Slot), fX7_seenAs_18 x1 x2 n σ y3 = some z → tf_I D (tf_wm ad cI cZ) s.heap σ H locs → lv_has ls 4 [(0, .ref (ad 0)), (2, .int x2), (3, .int y3)] → W p l e (headSpec wsX7_seenAs ({ frames := 2, cells := 0, slots := 0, locals := 49 })).room s m ([.ref (ad 0), .int x1, .int x2] : List Value).toArray below meth c H locs 0 0 (tf_Q below D (tf_wm ad cI cZ) z ([.ref (ad 0), .int x1, .int x2] : List Value).toArray s) (F0 m 18 ls []) := by
    intro n
    induction n with
    | zero =>
      intro σ y3 H locs ls h
      rw [fX7_seenAs_18] at h
      cases h
    | succ n ih =>
      intro σ y3 H locs ls h hI hl
      rw [fX7_seenAs_18] at h
      refine lv_iload_n hx hb dX7_seenAs_18 rfl (lv_at hl 2 rfl) ?_
      refine lv_if_lt (tgt := 63) hx hb dX7_seenAs_19 (by decide) (fun c5 => ?_) (fun c5 => ?_)
      · replace h := tf_pos c5 h
        refine lv_iload_n hx hb dX7_seenAs_63 rfl (lv_at hl 2 rfl) ?_
        exact tf_iret hx hb hr hI h dX7_seenAs_64 hlocks
      replace h := tf_neg c5 h
      refine lv_aload_n hx hb dX7_seenAs_22 rfl (lv_at hl 0 rfl) ?_
      refine tf_get (C := RX7) (T := TX7) (N := 35) hx hb hts hn_X7 hown hK hI 0 (tf_mat_0 ad cI cZ _) rfl 4 (by decide) hf_23 rfl rfl dX7_seenAs_23 ?_
      refine lv_iload_n hx hb dX7_seenAs_26 rfl (lv_at hl 2 rfl) ?_
      obtain ⟨b6, h⟩ := tf_gin h
      refine va_iald hx hb hK hI.1 3 0 (tf_mat_3 ad cI cZ _) rfl b6 dX7_seenAs_27 ?_
      refine lv_iload_n hx hb dX7_seenAs_28 rfl (lv_at hl 1 rfl) ?_
      refine lv_icmp_eq (tgt := 63) hx hb dX7_seenAs_29 (by decide) (fun c7 => ?_) (fun c7 => ?_)
      · replace h := tf_pos c7 h
        refine lv_iload_n hx hb dX7_seenAs_63 rfl (lv_at hl 2 rfl) ?_
        exact tf_iret hx hb hr hI h dX7_seenAs_64 hlocks
      replace h := tf_neg c7 h
      refine lv_aload_n hx hb dX7_seenAs_32 rfl (lv_at hl 0 rfl) ?_
      refine lv_aload_n hx hb dX7_seenAs_33 rfl (lv_at hl 0 rfl) ?_
      refine tf_get (C := RX7) (T := TX7) (N := 35) hx hb hts hn_X7 hown hK hI 0 (tf_mat_0 ad cI cZ _) rfl 2 (by decide) hf_17 rfl rfl dX7_seenAs_34 ?_
      refine lv_aload_n hx hb dX7_seenAs_37 rfl (lv_at hl 0 rfl) ?_
      refine tf_get (C := RX7) (T := TX7) (N := 35) hx hb hts hn_X7 hown hK hI 0 (tf_mat_0 ad cI cZ _) rfl 4 (by decide) hf_23 rfl rfl dX7_seenAs_38 ?_
      refine lv_iload_n hx hb dX7_seenAs_41 rfl (lv_at hl 2 rfl) ?_
      obtain ⟨b8, h⟩ := tf_gin h
      refine va_iald hx hb hK hI.1 3 0 (tf_mat_3 ad cI cZ _) rfl b8 dX7_seenAs_42 ?_
      obtain ⟨b9, h⟩ := tf_gin h
      refine va_iald hx hb hK hI.1 2 0 (tf_mat_2 ad cI cZ _) rfl b9 dX7_seenAs_43 ?_
      refine lv_aload_n hx hb dX7_seenAs_44 rfl (lv_at hl 0 rfl) ?_
      refine tf_get (C := RX7) (T := TX7) (N := 35) hx hb hts hn_X7 hown hK hI 0 (tf_mat_0 ad cI cZ _) rfl 5 (by decide) hf_26 rfl rfl dX7_seenAs_45 ?_
      refine lv_iload_n hx hb dX7_seenAs_48 rfl (lv_at hl 2 rfl) ?_
      obtain ⟨b10, h⟩ := tf_gin h
      refine va_iald hx hb hK hI.1 4 0 (tf_mat_4 ad cI cZ _) rfl b10 dX7_seenAs_49 ?_
      refine lv_aload_n hx hb dX7_seenAs_50 rfl (lv_at hl 0 rfl) ?_
      refine tf_get (C := RX7) (T := TX7) (N := 35) hx hb hts hn_X7 hown hK hI 0 (tf_mat_0 ad cI cZ _) rfl 6 (by decide) hf_29 rfl rfl dX7_seenAs_51 ?_
      refine lv_iload_n hx hb dX7_seenAs_54 rfl (lv_at hl 2 rfl) ?_
      obtain ⟨b11, h⟩ := tf_gin h
      refine va_iald hx hb hK hI.1 5 0 (tf_mat_5 ad cI cZ _) rfl b11 dX7_seenAs_55 ?_
      obtain ⟨u12, q13, h⟩ := tf_gbind h
      refine tf_callV (rest := []) ⟨hx, hb, hml, hown, hts⟩ hK hN hI (kM_X7_put l D ad cI cZ _ _ _ _ _ q13) (cwV 3 hts gX7_seenAs_X7_put rfl rfl rfl (by decide +kernel) ⟨Nat.le_of_ble_eq_true rfl, Nat.le_of_ble_eq_true rfl⟩) 0 7 (tf_mat_0 ad cI cZ _) rfl rfl hl.1 rfl (Nat.le_of_ble_eq_true rfl) dX7_seenAs_56 (fun H locs hI => ?_)
      obtain ⟨v14, ev14, h⟩ := tf_glet h
      refine tf_top ev14 ?_
      refine lv_istore_n (lv' := [(3, .int v14), (0, .ref (ad 0)), (2, .int x2)]) hx hb dX7_seenAs_59 rfl hl (by decide) rfl (fun ls hl => ?_)
      refine lv_goto (tgt := 18) hx hb dX7_seenAs_60 (by decide) ?_
      exact ih _ _ _ _ _ h hI (lv_sub hl [1, 2, 0] rfl)
  unfold fX7_seenAs at h
  refine lv_aload_n hx hb dX7_seenAs_0 rfl (lv_at hl 0 rfl) ?_
  refine lv_aload_n hx hb dX7_seenAs_1 rfl (lv_at hl 0 rfl) ?_
  refine tf_get (C := RX7) (T := TX7) (N := 35) hx hb hts hn_X7 hown hK hI 0 (tf_mat_0 ad cI cZ _) rfl 4 (by decide) hf_23 rfl rfl dX7_seenAs_2 ?_
  refine lv_iload_n hx hb dX7_seenAs_5 rfl (lv_at hl 1 rfl) ?_
  obtain ⟨b1, h⟩ := tf_gin h
  refine va_iald hx hb hK hI.1 3 0 (tf_mat_3 ad cI cZ _) rfl b1 dX7_seenAs_6 ?_
  refine lv_iload_n hx hb dX7_seenAs_7 rfl (lv_at hl 2 rfl) ?_
  obtain ⟨u2, q3, h⟩ := tf_gbind h
  refine tf_callV (rest := []) ⟨hx, hb, hml, hown, hts⟩ hK hN hI (kM_X7_comesFrom l D ad cI cZ _ _ _ _ q3) (cwV 2 hts gX7_seenAs_X7_comesFrom rfl rfl rfl (by decide +kernel) ⟨Nat.le_of_ble_eq_true rfl, Nat.le_of_ble_eq_true rfl⟩) 0 7 (tf_mat_0 ad cI cZ _) rfl rfl hl.1 rfl (Nat.le_of_ble_eq_true rfl) dX7_seenAs_8 (fun H locs hI => ?_)
  refine lv_if_ne (tgt := 16) hx hb dX7_seenAs_11 (by decide) (fun c4 => ?_) (fun c4 => ?_)
  · replace h := tf_neg c4 h
    refine lv_iload_n hx hb dX7_seenAs_16 rfl (lv_at hl 1 rfl) ?_
    refine lv_istore_n (lv' := [(3, .int x1), (0, .ref (ad 0)), (1, .int x1), (2, .int x2)]) hx hb dX7_seenAs_17 rfl hl (by decide) rfl (fun ls hl => ?_)
    exact j18  _ _ _ _ _ _ h hI (lv_sub hl [1, 3, 0] rfl)
  replace h := tf_pos c4 h
  refine lv_iconst (v := -1) hx hb dX7_seenAs_14 (by decide +kernel) ?_
  exact tf_iret hx hb hr hI h dX7_seenAs_15 hlocks

set_option maxHeartbeats 4000000 in
set_option maxRecDepth 100000 in
theorem kM_X7_seen (l : Launch) (D : va_G) (ad : Nat → Nat) (cI cZ : ClassId) (σ : tf_S) (x1 x2 : Int32) (z : Int32 × tf_S) (h : fX7_seen σ x1 x2 = some z) : tf_C l D (tf_wm ad cI cZ) [(cI, .int), (cZ, .boolean)] [] yX7_seen wsX7_seen ({ frames := 3, cells := 0, slots := 0, locals := 72 }) [.ref (ad 0), .int x1, .int x2] σ z := by
  intro sz
  refine Met.ofW (cc := cX7_seen) (maxL := 3) (ret := (some .int)) (by decide) rfl ?_
  intro p e s m args below meth c s₁ B hml hv
  obtain ⟨rfl, hsz, hP, hK, hN, hD0⟩ := hv
  have hx := B.exec
  have hb := B.bytes
  have hr := B.returns
  have hts := atoms_spec (ws := wsX7_seen) B.pre
  have hown : s.vm.findClass RX7 = some m.cls := findClass_of_methodNamed B.named
  have hlocks := B.notSynchronized
  subst hsz
  have hI := tf_start (D := D) (tf_m_ad ad cI cZ) hP hD0
  have hl := lv_entry ([.ref (ad 0), .int x1, .int x2]) (n := 3) (Nat.le_of_ble_eq_true rfl)
  rw [lg_entry_eq]
  generalize (lg_sl ([.ref (ad 0), .int x1, .int x2]) ++ List.replicate (3 - (lg_sl ([.ref (ad 0), .int x1, .int x2])).length) Slot.unset).toArray = ls at hl ⊢
  have hl : lv_has ls 3 [(0, .ref (ad 0)), (1, .int x1), (2, .int x2)] := hl
  unfold fX7_seen at h
  refine lv_aload_n hx hb dX7_seen_0 rfl (lv_at hl 0 rfl) ?_
  refine lv_iload_n hx hb dX7_seen_1 rfl (lv_at hl 1 rfl) ?_
  obtain ⟨u1, q2, h⟩ := tf_gbind h
  refine tf_callV (rest := []) ⟨hx, hb, hml, hown, hts⟩ hK hN hI (kM_X7_isClassType l D ad cI cZ _ _ _ q2) (cwV 1 hts gX7_seen_X7_isClassType rfl rfl rfl (by decide +kernel) ⟨Nat.le_of_ble_eq_true rfl, Nat.le_of_ble_eq_true rfl⟩) 0 7 (tf_mat_0 ad cI cZ _) rfl rfl hl.1 rfl (Nat.le_of_ble_eq_true rfl) dX7_seen_2 (fun H locs hI => ?_)
  refine lv_if_eq (tgt := 25) hx hb dX7_seen_5 (by decide) (fun c3 => ?_) (fun c3 => ?_)
  · replace h := tf_pos c3 h
    refine lv_bipush (v := -2) hx hb dX7_seen_25 (by decide +kernel) ?_
    exact tf_iret hx hb hr hI h dX7_seen_27 hlocks
  replace h := tf_neg c3 h
  refine lv_aload_n hx hb dX7_seen_8 rfl (lv_at hl 0 rfl) ?_
  refine lv_iload_n hx hb dX7_seen_9 rfl (lv_at hl 2 rfl) ?_
  obtain ⟨u4, q5, h⟩ := tf_gbind h
  refine tf_callV (rest := []) ⟨hx, hb, hml, hown, hts⟩ hK hN hI (kM_X7_isClass l D ad cI cZ _ _ _ q5) (cwV 1 hts gX7_seen_X7_isClass rfl rfl rfl (by decide +kernel) ⟨Nat.le_of_ble_eq_true rfl, Nat.le_of_ble_eq_true rfl⟩) 0 7 (tf_mat_0 ad cI cZ _) rfl rfl hl.1 rfl (Nat.le_of_ble_eq_true rfl) dX7_seen_10 (fun H locs hI => ?_)
  refine lv_if_eq (tgt := 25) hx hb dX7_seen_13 (by decide) (fun c6 => ?_) (fun c6 => ?_)
  · replace h := tf_pos c6 h
    refine lv_bipush (v := -2) hx hb dX7_seen_25 (by decide +kernel) ?_
    exact tf_iret hx hb hr hI h dX7_seen_27 hlocks
  replace h := tf_neg c6 h
  refine lv_aload_n hx hb dX7_seen_16 rfl (lv_at hl 0 rfl) ?_
  refine lv_iload_n hx hb dX7_seen_17 rfl (lv_at hl 1 rfl) ?_
  refine lv_iload_n hx hb dX7_seen_18 rfl (lv_at hl 2 rfl) ?_
  obtain ⟨u7, q8, h⟩ := tf_gbind h
  refine tf_callV (rest := []) ⟨hx, hb, hml, hown, hts⟩ hK hN hI (kM_X7_seenAs l D ad cI cZ _ _ _ _ q8) (cwV 2 hts gX7_seen_X7_seenAs rfl rfl rfl (by decide +kernel) ⟨Nat.le_of_ble_eq_true rfl, Nat.le_of_ble_eq_true rfl⟩) 0 7 (tf_mat_0 ad cI cZ _) rfl rfl hl.1 rfl (Nat.le_of_ble_eq_true rfl) dX7_seen_19 (fun H locs hI => ?_)
  refine lv_goto (tgt := 27) hx hb dX7_seen_22 (by decide) ?_
  exact tf_iret hx hb hr hI h dX7_seen_27 hlocks

set_option maxHeartbeats 4000000 in
set_option maxRecDepth 100000 in
theorem kM_X7_goesFor (l : Launch) (D : va_G) (ad : Nat → Nat) (cI cZ : ClassId) (σ : tf_S) (x1 x2 : Int32) (z : Int32 × tf_S) (h : fX7_goesFor σ x1 x2 = some z) : tf_C l D (tf_wm ad cI cZ) [(cI, .int), (cZ, .boolean)] [] yX7_goesFor wsX7_goesFor ({ frames := 3, cells := 0, slots := 0, locals := 72 }) [.ref (ad 0), .int x1, .int x2] σ z := by
  intro sz
  refine Met.ofW (cc := cX7_goesFor) (maxL := 4) (ret := (some .int)) (by decide) rfl ?_
  intro p e s m args below meth c s₁ B hml hv
  obtain ⟨rfl, hsz, hP, hK, hN, hD0⟩ := hv
  have hx := B.exec
  have hb := B.bytes
  have hr := B.returns
  have hts := atoms_spec (ws := wsX7_goesFor) B.pre
  have hown : s.vm.findClass RX7 = some m.cls := findClass_of_methodNamed B.named
  have hlocks := B.notSynchronized
  subst hsz
  have hI := tf_start (D := D) (tf_m_ad ad cI cZ) hP hD0
  have hl := lv_entry ([.ref (ad 0), .int x1, .int x2]) (n := 4) (Nat.le_of_ble_eq_true rfl)
  rw [lg_entry_eq]
  generalize (lg_sl ([.ref (ad 0), .int x1, .int x2]) ++ List.replicate (4 - (lg_sl ([.ref (ad 0), .int x1, .int x2])).length) Slot.unset).toArray = ls at hl ⊢
  have hl : lv_has ls 4 [(0, .ref (ad 0)), (1, .int x1), (2, .int x2)] := hl
  have hn_X7 : ∀ w ∈ u_ws RX7 TX7 35, w ∈ wsX7_goesFor := by decide +kernel
  have hf_23 := hts (.fieldLink RX7 23 "TypeFlowModel" "classes0" "[I") (by decide +kernel)
  have j21 : ∀ (σ : tf_S) (H : Heap) (locs : List Loc) (ls : Array Slot), fX7_goesFor_21 x1 x2 σ = some z → tf_I D (tf_wm ad cI cZ) s.heap σ H locs → lv_has ls 4 [(1, .int x1), (2, .int x2)] → W p l e (headSpec wsX7_goesFor ({ frames := 3, cells := 0, slots := 0, locals := 72 })).room s m ([.ref (ad 0), .int x1, .int x2] : List Value).toArray below meth c H locs 0 0 (tf_Q below D (tf_wm ad cI cZ) z ([.ref (ad 0), .int x1, .int x2] : List Value).toArray s) (F0 m 21 ls []) := by
    intro σ H locs ls h hI hl
    unfold fX7_goesFor_21 at h
    refine lv_iload_n hx hb dX7_goesFor_21 rfl (lv_at hl 0 rfl) ?_
    refine lv_iconst (v := 1) hx hb dX7_goesFor_22 (by decide +kernel) ?_
    refine lv_icmp_ne (tgt := 40) hx hb dX7_goesFor_23 (by decide) (fun c5 => ?_) (fun c5 => ?_)
    · replace h := tf_neg c5 h
      refine lv_iconst (v := 0) hx hb dX7_goesFor_40 (by decide +kernel) ?_
      exact tf_iret hx hb hr hI h dX7_goesFor_41 hlocks
    replace h := tf_pos c5 h
    refine lv_iload_n hx hb dX7_goesFor_26 rfl (lv_at hl 1 rfl) ?_
    refine lv_iconst (v := 2) hx hb dX7_goesFor_27 (by decide +kernel) ?_
    refine lv_icmp_eq (tgt := 36) hx hb dX7_goesFor_28 (by decide) (fun c6 => ?_) (fun c6 => ?_)
    · replace h := tf_pos c6 h
      refine lv_iconst (v := 1) hx hb dX7_goesFor_36 (by decide +kernel) ?_
      refine lv_goto (tgt := 41) hx hb dX7_goesFor_37 (by decide) ?_
      exact tf_iret hx hb hr hI h dX7_goesFor_41 hlocks
    replace h := tf_neg c6 h
    refine lv_iload_n hx hb dX7_goesFor_31 rfl (lv_at hl 1 rfl) ?_
    refine lv_iconst (v := 3) hx hb dX7_goesFor_32 (by decide +kernel) ?_
    refine lv_icmp_ne (tgt := 40) hx hb dX7_goesFor_33 (by decide) (fun c7 => ?_) (fun c7 => ?_)
    · replace h := tf_neg c7 h
      refine lv_iconst (v := 0) hx hb dX7_goesFor_40 (by decide +kernel) ?_
      exact tf_iret hx hb hr hI h dX7_goesFor_41 hlocks
    replace h := tf_pos c7 h
    refine lv_iconst (v := 1) hx hb dX7_goesFor_36 (by decide +kernel) ?_
    refine lv_goto (tgt := 41) hx hb dX7_goesFor_37 (by decide) ?_
    exact tf_iret hx hb hr hI h dX7_goesFor_41 hlocks
  unfold fX7_goesFor at h
  refine lv_iload_n hx hb dX7_goesFor_0 rfl (lv_at hl 1 rfl) ?_
  refine lv_iload_n hx hb dX7_goesFor_1 rfl (lv_at hl 2 rfl) ?_
  refine lv_icmp_ne (tgt := 7) hx hb dX7_goesFor_2 (by decide) (fun c1 => ?_) (fun c1 => ?_)
  · replace h := tf_neg c1 h
    refine lv_iload_n hx hb dX7_goesFor_7 rfl (lv_at hl 1 rfl) ?_
    obtain ⟨u2, q3, h⟩ := tf_gbind h
    refine tf_callS (rest := []) ⟨hx, hb, hml, hown, hts⟩ hK hN hI (kM_X7_isPrimitive l D ad cI cZ _ _ _ q3) (va_cwS 1 hts gX7_goesFor_X7_isPrimitive rfl rfl rfl (by decide +kernel) ⟨Nat.le_of_ble_eq_true rfl, Nat.le_of_ble_eq_true rfl⟩) rfl hl.1 rfl (Nat.le_of_ble_eq_true rfl) dX7_goesFor_8 (fun H locs hI => ?_)
    refine lv_if_ne (tgt := 21) hx hb dX7_goesFor_11 (by decide) (fun c4 => ?_) (fun c4 => ?_)
    · replace h := tf_neg c4 h
      exact j21  _ _ _ _ h hI (lv_sub hl [1, 2] rfl)
    replace h := tf_pos c4 h
    refine lv_iload_n hx hb dX7_goesFor_14 rfl (lv_at hl 2 rfl) ?_
    obtain ⟨u8, q9, h⟩ := tf_gbind h
    refine tf_callS (rest := []) ⟨hx, hb, hml, hown, hts⟩ hK hN hI (kM_X7_isPrimitive l D ad cI cZ _ _ _ q9) (va_cwS 1 hts gX7_goesFor_X7_isPrimitive rfl rfl rfl (by decide +kernel) ⟨Nat.le_of_ble_eq_true rfl, Nat.le_of_ble_eq_true rfl⟩) rfl hl.1 rfl (Nat.le_of_ble_eq_true rfl) dX7_goesFor_15 (fun H locs hI => ?_)
    refine lv_if_eq (tgt := 42) hx hb dX7_goesFor_18 (by decide) (fun c10 => ?_) (fun c10 => ?_)
    · replace h := tf_pos c10 h
      refine lv_aload_n hx hb dX7_goesFor_42 rfl (lv_at hl 0 rfl) ?_
      refine lv_iload_n hx hb dX7_goesFor_43 rfl (lv_at hl 1 rfl) ?_
      refine lv_aload_n hx hb dX7_goesFor_44 rfl (lv_at hl 0 rfl) ?_
      refine tf_get (C := RX7) (T := TX7) (N := 35) hx hb hts hn_X7 hown hK hI 0 (tf_mat_0 ad cI cZ _) rfl 4 (by decide) hf_23 rfl rfl dX7_goesFor_45 ?_
      refine lv_iload_n hx hb dX7_goesFor_48 rfl (lv_at hl 2 rfl) ?_
      obtain ⟨b11, h⟩ := tf_gin h
      refine va_iald hx hb hK hI.1 3 0 (tf_mat_3 ad cI cZ _) rfl b11 dX7_goesFor_49 ?_
      obtain ⟨u12, q13, h⟩ := tf_gbind h
      refine tf_callV (rest := []) ⟨hx, hb, hml, hown, hts⟩ hK hN hI (kM_X7_seenAs l D ad cI cZ _ _ _ _ q13) (cwV 2 hts gX7_goesFor_X7_seenAs rfl rfl rfl (by decide +kernel) ⟨Nat.le_of_ble_eq_true rfl, Nat.le_of_ble_eq_true rfl⟩) 0 7 (tf_mat_0 ad cI cZ _) rfl rfl hl.1 rfl (Nat.le_of_ble_eq_true rfl) dX7_goesFor_50 (fun H locs hI => ?_)
      obtain ⟨v14, ev14, h⟩ := tf_glet h
      refine tf_top ev14 ?_
      refine lv_istore_n (lv' := [(3, .int v14), (0, .ref (ad 0)), (1, .int x1), (2, .int x2)]) hx hb dX7_goesFor_53 rfl hl (by decide) rfl (fun ls hl => ?_)
      refine lv_iload_n hx hb dX7_goesFor_54 rfl (lv_at hl 0 rfl) ?_
      refine lv_bipush (v := -3) hx hb dX7_goesFor_55 (by decide +kernel) ?_
      refine lv_icmp_ne (tgt := 65) hx hb dX7_goesFor_57 (by decide) (fun c15 => ?_) (fun c15 => ?_)
      · replace h := tf_neg c15 h
        refine lv_iload_n hx hb dX7_goesFor_65 rfl (lv_at hl 0 rfl) ?_
        refine lv_iload_n hx hb dX7_goesFor_66 rfl (lv_at hl 3 rfl) ?_
        refine lv_icmp_ne (tgt := 74) hx hb dX7_goesFor_67 (by decide) (fun c16 => ?_) (fun c16 => ?_)
        · replace h := tf_neg c16 h
          refine lv_iconst (v := 0) hx hb dX7_goesFor_74 (by decide +kernel) ?_
          exact tf_iret hx hb hr hI h dX7_goesFor_75 hlocks
        replace h := tf_pos c16 h
        refine lv_iconst (v := 1) hx hb dX7_goesFor_70 (by decide +kernel) ?_
        refine lv_goto (tgt := 75) hx hb dX7_goesFor_71 (by decide) ?_
        exact tf_iret hx hb hr hI h dX7_goesFor_75 hlocks
      replace h := tf_pos c15 h
      refine lv_bipush (v := -3) hx hb dX7_goesFor_60 (by decide +kernel) ?_
      refine lv_goto (tgt := 75) hx hb dX7_goesFor_62 (by decide) ?_
      exact tf_iret hx hb hr hI h dX7_goesFor_75 hlocks
    replace h := tf_neg c10 h
    exact j21  _ _ _ _ h hI (lv_sub hl [1, 2] rfl)
  replace h := tf_pos c1 h
  refine lv_iconst (v := 1) hx hb dX7_goesFor_5 (by decide +kernel) ?_
  exact tf_iret hx hb hr hI h dX7_goesFor_6 hlocks

set_option maxHeartbeats 4000000 in
set_option maxRecDepth 100000 in
theorem kM_X7_goes (l : Launch) (D : va_G) (ad : Nat → Nat) (cI cZ : ClassId) (σ : tf_S) (x1 x2 : Int32) (z : Int32 × tf_S) (h : fX7_goes σ x1 x2 = some z) : tf_C l D (tf_wm ad cI cZ) [(cI, .int), (cZ, .boolean)] [] yX7_goes wsX7_goes ({ frames := 4, cells := 0, slots := 0, locals := 95 }) [.ref (ad 0), .int x1, .int x2] σ z := by
  intro sz
  refine Met.ofW (cc := cX7_goes) (maxL := 3) (ret := (some .int)) (by decide) rfl ?_
  intro p e s m args below meth c s₁ B hml hv
  obtain ⟨rfl, hsz, hP, hK, hN, hD0⟩ := hv
  have hx := B.exec
  have hb := B.bytes
  have hr := B.returns
  have hts := atoms_spec (ws := wsX7_goes) B.pre
  have hown : s.vm.findClass RX7 = some m.cls := findClass_of_methodNamed B.named
  have hlocks := B.notSynchronized
  subst hsz
  have hI := tf_start (D := D) (tf_m_ad ad cI cZ) hP hD0
  have hl := lv_entry ([.ref (ad 0), .int x1, .int x2]) (n := 3) (Nat.le_of_ble_eq_true rfl)
  rw [lg_entry_eq]
  generalize (lg_sl ([.ref (ad 0), .int x1, .int x2]) ++ List.replicate (3 - (lg_sl ([.ref (ad 0), .int x1, .int x2])).length) Slot.unset).toArray = ls at hl ⊢
  have hl : lv_has ls 3 [(0, .ref (ad 0)), (1, .int x1), (2, .int x2)] := hl
  unfold fX7_goes at h
  refine lv_aload_n hx hb dX7_goes_0 rfl (lv_at hl 0 rfl) ?_
  refine lv_iload_n hx hb dX7_goes_1 rfl (lv_at hl 1 rfl) ?_
  obtain ⟨u1, q2, h⟩ := tf_gbind h
  refine tf_callV (rest := []) ⟨hx, hb, hml, hown, hts⟩ hK hN hI (kM_X7_isClosed l D ad cI cZ _ _ _ q2) (cwV 1 hts gX7_goes_X7_isClosed rfl rfl rfl (by decide +kernel) ⟨Nat.le_of_ble_eq_true rfl, Nat.le_of_ble_eq_true rfl⟩) 0 7 (tf_mat_0 ad cI cZ _) rfl rfl hl.1 rfl (Nat.le_of_ble_eq_true rfl) dX7_goes_2 (fun H locs hI => ?_)
  refine lv_if_eq (tgt := 25) hx hb dX7_goes_5 (by decide) (fun c3 => ?_) (fun c3 => ?_)
  · replace h := tf_pos c3 h
    refine lv_bipush (v := -2) hx hb dX7_goes_25 (by decide +kernel) ?_
    exact tf_iret hx hb hr hI h dX7_goes_27 hlocks
  replace h := tf_neg c3 h
  refine lv_aload_n hx hb dX7_goes_8 rfl (lv_at hl 0 rfl) ?_
  refine lv_iload_n hx hb dX7_goes_9 rfl (lv_at hl 2 rfl) ?_
  obtain ⟨u4, q5, h⟩ := tf_gbind h
  refine tf_callV (rest := []) ⟨hx, hb, hml, hown, hts⟩ hK hN hI (kM_X7_isClosed l D ad cI cZ _ _ _ q5) (cwV 1 hts gX7_goes_X7_isClosed rfl rfl rfl (by decide +kernel) ⟨Nat.le_of_ble_eq_true rfl, Nat.le_of_ble_eq_true rfl⟩) 0 7 (tf_mat_0 ad cI cZ _) rfl rfl hl.1 rfl (Nat.le_of_ble_eq_true rfl) dX7_goes_10 (fun H locs hI => ?_)
  refine lv_if_eq (tgt := 25) hx hb dX7_goes_13 (by decide) (fun c6 => ?_) (fun c6 => ?_)
  · replace h := tf_pos c6 h
    refine lv_bipush (v := -2) hx hb dX7_goes_25 (by decide +kernel) ?_
    exact tf_iret hx hb hr hI h dX7_goes_27 hlocks
  replace h := tf_neg c6 h
  refine lv_aload_n hx hb dX7_goes_16 rfl (lv_at hl 0 rfl) ?_
  refine lv_iload_n hx hb dX7_goes_17 rfl (lv_at hl 1 rfl) ?_
  refine lv_iload_n hx hb dX7_goes_18 rfl (lv_at hl 2 rfl) ?_
  obtain ⟨u7, q8, h⟩ := tf_gbind h
  refine tf_callV (rest := []) ⟨hx, hb, hml, hown, hts⟩ hK hN hI (kM_X7_goesFor l D ad cI cZ _ _ _ _ q8) (cwV 2 hts gX7_goes_X7_goesFor rfl rfl rfl (by decide +kernel) ⟨Nat.le_of_ble_eq_true rfl, Nat.le_of_ble_eq_true rfl⟩) 0 7 (tf_mat_0 ad cI cZ _) rfl rfl hl.1 rfl (Nat.le_of_ble_eq_true rfl) dX7_goes_19 (fun H locs hI => ?_)
  refine lv_goto (tgt := 27) hx hb dX7_goes_22 (by decide) ?_
  exact tf_iret hx hb hr hI h dX7_goes_27 hlocks

set_option maxHeartbeats 4000000 in
set_option maxRecDepth 100000 in
theorem kM_X7_commonOf (l : Launch) (D : va_G) (ad : Nat → Nat) (cI cZ : ClassId) (σ : tf_S) (x1 x2 : Int32) (z : Int32 × tf_S) (h : fX7_commonOf σ x1 x2 = some z) : tf_C l D (tf_wm ad cI cZ) [(cI, .int), (cZ, .boolean)] [] yX7_commonOf wsX7_commonOf ({ frames := 3, cells := 0, slots := 0, locals := 72 }) [.ref (ad 0), .int x1, .int x2] σ z := by
  intro sz
  refine Met.ofW (cc := cX7_commonOf) (maxL := 6) (ret := (some .int)) (by decide) rfl ?_
  intro p e s m args below meth c s₁ B hml hv
  obtain ⟨rfl, hsz, hP, hK, hN, hD0⟩ := hv
  have hx := B.exec
  have hb := B.bytes
  have hr := B.returns
  have hts := atoms_spec (ws := wsX7_commonOf) B.pre
  have hown : s.vm.findClass RX7 = some m.cls := findClass_of_methodNamed B.named
  have hlocks := B.notSynchronized
  subst hsz
  have hI := tf_start (D := D) (tf_m_ad ad cI cZ) hP hD0
  have hl := lv_entry ([.ref (ad 0), .int x1, .int x2]) (n := 6) (Nat.le_of_ble_eq_true rfl)
  rw [lg_entry_eq]
  generalize (lg_sl ([.ref (ad 0), .int x1, .int x2]) ++ List.replicate (6 - (lg_sl ([.ref (ad 0), .int x1, .int x2])).length) Slot.unset).toArray = ls at hl ⊢
  have hl : lv_has ls 6 [(0, .ref (ad 0)), (1, .int x1), (2, .int x2)] := hl
  have hn_X7 : ∀ w ∈ u_ws RX7 TX7 35, w ∈ wsX7_commonOf := by decide +kernel
  have hf_17 := hts (.fieldLink RX7 17 "TypeFlowModel" "parent" "[I") (by decide +kernel)
  have hf_23 := hts (.fieldLink RX7 23 "TypeFlowModel" "classes0" "[I") (by decide +kernel)
  have j40 : ∀ (σ : tf_S) (t0 : Int32) (H : Heap) (locs : List Loc) (ls : Array Slot), fX7_commonOf_40 x1 x2 σ t0 = some z → tf_I D (tf_wm ad cI cZ) s.heap σ H locs → lv_has ls 6 [] → W p l e (headSpec wsX7_commonOf ({ frames := 3, cells := 0, slots := 0, locals := 72 })).room s m ([.ref (ad 0), .int x1, .int x2] : List Value).toArray below meth c H locs 0 0 (tf_Q below D (tf_wm ad cI cZ) z ([.ref (ad 0), .int x1, .int x2] : List Value).toArray s) (F0 m 40 ls [.int t0]) := by
    intro σ t0 H locs ls h hI hl
    unfold fX7_commonOf_40 at h
    refine lv_istore_n (lv' := [(3, .int t0)]) hx hb dX7_commonOf_40 rfl hl (by decide) rfl (fun ls hl => ?_)
    refine lv_iload_n hx hb dX7_commonOf_41 rfl (lv_at hl 0 rfl) ?_
    refine lv_iconst (v := 2) hx hb dX7_commonOf_42 (by decide +kernel) ?_
    refine lv_icmp_eq (tgt := 51) hx hb dX7_commonOf_43 (by decide) (fun c7 => ?_) (fun c7 => ?_)
    · replace h := tf_pos c7 h
      refine lv_iload_n hx hb dX7_commonOf_51 rfl (lv_at hl 0 rfl) ?_
      refine lv_goto (tgt := 56) hx hb dX7_commonOf_52 (by decide) ?_
      exact tf_iret hx hb hr hI h dX7_commonOf_56 hlocks
    replace h := tf_neg c7 h
    refine lv_iload_n hx hb dX7_commonOf_46 rfl (lv_at hl 0 rfl) ?_
    refine lv_iconst (v := 3) hx hb dX7_commonOf_47 (by decide +kernel) ?_
    refine lv_icmp_ne (tgt := 55) hx hb dX7_commonOf_48 (by decide) (fun c8 => ?_) (fun c8 => ?_)
    · replace h := tf_neg c8 h
      refine lv_iconst (v := -1) hx hb dX7_commonOf_55 (by decide +kernel) ?_
      exact tf_iret hx hb hr hI h dX7_commonOf_56 hlocks
    replace h := tf_pos c8 h
    refine lv_iload_n hx hb dX7_commonOf_51 rfl (lv_at hl 0 rfl) ?_
    refine lv_goto (tgt := 56) hx hb dX7_commonOf_52 (by decide) ?_
    exact tf_iret hx hb hr hI h dX7_commonOf_56 hlocks
  have j104 : ∀ (k64 : tf_S → Int32 → Option (Int32 × tf_S)), (∀ (σ : tf_S) (y3 : Int32) (H : Heap) (locs : List Loc) (ls : Array Slot), k64 σ y3 = some z → tf_I D (tf_wm ad cI cZ) s.heap σ H locs → lv_has ls 6 [(0, .ref (ad 0)), (1, .int x1), (2, .int x2), (3, .int y3)] → W p l e (headSpec wsX7_commonOf ({ frames := 3, cells := 0, slots := 0, locals := 72 })).room s m ([.ref (ad 0), .int x1, .int x2] : List Value).toArray below meth c H locs 0 0 (tf_Q below D (tf_wm ad cI cZ) z ([.ref (ad 0), .int x1, .int x2] : List Value).toArray s) (F0 m 64 ls [])) → ∀ (σ : tf_S) (y3 y4 t0 : Int32) (H : Heap) (locs : List Loc) (ls : Array Slot), fX7_commonOf_104 x1 x2 k64 σ y3 y4 t0 = some z → tf_I D (tf_wm ad cI cZ) s.heap σ H locs → lv_has ls 6 [(0, .ref (ad 0)), (1, .int x1), (2, .int x2), (3, .int y3), (4, .int y4)] → W p l e (headSpec wsX7_commonOf ({ frames := 3, cells := 0, slots := 0, locals := 72 })).room s m ([.ref (ad 0), .int x1, .int x2] : List Value).toArray below meth c H locs 0 0 (tf_Q below D (tf_wm ad cI cZ) z ([.ref (ad 0), .int x1, .int x2] : List Value).toArray s) (F0 m 104 ls [.int t0]) := by
    intro k64 hk64 σ y3 y4 t0 H locs ls h hI hl
    unfold fX7_commonOf_104 at h
    refine lv_istore (lv' := [(5, .int t0), (0, .ref (ad 0)), (1, .int x1), (2, .int x2), (3, .int y3), (4, .int y4)]) hx hb dX7_commonOf_104 hl (by decide) rfl (fun ls hl => ?_)
    refine lv_iload hx hb dX7_commonOf_106 (lv_at hl 0 rfl) ?_
    refine lv_bipush (v := -3) hx hb dX7_commonOf_108 (by decide +kernel) ?_
    refine lv_icmp_eq (tgt := 120) hx hb dX7_commonOf_110 (by decide) (fun c27 => ?_) (fun c27 => ?_)
    · replace h := tf_pos c27 h
      refine lv_iload hx hb dX7_commonOf_120 (lv_at hl 0 rfl) ?_
      exact tf_iret hx hb hr hI h dX7_commonOf_122 hlocks
    replace h := tf_neg c27 h
    refine lv_iload hx hb dX7_commonOf_113 (lv_at hl 5 rfl) ?_
    refine lv_iload hx hb dX7_commonOf_115 (lv_at hl 0 rfl) ?_
    refine lv_icmp_ne (tgt := 123) hx hb dX7_commonOf_117 (by decide) (fun c28 => ?_) (fun c28 => ?_)
    · replace h := tf_neg c28 h
      refine lv_aload_n hx hb dX7_commonOf_123 rfl (lv_at hl 1 rfl) ?_
      refine tf_get (C := RX7) (T := TX7) (N := 35) hx hb hts hn_X7 hown hK hI 0 (tf_mat_0 ad cI cZ _) rfl 4 (by decide) hf_23 rfl rfl dX7_commonOf_124 ?_
      refine lv_aload_n hx hb dX7_commonOf_127 rfl (lv_at hl 1 rfl) ?_
      refine tf_get (C := RX7) (T := TX7) (N := 35) hx hb hts hn_X7 hown hK hI 0 (tf_mat_0 ad cI cZ _) rfl 2 (by decide) hf_17 rfl rfl dX7_commonOf_128 ?_
      refine lv_iload_n hx hb dX7_commonOf_131 rfl (lv_at hl 4 rfl) ?_
      obtain ⟨b29, h⟩ := tf_gin h
      refine va_iald hx hb hK hI.1 2 0 (tf_mat_2 ad cI cZ _) rfl b29 dX7_commonOf_132 ?_
      obtain ⟨b30, h⟩ := tf_gin h
      refine va_iald hx hb hK hI.1 3 0 (tf_mat_3 ad cI cZ _) rfl b30 dX7_commonOf_133 ?_
      obtain ⟨v31, ev31, h⟩ := tf_glet h
      refine tf_top ev31 ?_
      refine lv_istore_n (lv' := [(3, .int v31), (5, .int t0), (0, .ref (ad 0)), (1, .int x1), (2, .int x2), (4, .int y4)]) hx hb dX7_commonOf_134 rfl hl (by decide) rfl (fun ls hl => ?_)
      refine lv_goto (tgt := 64) hx hb dX7_commonOf_135 (by decide) ?_
      exact hk64 _ _ _ _ _ h hI (lv_sub hl [2, 3, 4, 0] rfl)
    replace h := tf_pos c28 h
    refine lv_iload hx hb dX7_commonOf_120 (lv_at hl 0 rfl) ?_
    exact tf_iret hx hb hr hI h dX7_commonOf_122 hlocks
  have j64 : ∀ n : Nat, ∀ (σ : tf_S) (y3 : Int32) (H : Heap) (locs : List Loc) (ls : Array Slot), fX7_commonOf_64 x1 x2 n σ y3 = some z → tf_I D (tf_wm ad cI cZ) s.heap σ H locs → lv_has ls 6 [(0, .ref (ad 0)), (1, .int x1), (2, .int x2), (3, .int y3)] → W p l e (headSpec wsX7_commonOf ({ frames := 3, cells := 0, slots := 0, locals := 72 })).room s m ([.ref (ad 0), .int x1, .int x2] : List Value).toArray below meth c H locs 0 0 (tf_Q below D (tf_wm ad cI cZ) z ([.ref (ad 0), .int x1, .int x2] : List Value).toArray s) (F0 m 64 ls []) := by
    intro n
    induction n with
    | zero =>
      intro σ y3 H locs ls h
      rw [fX7_commonOf_64] at h
      cases h
    | succ n ih =>
      intro σ y3 H locs ls h hI hl
      rw [fX7_commonOf_64] at h
      refine lv_aload_n hx hb dX7_commonOf_64 rfl (lv_at hl 0 rfl) ?_
      refine lv_aload_n hx hb dX7_commonOf_65 rfl (lv_at hl 0 rfl) ?_
      refine tf_get (C := RX7) (T := TX7) (N := 35) hx hb hts hn_X7 hown hK hI 0 (tf_mat_0 ad cI cZ _) rfl 4 (by decide) hf_23 rfl rfl dX7_commonOf_66 ?_
      refine lv_iload_n hx hb dX7_commonOf_69 rfl (lv_at hl 2 rfl) ?_
      obtain ⟨b14, h⟩ := tf_gin h
      refine va_iald hx hb hK hI.1 3 0 (tf_mat_3 ad cI cZ _) rfl b14 dX7_commonOf_70 ?_
      refine lv_iload_n hx hb dX7_commonOf_71 rfl (lv_at hl 3 rfl) ?_
      obtain ⟨u15, q16, h⟩ := tf_gbind h
      refine tf_callV (rest := []) ⟨hx, hb, hml, hown, hts⟩ hK hN hI (kM_X7_comesFrom l D ad cI cZ _ _ _ _ q16) (cwV 2 hts gX7_commonOf_X7_comesFrom rfl rfl rfl (by decide +kernel) ⟨Nat.le_of_ble_eq_true rfl, Nat.le_of_ble_eq_true rfl⟩) 0 7 (tf_mat_0 ad cI cZ _) rfl rfl hl.1 rfl (Nat.le_of_ble_eq_true rfl) dX7_commonOf_72 (fun H locs hI => ?_)
      refine lv_if_eq (tgt := 123) hx hb dX7_commonOf_75 (by decide) (fun c17 => ?_) (fun c17 => ?_)
      · replace h := tf_pos c17 h
        refine lv_aload_n hx hb dX7_commonOf_123 rfl (lv_at hl 0 rfl) ?_
        refine tf_get (C := RX7) (T := TX7) (N := 35) hx hb hts hn_X7 hown hK hI 0 (tf_mat_0 ad cI cZ _) rfl 4 (by decide) hf_23 rfl rfl dX7_commonOf_124 ?_
        refine lv_aload_n hx hb dX7_commonOf_127 rfl (lv_at hl 0 rfl) ?_
        refine tf_get (C := RX7) (T := TX7) (N := 35) hx hb hts hn_X7 hown hK hI 0 (tf_mat_0 ad cI cZ _) rfl 2 (by decide) hf_17 rfl rfl dX7_commonOf_128 ?_
        refine lv_iload_n hx hb dX7_commonOf_131 rfl (lv_at hl 3 rfl) ?_
        obtain ⟨b18, h⟩ := tf_gin h
        refine va_iald hx hb hK hI.1 2 0 (tf_mat_2 ad cI cZ _) rfl b18 dX7_commonOf_132 ?_
        obtain ⟨b19, h⟩ := tf_gin h
        refine va_iald hx hb hK hI.1 3 0 (tf_mat_3 ad cI cZ _) rfl b19 dX7_commonOf_133 ?_
        obtain ⟨v20, ev20, h⟩ := tf_glet h
        refine tf_top ev20 ?_
        refine lv_istore_n (lv' := [(3, .int v20), (0, .ref (ad 0)), (1, .int x1), (2, .int x2)]) hx hb dX7_commonOf_134 rfl hl (by decide) rfl (fun ls hl => ?_)
        refine lv_goto (tgt := 64) hx hb dX7_commonOf_135 (by decide) ?_
        exact ih _ _ _ _ _ h hI (lv_sub hl [1, 2, 3, 0] rfl)
      replace h := tf_neg c17 h
      refine lv_aload_n hx hb dX7_commonOf_78 rfl (lv_at hl 0 rfl) ?_
      refine lv_iload_n hx hb dX7_commonOf_79 rfl (lv_at hl 1 rfl) ?_
      refine lv_iload_n hx hb dX7_commonOf_80 rfl (lv_at hl 3 rfl) ?_
      obtain ⟨u21, q22, h⟩ := tf_gbind h
      refine tf_callV (rest := []) ⟨hx, hb, hml, hown, hts⟩ hK hN hI (kM_X7_seenAs l D ad cI cZ _ _ _ _ q22) (cwV 2 hts gX7_commonOf_X7_seenAs rfl rfl rfl (by decide +kernel) ⟨Nat.le_of_ble_eq_true rfl, Nat.le_of_ble_eq_true rfl⟩) 0 7 (tf_mat_0 ad cI cZ _) rfl rfl hl.1 rfl (Nat.le_of_ble_eq_true rfl) dX7_commonOf_81 (fun H locs hI => ?_)
      obtain ⟨v23, ev23, h⟩ := tf_glet h
      refine tf_top ev23 ?_
      refine lv_istore (lv' := [(4, .int v23), (0, .ref (ad 0)), (1, .int x1), (2, .int x2), (3, .int y3)]) hx hb dX7_commonOf_84 hl (by decide) rfl (fun ls hl => ?_)
      refine lv_iload hx hb dX7_commonOf_86 (lv_at hl 0 rfl) ?_
      refine lv_bipush (v := -3) hx hb dX7_commonOf_88 (by decide +kernel) ?_
      refine lv_icmp_ne (tgt := 98) hx hb dX7_commonOf_90 (by decide) (fun c24 => ?_) (fun c24 => ?_)
      · replace h := tf_neg c24 h
        refine lv_aload_n hx hb dX7_commonOf_98 rfl (lv_at hl 1 rfl) ?_
        refine lv_iload_n hx hb dX7_commonOf_99 rfl (lv_at hl 3 rfl) ?_
        refine lv_iload_n hx hb dX7_commonOf_100 rfl (lv_at hl 4 rfl) ?_
        obtain ⟨u25, q26, h⟩ := tf_gbind h
        refine tf_callV (rest := []) ⟨hx, hb, hml, hown, hts⟩ hK hN hI (kM_X7_seenAs l D ad cI cZ _ _ _ _ q26) (cwV 2 hts gX7_commonOf_X7_seenAs rfl rfl rfl (by decide +kernel) ⟨Nat.le_of_ble_eq_true rfl, Nat.le_of_ble_eq_true rfl⟩) 0 7 (tf_mat_0 ad cI cZ _) rfl rfl hl.1 rfl (Nat.le_of_ble_eq_true rfl) dX7_commonOf_101 (fun H locs hI => ?_)
        exact j104 _ ih _ _ _ _ _ _ _ h hI (lv_sub hl [1, 2, 3, 4, 0] rfl)
      replace h := tf_pos c24 h
      refine lv_bipush (v := -3) hx hb dX7_commonOf_93 (by decide +kernel) ?_
      refine lv_goto (tgt := 104) hx hb dX7_commonOf_95 (by decide) ?_
      exact j104 _ ih _ _ _ _ _ _ _ h hI (lv_sub hl [1, 2, 3, 4, 0] rfl)
  unfold fX7_commonOf at h
  refine lv_iload_n hx hb dX7_commonOf_0 rfl (lv_at hl 1 rfl) ?_
  refine lv_iload_n hx hb dX7_commonOf_1 rfl (lv_at hl 2 rfl) ?_
  refine lv_icmp_ne (tgt := 7) hx hb dX7_commonOf_2 (by decide) (fun c1 => ?_) (fun c1 => ?_)
  · replace h := tf_neg c1 h
    refine lv_iload_n hx hb dX7_commonOf_7 rfl (lv_at hl 1 rfl) ?_
    obtain ⟨u2, q3, h⟩ := tf_gbind h
    refine tf_callS (rest := []) ⟨hx, hb, hml, hown, hts⟩ hK hN hI (kM_X7_isPrimitive l D ad cI cZ _ _ _ q3) (va_cwS 1 hts gX7_commonOf_X7_isPrimitive rfl rfl rfl (by decide +kernel) ⟨Nat.le_of_ble_eq_true rfl, Nat.le_of_ble_eq_true rfl⟩) rfl hl.1 rfl (Nat.le_of_ble_eq_true rfl) dX7_commonOf_8 (fun H locs hI => ?_)
    refine lv_if_ne (tgt := 21) hx hb dX7_commonOf_11 (by decide) (fun c4 => ?_) (fun c4 => ?_)
    · replace h := tf_neg c4 h
      refine lv_iload_n hx hb dX7_commonOf_21 rfl (lv_at hl 1 rfl) ?_
      refine lv_iconst (v := 1) hx hb dX7_commonOf_22 (by decide +kernel) ?_
      refine lv_icmp_ne (tgt := 30) hx hb dX7_commonOf_23 (by decide) (fun c5 => ?_) (fun c5 => ?_)
      · replace h := tf_neg c5 h
        refine lv_iload_n hx hb dX7_commonOf_30 rfl (lv_at hl 2 rfl) ?_
        refine lv_iconst (v := 1) hx hb dX7_commonOf_31 (by decide +kernel) ?_
        refine lv_icmp_ne (tgt := 39) hx hb dX7_commonOf_32 (by decide) (fun c6 => ?_) (fun c6 => ?_)
        · replace h := tf_neg c6 h
          refine lv_iconst (v := -1) hx hb dX7_commonOf_39 (by decide +kernel) ?_
          exact j40  _ _ _ _ _ h hI (lv_sub hl [] rfl)
        replace h := tf_pos c6 h
        refine lv_iload_n hx hb dX7_commonOf_35 rfl (lv_at hl 1 rfl) ?_
        refine lv_goto (tgt := 40) hx hb dX7_commonOf_36 (by decide) ?_
        exact j40  _ _ _ _ _ h hI (lv_sub hl [] rfl)
      replace h := tf_pos c5 h
      refine lv_iload_n hx hb dX7_commonOf_26 rfl (lv_at hl 2 rfl) ?_
      refine lv_goto (tgt := 40) hx hb dX7_commonOf_27 (by decide) ?_
      exact j40  _ _ _ _ _ h hI (lv_sub hl [] rfl)
    replace h := tf_pos c4 h
    refine lv_iload_n hx hb dX7_commonOf_14 rfl (lv_at hl 2 rfl) ?_
    obtain ⟨u9, q10, h⟩ := tf_gbind h
    refine tf_callS (rest := []) ⟨hx, hb, hml, hown, hts⟩ hK hN hI (kM_X7_isPrimitive l D ad cI cZ _ _ _ q10) (va_cwS 1 hts gX7_commonOf_X7_isPrimitive rfl rfl rfl (by decide +kernel) ⟨Nat.le_of_ble_eq_true rfl, Nat.le_of_ble_eq_true rfl⟩) rfl hl.1 rfl (Nat.le_of_ble_eq_true rfl) dX7_commonOf_15 (fun H locs hI => ?_)
    refine lv_if_eq (tgt := 57) hx hb dX7_commonOf_18 (by decide) (fun c11 => ?_) (fun c11 => ?_)
    · replace h := tf_pos c11 h
      refine lv_aload_n hx hb dX7_commonOf_57 rfl (lv_at hl 0 rfl) ?_
      refine tf_get (C := RX7) (T := TX7) (N := 35) hx hb hts hn_X7 hown hK hI 0 (tf_mat_0 ad cI cZ _) rfl 4 (by decide) hf_23 rfl rfl dX7_commonOf_58 ?_
      refine lv_iload_n hx hb dX7_commonOf_61 rfl (lv_at hl 1 rfl) ?_
      obtain ⟨b12, h⟩ := tf_gin h
      refine va_iald hx hb hK hI.1 3 0 (tf_mat_3 ad cI cZ _) rfl b12 dX7_commonOf_62 ?_
      obtain ⟨v13, ev13, h⟩ := tf_glet h
      refine tf_top ev13 ?_
      refine lv_istore_n (lv' := [(3, .int v13), (0, .ref (ad 0)), (1, .int x1), (2, .int x2)]) hx hb dX7_commonOf_63 rfl hl (by decide) rfl (fun ls hl => ?_)
      exact j64  _ _ _ _ _ _ h hI (lv_sub hl [1, 2, 3, 0] rfl)
    replace h := tf_neg c11 h
    refine lv_iload_n hx hb dX7_commonOf_21 rfl (lv_at hl 1 rfl) ?_
    refine lv_iconst (v := 1) hx hb dX7_commonOf_22 (by decide +kernel) ?_
    refine lv_icmp_ne (tgt := 30) hx hb dX7_commonOf_23 (by decide) (fun c32 => ?_) (fun c32 => ?_)
    · replace h := tf_neg c32 h
      refine lv_iload_n hx hb dX7_commonOf_30 rfl (lv_at hl 2 rfl) ?_
      refine lv_iconst (v := 1) hx hb dX7_commonOf_31 (by decide +kernel) ?_
      refine lv_icmp_ne (tgt := 39) hx hb dX7_commonOf_32 (by decide) (fun c33 => ?_) (fun c33 => ?_)
      · replace h := tf_neg c33 h
        refine lv_iconst (v := -1) hx hb dX7_commonOf_39 (by decide +kernel) ?_
        exact j40  _ _ _ _ _ h hI (lv_sub hl [] rfl)
      replace h := tf_pos c33 h
      refine lv_iload_n hx hb dX7_commonOf_35 rfl (lv_at hl 1 rfl) ?_
      refine lv_goto (tgt := 40) hx hb dX7_commonOf_36 (by decide) ?_
      exact j40  _ _ _ _ _ h hI (lv_sub hl [] rfl)
    replace h := tf_pos c32 h
    refine lv_iload_n hx hb dX7_commonOf_26 rfl (lv_at hl 2 rfl) ?_
    refine lv_goto (tgt := 40) hx hb dX7_commonOf_27 (by decide) ?_
    exact j40  _ _ _ _ _ h hI (lv_sub hl [] rfl)
  replace h := tf_pos c1 h
  refine lv_iload_n hx hb dX7_commonOf_5 rfl (lv_at hl 1 rfl) ?_
  exact tf_iret hx hb hr hI h dX7_commonOf_6 hlocks

set_option maxHeartbeats 4000000 in
set_option maxRecDepth 100000 in
theorem kM_X7_common (l : Launch) (D : va_G) (ad : Nat → Nat) (cI cZ : ClassId) (σ : tf_S) (x1 x2 : Int32) (z : Int32 × tf_S) (h : fX7_common σ x1 x2 = some z) : tf_C l D (tf_wm ad cI cZ) [(cI, .int), (cZ, .boolean)] [] yX7_common wsX7_common ({ frames := 4, cells := 0, slots := 0, locals := 97 }) [.ref (ad 0), .int x1, .int x2] σ z := by
  intro sz
  refine Met.ofW (cc := cX7_common) (maxL := 3) (ret := (some .int)) (by decide) rfl ?_
  intro p e s m args below meth c s₁ B hml hv
  obtain ⟨rfl, hsz, hP, hK, hN, hD0⟩ := hv
  have hx := B.exec
  have hb := B.bytes
  have hr := B.returns
  have hts := atoms_spec (ws := wsX7_common) B.pre
  have hown : s.vm.findClass RX7 = some m.cls := findClass_of_methodNamed B.named
  have hlocks := B.notSynchronized
  subst hsz
  have hI := tf_start (D := D) (tf_m_ad ad cI cZ) hP hD0
  have hl := lv_entry ([.ref (ad 0), .int x1, .int x2]) (n := 3) (Nat.le_of_ble_eq_true rfl)
  rw [lg_entry_eq]
  generalize (lg_sl ([.ref (ad 0), .int x1, .int x2]) ++ List.replicate (3 - (lg_sl ([.ref (ad 0), .int x1, .int x2])).length) Slot.unset).toArray = ls at hl ⊢
  have hl : lv_has ls 3 [(0, .ref (ad 0)), (1, .int x1), (2, .int x2)] := hl
  unfold fX7_common at h
  refine lv_aload_n hx hb dX7_common_0 rfl (lv_at hl 0 rfl) ?_
  refine lv_iload_n hx hb dX7_common_1 rfl (lv_at hl 1 rfl) ?_
  obtain ⟨u1, q2, h⟩ := tf_gbind h
  refine tf_callV (rest := []) ⟨hx, hb, hml, hown, hts⟩ hK hN hI (kM_X7_isClosed l D ad cI cZ _ _ _ q2) (cwV 1 hts gX7_common_X7_isClosed rfl rfl rfl (by decide +kernel) ⟨Nat.le_of_ble_eq_true rfl, Nat.le_of_ble_eq_true rfl⟩) 0 7 (tf_mat_0 ad cI cZ _) rfl rfl hl.1 rfl (Nat.le_of_ble_eq_true rfl) dX7_common_2 (fun H locs hI => ?_)
  refine lv_if_eq (tgt := 25) hx hb dX7_common_5 (by decide) (fun c3 => ?_) (fun c3 => ?_)
  · replace h := tf_pos c3 h
    refine lv_bipush (v := -2) hx hb dX7_common_25 (by decide +kernel) ?_
    exact tf_iret hx hb hr hI h dX7_common_27 hlocks
  replace h := tf_neg c3 h
  refine lv_aload_n hx hb dX7_common_8 rfl (lv_at hl 0 rfl) ?_
  refine lv_iload_n hx hb dX7_common_9 rfl (lv_at hl 2 rfl) ?_
  obtain ⟨u4, q5, h⟩ := tf_gbind h
  refine tf_callV (rest := []) ⟨hx, hb, hml, hown, hts⟩ hK hN hI (kM_X7_isClosed l D ad cI cZ _ _ _ q5) (cwV 1 hts gX7_common_X7_isClosed rfl rfl rfl (by decide +kernel) ⟨Nat.le_of_ble_eq_true rfl, Nat.le_of_ble_eq_true rfl⟩) 0 7 (tf_mat_0 ad cI cZ _) rfl rfl hl.1 rfl (Nat.le_of_ble_eq_true rfl) dX7_common_10 (fun H locs hI => ?_)
  refine lv_if_eq (tgt := 25) hx hb dX7_common_13 (by decide) (fun c6 => ?_) (fun c6 => ?_)
  · replace h := tf_pos c6 h
    refine lv_bipush (v := -2) hx hb dX7_common_25 (by decide +kernel) ?_
    exact tf_iret hx hb hr hI h dX7_common_27 hlocks
  replace h := tf_neg c6 h
  refine lv_aload_n hx hb dX7_common_16 rfl (lv_at hl 0 rfl) ?_
  refine lv_iload_n hx hb dX7_common_17 rfl (lv_at hl 1 rfl) ?_
  refine lv_iload_n hx hb dX7_common_18 rfl (lv_at hl 2 rfl) ?_
  obtain ⟨u7, q8, h⟩ := tf_gbind h
  refine tf_callV (rest := []) ⟨hx, hb, hml, hown, hts⟩ hK hN hI (kM_X7_commonOf l D ad cI cZ _ _ _ _ q8) (cwV 2 hts gX7_common_X7_commonOf rfl rfl rfl (by decide +kernel) ⟨Nat.le_of_ble_eq_true rfl, Nat.le_of_ble_eq_true rfl⟩) 0 7 (tf_mat_0 ad cI cZ _) rfl rfl hl.1 rfl (Nat.le_of_ble_eq_true rfl) dX7_common_19 (fun H locs hI => ?_)
  refine lv_goto (tgt := 27) hx hb dX7_common_22 (by decide) ?_
  exact tf_iret hx hb hr hI h dX7_common_27 hlocks

set_option maxHeartbeats 4000000 in
set_option maxRecDepth 100000 in
theorem kM_X7_member (l : Launch) (D : va_G) (ad : Nat → Nat) (cI cZ : ClassId) (σ : tf_S) (x1 x2 : Int32) (z : Int32 × tf_S) (h : fX7_member σ x1 x2 = some z) : tf_C l D (tf_wm ad cI cZ) [(cI, .int), (cZ, .boolean)] [] yX7_member wsX7_member ({ frames := 2, cells := 0, slots := 0, locals := 43 }) [.ref (ad 0), .int x1, .int x2] σ z := by
  intro sz
  refine Met.ofW (cc := cX7_member) (maxL := 3) (ret := (some .int)) (by decide) rfl ?_
  intro p e s m args below meth c s₁ B hml hv
  obtain ⟨rfl, hsz, hP, hK, hN, hD0⟩ := hv
  have hx := B.exec
  have hb := B.bytes
  have hr := B.returns
  have hts := atoms_spec (ws := wsX7_member) B.pre
  have hown : s.vm.findClass RX7 = some m.cls := findClass_of_methodNamed B.named
  have hlocks := B.notSynchronized
  subst hsz
  have hI := tf_start (D := D) (tf_m_ad ad cI cZ) hP hD0
  have hl := lv_entry ([.ref (ad 0), .int x1, .int x2]) (n := 3) (Nat.le_of_ble_eq_true rfl)
  rw [lg_entry_eq]
  generalize (lg_sl ([.ref (ad 0), .int x1, .int x2]) ++ List.replicate (3 - (lg_sl ([.ref (ad 0), .int x1, .int x2])).length) Slot.unset).toArray = ls at hl ⊢
  have hl : lv_has ls 3 [(0, .ref (ad 0)), (1, .int x1), (2, .int x2)] := hl
  have hn_X7 : ∀ w ∈ u_ws RX7 TX7 35, w ∈ wsX7_member := by decide +kernel
  have hf_13 := hts (.fieldLink RX7 13 "TypeFlowModel" "variables" "[I") (by decide +kernel)
  have hf_32 := hts (.fieldLink RX7 32 "TypeFlowModel" "free" "[I") (by decide +kernel)
  have hf_41 := hts (.fieldLink RX7 41 "TypeFlowModel" "memberClass" "[I") (by decide +kernel)
  have hf_44 := hts (.fieldLink RX7 44 "TypeFlowModel" "memberType" "[I") (by decide +kernel)
  have hf_153 := hts (.fieldLink RX7 153 "TypeFlowModel" "members" "I") (by decide +kernel)
  unfold fX7_member at h
  refine lv_aload_n hx hb dX7_member_0 rfl (lv_at hl 0 rfl) ?_
  refine lv_iload_n hx hb dX7_member_1 rfl (lv_at hl 1 rfl) ?_
  obtain ⟨u1, q2, h⟩ := tf_gbind h
  refine tf_callV (rest := []) ⟨hx, hb, hml, hown, hts⟩ hK hN hI (kM_X7_isClass l D ad cI cZ _ _ _ q2) (cwV 1 hts gX7_member_X7_isClass rfl rfl rfl (by decide +kernel) ⟨Nat.le_of_ble_eq_true rfl, Nat.le_of_ble_eq_true rfl⟩) 0 7 (tf_mat_0 ad cI cZ _) rfl rfl hl.1 rfl (Nat.le_of_ble_eq_true rfl) dX7_member_2 (fun H locs hI => ?_)
  refine lv_if_eq (tgt := 32) hx hb dX7_member_5 (by decide) (fun c3 => ?_) (fun c3 => ?_)
  · replace h := tf_pos c3 h
    refine lv_bipush (v := -2) hx hb dX7_member_32 (by decide +kernel) ?_
    exact tf_iret hx hb hr hI h dX7_member_34 hlocks
  replace h := tf_neg c3 h
  refine lv_aload_n hx hb dX7_member_8 rfl (lv_at hl 0 rfl) ?_
  refine lv_iload_n hx hb dX7_member_9 rfl (lv_at hl 2 rfl) ?_
  obtain ⟨u4, q5, h⟩ := tf_gbind h
  refine tf_callV (rest := []) ⟨hx, hb, hml, hown, hts⟩ hK hN hI (kM_X7_isType l D ad cI cZ _ _ _ q5) (cwV 1 hts gX7_member_X7_isType rfl rfl rfl (by decide +kernel) ⟨Nat.le_of_ble_eq_true rfl, Nat.le_of_ble_eq_true rfl⟩) 0 7 (tf_mat_0 ad cI cZ _) rfl rfl hl.1 rfl (Nat.le_of_ble_eq_true rfl) dX7_member_10 (fun H locs hI => ?_)
  refine lv_if_eq (tgt := 32) hx hb dX7_member_13 (by decide) (fun c6 => ?_) (fun c6 => ?_)
  · replace h := tf_pos c6 h
    refine lv_bipush (v := -2) hx hb dX7_member_32 (by decide +kernel) ?_
    exact tf_iret hx hb hr hI h dX7_member_34 hlocks
  replace h := tf_neg c6 h
  refine lv_aload_n hx hb dX7_member_16 rfl (lv_at hl 0 rfl) ?_
  refine tf_get (C := RX7) (T := TX7) (N := 35) hx hb hts hn_X7 hown hK hI 0 (tf_mat_0 ad cI cZ _) rfl 7 (by decide) hf_32 rfl rfl dX7_member_17 ?_
  refine lv_iload_n hx hb dX7_member_20 rfl (lv_at hl 2 rfl) ?_
  obtain ⟨b7, h⟩ := tf_gin h
  refine va_iald hx hb hK hI.1 6 0 (tf_mat_6 ad cI cZ _) rfl b7 dX7_member_21 ?_
  refine lv_aload_n hx hb dX7_member_22 rfl (lv_at hl 0 rfl) ?_
  refine tf_get (C := RX7) (T := TX7) (N := 35) hx hb hts hn_X7 hown hK hI 0 (tf_mat_0 ad cI cZ _) rfl 1 (by decide) hf_13 rfl rfl dX7_member_23 ?_
  refine lv_iload_n hx hb dX7_member_26 rfl (lv_at hl 1 rfl) ?_
  obtain ⟨b8, h⟩ := tf_gin h
  refine va_iald hx hb hK hI.1 1 0 (tf_mat_1 ad cI cZ _) rfl b8 dX7_member_27 ?_
  refine lv_ishr hx hb dX7_member_28 ?_
  refine lv_if_eq (tgt := 35) hx hb dX7_member_29 (by decide) (fun c9 => ?_) (fun c9 => ?_)
  · replace h := tf_pos c9 h
    refine lv_aload_n hx hb dX7_member_35 rfl (lv_at hl 0 rfl) ?_
    refine tf_get (C := RX7) (T := TX7) (N := 35) hx hb hts hn_X7 hown hK hI 0 (tf_mat_0 ad cI cZ _) rfl 11 (by decide) hf_153 rfl rfl dX7_member_36 ?_
    refine lv_bipush (v := 24) hx hb dX7_member_39 (by decide +kernel) ?_
    refine lv_icmp_ne (tgt := 47) hx hb dX7_member_41 (by decide) (fun c10 => ?_) (fun c10 => ?_)
    · replace h := tf_neg c10 h
      refine lv_aload_n hx hb dX7_member_47 rfl (lv_at hl 0 rfl) ?_
      refine tf_get (C := RX7) (T := TX7) (N := 35) hx hb hts hn_X7 hown hK hI 0 (tf_mat_0 ad cI cZ _) rfl 12 (by decide) hf_41 rfl rfl dX7_member_48 ?_
      refine lv_aload_n hx hb dX7_member_51 rfl (lv_at hl 0 rfl) ?_
      refine tf_get (C := RX7) (T := TX7) (N := 35) hx hb hts hn_X7 hown hK hI 0 (tf_mat_0 ad cI cZ _) rfl 11 (by decide) hf_153 rfl rfl dX7_member_52 ?_
      refine lv_iload_n hx hb dX7_member_55 rfl (lv_at hl 1 rfl) ?_
      obtain ⟨b11, h⟩ := tf_gin h
      obtain ⟨s12, es12, h⟩ := tf_glet h
      refine tf_iast hx hb hK hI 9 0 (tf_mat_9 ad cI cZ _) (tf_mset_9 ad cI cZ _) rfl b11 es12 dX7_member_56 (fun H locs hI => ?_)
      refine lv_aload_n hx hb dX7_member_57 rfl (lv_at hl 0 rfl) ?_
      refine tf_get (C := RX7) (T := TX7) (N := 35) hx hb hts hn_X7 hown hK hI 0 (tf_mat_0 ad cI cZ _) rfl 13 (by decide) hf_44 rfl rfl dX7_member_58 ?_
      refine lv_aload_n hx hb dX7_member_61 rfl (lv_at hl 0 rfl) ?_
      refine tf_get (C := RX7) (T := TX7) (N := 35) hx hb hts hn_X7 hown hK hI 0 (tf_mat_0 ad cI cZ _) rfl 11 (by decide) hf_153 rfl rfl dX7_member_62 ?_
      refine lv_iload_n hx hb dX7_member_65 rfl (lv_at hl 2 rfl) ?_
      obtain ⟨b13, h⟩ := tf_gin h
      obtain ⟨s14, es14, h⟩ := tf_glet h
      refine tf_iast hx hb hK hI 10 0 (tf_mat_10 ad cI cZ _) (tf_mset_10 ad cI cZ _) rfl b13 es14 dX7_member_66 (fun H locs hI => ?_)
      refine lv_aload_n hx hb dX7_member_67 rfl (lv_at hl 0 rfl) ?_
      refine lv_dup hx hb dX7_member_68 rfl ?_
      refine tf_get (C := RX7) (T := TX7) (N := 35) hx hb hts hn_X7 hown hK hI 0 (tf_mat_0 ad cI cZ _) rfl 11 (by decide) hf_153 rfl rfl dX7_member_69 ?_
      refine lv_iconst (v := 1) hx hb dX7_member_72 (by decide +kernel) ?_
      refine lv_iadd hx hb dX7_member_73 ?_
      obtain ⟨s15, es15, h⟩ := tf_glet h
      refine tf_put (C := RX7) (T := TX7) (N := 35) (ty := .int) hx hb hts hn_X7 tyX7 tyX7_ok nmX7 hown hK hI 0 (tf_mat_0 ad cI cZ _) rfl 11 (by decide) hf_153 rfl rfl (by decide +kernel) rfl rfl (Nat.le_of_ble_eq_true rfl) (tf_mput_0_11 ad cI cZ _ _) es15 dX7_member_74 (fun H locs hI => ?_)
      refine lv_aload_n hx hb dX7_member_77 rfl (lv_at hl 0 rfl) ?_
      refine tf_get (C := RX7) (T := TX7) (N := 35) hx hb hts hn_X7 hown hK hI 0 (tf_mat_0 ad cI cZ _) rfl 11 (by decide) hf_153 rfl rfl dX7_member_78 ?_
      refine lv_iconst (v := 1) hx hb dX7_member_81 (by decide +kernel) ?_
      refine lv_isub hx hb dX7_member_82 ?_
      exact tf_iret hx hb hr hI h dX7_member_83 hlocks
    replace h := tf_pos c10 h
    refine lv_bipush (v := -3) hx hb dX7_member_44 (by decide +kernel) ?_
    exact tf_iret hx hb hr hI h dX7_member_46 hlocks
  replace h := tf_neg c9 h
  refine lv_bipush (v := -2) hx hb dX7_member_32 (by decide +kernel) ?_
  exact tf_iret hx hb hr hI h dX7_member_34 hlocks
