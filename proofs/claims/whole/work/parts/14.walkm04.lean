set_option maxHeartbeats 4000000 in
set_option maxRecDepth 100000 in
theorem kM_X7_work (l : Launch) (D : va_G) (ad : Nat → Nat) (cI cZ : ClassId) (σ : tf_S) (x1 : Int32) (z : Int32 × tf_S) (h : fX7_work σ x1 = some z) : tf_C l D (tf_wm ad cI cZ) [(cI, .int), (cZ, .boolean)] [] yX7_work wsX7_work ({ frames := 6, cells := 0, slots := 0, locals := 143 }) [.ref (ad 0), .int x1] σ z := by
  intro sz
  refine Met.ofW (cc := cX7_work) (maxL := 6) (ret := (some .int)) (by decide) rfl ?_
  intro p e s m args below meth c s₁ B hml hv
  obtain ⟨rfl, hsz, hP, hK, hN, hD0⟩ := hv
  have hx := B.exec
  have hb := B.bytes
  have hr := B.returns
  have hts := atoms_spec (ws := wsX7_work) B.pre
  have hown : s.vm.findClass RX7 = some m.cls := findClass_of_methodNamed B.named
  have hlocks := B.notSynchronized
  subst hsz
  have hI := tf_start (D := D) (tf_m_ad ad cI cZ) hP hD0
  have hl := lv_entry ([.ref (ad 0), .int x1]) (n := 6) (Nat.le_of_ble_eq_true rfl)
  rw [lg_entry_eq]
  generalize (lg_sl ([.ref (ad 0), .int x1]) ++ List.replicate (6 - (lg_sl ([.ref (ad 0), .int x1])).length) Slot.unset).toArray = ls at hl ⊢
  have hl : lv_has ls 6 [(0, .ref (ad 0)), (1, .int x1)] := hl
  have hn_X7 : ∀ w ∈ u_ws RX7 TX7 35, w ∈ wsX7_work := by decide +kernel
  have hf_69 := hts (.fieldLink RX7 69 "TypeFlowModel" "kind" "[I") (by decide +kernel)
  have hf_72 := hts (.fieldLink RX7 72 "TypeFlowModel" "in" "[I") (by decide +kernel)
  have hf_75 := hts (.fieldLink RX7 75 "TypeFlowModel" "other" "[I") (by decide +kernel)
  have hf_78 := hts (.fieldLink RX7 78 "TypeFlowModel" "by" "[I") (by decide +kernel)
  have hf_87 := hts (.fieldLink RX7 87 "TypeFlowModel" "comes" "[I") (by decide +kernel)
  have hf_159 := hts (.fieldLink RX7 159 "TypeFlowModel" "reason" "I") (by decide +kernel)
  have j91 : ∀ (σ : tf_S) (y2 y4 : Int32) (H : Heap) (locs : List Loc) (ls : Array Slot), fX7_work_91 x1 σ y2 y4 = some z → tf_I D (tf_wm ad cI cZ) s.heap σ H locs → lv_has ls 6 [(0, .ref (ad 0)), (1, .int x1), (2, .int y2), (4, .int y4)] → W p l e (headSpec wsX7_work ({ frames := 6, cells := 0, slots := 0, locals := 143 })).room s m ([.ref (ad 0), .int x1] : List Value).toArray below meth c H locs 0 0 (tf_Q below D (tf_wm ad cI cZ) z ([.ref (ad 0), .int x1] : List Value).toArray s) (F0 m 91 ls []) := by
    intro σ y2 y4 H locs ls h hI hl
    unfold fX7_work_91 at h
    refine lv_aload_n hx hb dX7_work_91 rfl (lv_at hl 0 rfl) ?_
    refine tf_get (C := RX7) (T := TX7) (N := 35) hx hb hts hn_X7 hown hK hI 0 (tf_mat_0 ad cI cZ _) rfl 25 (by decide) hf_69 rfl rfl dX7_work_92 ?_
    refine lv_iload_n hx hb dX7_work_95 rfl (lv_at hl 1 rfl) ?_
    obtain ⟨b13, h⟩ := tf_gin h
    refine va_iald hx hb hK hI.1 18 0 (tf_mat_18 ad cI cZ _) rfl b13 dX7_work_96 ?_
    by_cases c14 : (σ 18 (x1).toNatClampNeg) = (0 : Int32)
    · replace h := tf_pos c14 h
      refine lv_tableIn (tgt := 140) (off := 43) hx hb dX7_work_97 (by rw [c14]; decide +kernel) (by rw [c14]; decide +kernel) (by rw [c14]; decide +kernel) (by decide) ?_
      refine lv_aload_n hx hb dX7_work_140 rfl (lv_at hl 0 rfl) ?_
      refine tf_get (C := RX7) (T := TX7) (N := 35) hx hb hts hn_X7 hown hK hI 0 (tf_mat_0 ad cI cZ _) rfl 28 (by decide) hf_78 rfl rfl dX7_work_141 ?_
      refine lv_iload_n hx hb dX7_work_144 rfl (lv_at hl 1 rfl) ?_
      obtain ⟨b15, h⟩ := tf_gin h
      refine va_iald hx hb hK hI.1 21 0 (tf_mat_21 ad cI cZ _) rfl b15 dX7_work_145 ?_
      exact tf_iret hx hb hr hI h dX7_work_146 hlocks
    replace h := tf_neg c14 h
    by_cases c16 : (σ 18 (x1).toNatClampNeg) = (1 : Int32)
    · replace h := tf_pos c16 h
      refine lv_tableIn (tgt := 147) (off := 50) hx hb dX7_work_97 (by rw [c16]; decide +kernel) (by rw [c16]; decide +kernel) (by rw [c16]; decide +kernel) (by decide) ?_
      refine lv_aload_n hx hb dX7_work_147 rfl (lv_at hl 0 rfl) ?_
      refine lv_aload_n hx hb dX7_work_148 rfl (lv_at hl 0 rfl) ?_
      refine tf_get (C := RX7) (T := TX7) (N := 35) hx hb hts hn_X7 hown hK hI 0 (tf_mat_0 ad cI cZ _) rfl 28 (by decide) hf_78 rfl rfl dX7_work_149 ?_
      refine lv_iload_n hx hb dX7_work_152 rfl (lv_at hl 1 rfl) ?_
      obtain ⟨b17, h⟩ := tf_gin h
      refine va_iald hx hb hK hI.1 21 0 (tf_mat_21 ad cI cZ _) rfl b17 dX7_work_153 ?_
      refine lv_iload_n hx hb dX7_work_154 rfl (lv_at hl 2 rfl) ?_
      refine lv_iconst (v := -1) hx hb dX7_work_155 (by decide +kernel) ?_
      obtain ⟨u18, q19, h⟩ := tf_gbind h
      refine tf_callV (rest := []) ⟨hx, hb, hml, hown, hts⟩ hK hN hI (kM_X7_putTo l D ad cI cZ _ _ _ _ _ q19) (cwV 3 hts gX7_work_X7_putTo rfl rfl rfl (by decide +kernel) ⟨Nat.le_of_ble_eq_true rfl, Nat.le_of_ble_eq_true rfl⟩) 0 7 (tf_mat_0 ad cI cZ _) rfl rfl hl.1 rfl (Nat.le_of_ble_eq_true rfl) dX7_work_156 (fun H locs hI => ?_)
      exact tf_iret hx hb hr hI h dX7_work_159 hlocks
    replace h := tf_neg c16 h
    by_cases c20 : (σ 18 (x1).toNatClampNeg) = (2 : Int32)
    · replace h := tf_pos c20 h
      refine lv_tableIn (tgt := 160) (off := 63) hx hb dX7_work_97 (by rw [c20]; decide +kernel) (by rw [c20]; decide +kernel) (by rw [c20]; decide +kernel) (by decide) ?_
      refine lv_aload_n hx hb dX7_work_160 rfl (lv_at hl 0 rfl) ?_
      refine lv_aload_n hx hb dX7_work_161 rfl (lv_at hl 0 rfl) ?_
      refine tf_get (C := RX7) (T := TX7) (N := 35) hx hb hts hn_X7 hown hK hI 0 (tf_mat_0 ad cI cZ _) rfl 28 (by decide) hf_78 rfl rfl dX7_work_162 ?_
      refine lv_iload_n hx hb dX7_work_165 rfl (lv_at hl 1 rfl) ?_
      obtain ⟨b21, h⟩ := tf_gin h
      refine va_iald hx hb hK hI.1 21 0 (tf_mat_21 ad cI cZ _) rfl b21 dX7_work_166 ?_
      refine lv_iload_n hx hb dX7_work_167 rfl (lv_at hl 2 rfl) ?_
      refine lv_iconst (v := -1) hx hb dX7_work_168 (by decide +kernel) ?_
      obtain ⟨u22, q23, h⟩ := tf_gbind h
      refine tf_callV (rest := []) ⟨hx, hb, hml, hown, hts⟩ hK hN hI (kM_X7_putTo l D ad cI cZ _ _ _ _ _ q23) (cwV 3 hts gX7_work_X7_putTo rfl rfl rfl (by decide +kernel) ⟨Nat.le_of_ble_eq_true rfl, Nat.le_of_ble_eq_true rfl⟩) 0 7 (tf_mat_0 ad cI cZ _) rfl rfl hl.1 rfl (Nat.le_of_ble_eq_true rfl) dX7_work_169 (fun H locs hI => ?_)
      obtain ⟨v24, ev24, h⟩ := tf_glet h
      refine tf_top ev24 ?_
      refine lv_istore (lv' := [(5, .int v24), (0, .ref (ad 0)), (1, .int x1), (2, .int y2), (4, .int y4)]) hx hb dX7_work_172 hl (by decide) rfl (fun ls hl => ?_)
      refine lv_iload hx hb dX7_work_174 (lv_at hl 0 rfl) ?_
      refine lv_iconst (v := -1) hx hb dX7_work_176 (by decide +kernel) ?_
      refine lv_icmp_eq (tgt := 190) hx hb dX7_work_177 (by decide) (fun c25 => ?_) (fun c25 => ?_)
      · replace h := tf_pos c25 h
        refine lv_iload hx hb dX7_work_190 (lv_at hl 0 rfl) ?_
        refine lv_if_ne (tgt := 199) hx hb dX7_work_192 (by decide) (fun c26 => ?_) (fun c26 => ?_)
        · replace h := tf_neg c26 h
          refine lv_iconst (v := -1) hx hb dX7_work_199 (by decide +kernel) ?_
          exact tf_iret hx hb hr hI h dX7_work_200 hlocks
        replace h := tf_pos c26 h
        refine lv_iload_n hx hb dX7_work_195 rfl (lv_at hl 3 rfl) ?_
        refine lv_goto (tgt := 200) hx hb dX7_work_196 (by decide) ?_
        exact tf_iret hx hb hr hI h dX7_work_200 hlocks
      replace h := tf_neg c25 h
      refine lv_iload hx hb dX7_work_180 (lv_at hl 0 rfl) ?_
      refine lv_if_eq (tgt := 190) hx hb dX7_work_182 (by decide) (fun c27 => ?_) (fun c27 => ?_)
      · replace h := tf_pos c27 h
        refine lv_iload hx hb dX7_work_190 (lv_at hl 0 rfl) ?_
        refine lv_if_ne (tgt := 199) hx hb dX7_work_192 (by decide) (fun c28 => ?_) (fun c28 => ?_)
        · replace h := tf_neg c28 h
          refine lv_iconst (v := -1) hx hb dX7_work_199 (by decide +kernel) ?_
          exact tf_iret hx hb hr hI h dX7_work_200 hlocks
        replace h := tf_pos c28 h
        refine lv_iload_n hx hb dX7_work_195 rfl (lv_at hl 3 rfl) ?_
        refine lv_goto (tgt := 200) hx hb dX7_work_196 (by decide) ?_
        exact tf_iret hx hb hr hI h dX7_work_200 hlocks
      replace h := tf_neg c27 h
      refine lv_aload_n hx hb dX7_work_185 rfl (lv_at hl 1 rfl) ?_
      refine lv_iconst (v := 1) hx hb dX7_work_186 (by decide +kernel) ?_
      obtain ⟨s29, es29, h⟩ := tf_glet h
      refine tf_put (C := RX7) (T := TX7) (N := 35) (ty := .int) hx hb hts hn_X7 tyX7 tyX7_ok nmX7 hown hK hI 0 (tf_mat_0 ad cI cZ _) rfl 20 (by decide) hf_159 rfl rfl (by decide +kernel) rfl rfl (Nat.le_of_ble_eq_true rfl) (tf_mput_0_20 ad cI cZ _ _) es29 dX7_work_187 (fun H locs hI => ?_)
      refine lv_iload hx hb dX7_work_190 (lv_at hl 0 rfl) ?_
      refine lv_if_ne (tgt := 199) hx hb dX7_work_192 (by decide) (fun c30 => ?_) (fun c30 => ?_)
      · replace h := tf_neg c30 h
        refine lv_iconst (v := -1) hx hb dX7_work_199 (by decide +kernel) ?_
        exact tf_iret hx hb hr hI h dX7_work_200 hlocks
      replace h := tf_pos c30 h
      refine lv_iload_n hx hb dX7_work_195 rfl (lv_at hl 3 rfl) ?_
      refine lv_goto (tgt := 200) hx hb dX7_work_196 (by decide) ?_
      exact tf_iret hx hb hr hI h dX7_work_200 hlocks
    replace h := tf_neg c20 h
    by_cases c31 : (σ 18 (x1).toNatClampNeg) = (3 : Int32)
    · replace h := tf_pos c31 h
      refine lv_tableIn (tgt := 201) (off := 104) hx hb dX7_work_97 (by rw [c31]; decide +kernel) (by rw [c31]; decide +kernel) (by rw [c31]; decide +kernel) (by decide) ?_
      refine lv_aload_n hx hb dX7_work_201 rfl (lv_at hl 0 rfl) ?_
      refine lv_aload_n hx hb dX7_work_202 rfl (lv_at hl 0 rfl) ?_
      refine tf_get (C := RX7) (T := TX7) (N := 35) hx hb hts hn_X7 hown hK hI 0 (tf_mat_0 ad cI cZ _) rfl 28 (by decide) hf_78 rfl rfl dX7_work_203 ?_
      refine lv_iload_n hx hb dX7_work_206 rfl (lv_at hl 1 rfl) ?_
      obtain ⟨b32, h⟩ := tf_gin h
      refine va_iald hx hb hK hI.1 21 0 (tf_mat_21 ad cI cZ _) rfl b32 dX7_work_207 ?_
      refine lv_iload_n hx hb dX7_work_208 rfl (lv_at hl 2 rfl) ?_
      obtain ⟨u33, q34, h⟩ := tf_gbind h
      refine tf_callV (rest := []) ⟨hx, hb, hml, hown, hts⟩ hK hN hI (kM_X7_memberOf l D ad cI cZ _ _ _ _ q34) (cwV 2 hts gX7_work_X7_memberOf rfl rfl rfl (by decide +kernel) ⟨Nat.le_of_ble_eq_true rfl, Nat.le_of_ble_eq_true rfl⟩) 0 7 (tf_mat_0 ad cI cZ _) rfl rfl hl.1 rfl (Nat.le_of_ble_eq_true rfl) dX7_work_209 (fun H locs hI => ?_)
      exact tf_iret hx hb hr hI h dX7_work_212 hlocks
    replace h := tf_neg c31 h
    by_cases c35 : (σ 18 (x1).toNatClampNeg) = (4 : Int32)
    · replace h := tf_pos c35 h
      refine lv_tableIn (tgt := 213) (off := 116) hx hb dX7_work_97 (by rw [c35]; decide +kernel) (by rw [c35]; decide +kernel) (by rw [c35]; decide +kernel) (by decide) ?_
      refine lv_aload_n hx hb dX7_work_213 rfl (lv_at hl 0 rfl) ?_
      refine lv_iload_n hx hb dX7_work_214 rfl (lv_at hl 2 rfl) ?_
      refine lv_iload hx hb dX7_work_215 (lv_at hl 3 rfl) ?_
      obtain ⟨u36, q37, h⟩ := tf_gbind h
      refine tf_callV (rest := []) ⟨hx, hb, hml, hown, hts⟩ hK hN hI (kM_X7_commonOf l D ad cI cZ _ _ _ _ q37) (cwV 2 hts gX7_work_X7_commonOf rfl rfl rfl (by decide +kernel) ⟨Nat.le_of_ble_eq_true rfl, Nat.le_of_ble_eq_true rfl⟩) 0 7 (tf_mat_0 ad cI cZ _) rfl rfl hl.1 rfl (Nat.le_of_ble_eq_true rfl) dX7_work_217 (fun H locs hI => ?_)
      obtain ⟨v38, ev38, h⟩ := tf_glet h
      refine tf_top ev38 ?_
      refine lv_istore (lv' := [(5, .int v38), (0, .ref (ad 0)), (1, .int x1), (2, .int y2), (4, .int y4)]) hx hb dX7_work_220 hl (by decide) rfl (fun ls hl => ?_)
      refine lv_aload_n hx hb dX7_work_222 rfl (lv_at hl 1 rfl) ?_
      refine lv_iload hx hb dX7_work_223 (lv_at hl 0 rfl) ?_
      refine lv_bipush (v := -3) hx hb dX7_work_225 (by decide +kernel) ?_
      refine lv_icmp_ne (tgt := 235) hx hb dX7_work_227 (by decide) (fun c39 => ?_) (fun c39 => ?_)
      · replace h := tf_neg c39 h
        refine lv_bipush (v := 6) hx hb dX7_work_235 (by decide +kernel) ?_
        obtain ⟨s40, es40, h⟩ := tf_glet h
        refine tf_put (C := RX7) (T := TX7) (N := 35) (ty := .int) hx hb hts hn_X7 tyX7 tyX7_ok nmX7 hown hK hI 0 (tf_mat_0 ad cI cZ _) rfl 20 (by decide) hf_159 rfl rfl (by decide +kernel) rfl rfl (Nat.le_of_ble_eq_true rfl) (tf_mput_0_20 ad cI cZ _ _) es40 dX7_work_237 (fun H locs hI => ?_)
        refine lv_iload hx hb dX7_work_240 (lv_at hl 0 rfl) ?_
        refine lv_if_ge (tgt := 249) hx hb dX7_work_242 (by decide) (fun c41 => ?_) (fun c41 => ?_)
        · replace h := tf_pos c41 h
          refine lv_iload hx hb dX7_work_249 (lv_at hl 0 rfl) ?_
          exact tf_iret hx hb hr hI h dX7_work_251 hlocks
        replace h := tf_neg c41 h
        refine lv_iconst (v := -1) hx hb dX7_work_245 (by decide +kernel) ?_
        refine lv_goto (tgt := 251) hx hb dX7_work_246 (by decide) ?_
        exact tf_iret hx hb hr hI h dX7_work_251 hlocks
      replace h := tf_pos c39 h
      refine lv_bipush (v := 8) hx hb dX7_work_230 (by decide +kernel) ?_
      refine lv_goto (tgt := 237) hx hb dX7_work_232 (by decide) ?_
      obtain ⟨s42, es42, h⟩ := tf_glet h
      refine tf_put (C := RX7) (T := TX7) (N := 35) (ty := .int) hx hb hts hn_X7 tyX7 tyX7_ok nmX7 hown hK hI 0 (tf_mat_0 ad cI cZ _) rfl 20 (by decide) hf_159 rfl rfl (by decide +kernel) rfl rfl (Nat.le_of_ble_eq_true rfl) (tf_mput_0_20 ad cI cZ _ _) es42 dX7_work_237 (fun H locs hI => ?_)
      refine lv_iload hx hb dX7_work_240 (lv_at hl 0 rfl) ?_
      refine lv_if_ge (tgt := 249) hx hb dX7_work_242 (by decide) (fun c43 => ?_) (fun c43 => ?_)
      · replace h := tf_pos c43 h
        refine lv_iload hx hb dX7_work_249 (lv_at hl 0 rfl) ?_
        exact tf_iret hx hb hr hI h dX7_work_251 hlocks
      replace h := tf_neg c43 h
      refine lv_iconst (v := -1) hx hb dX7_work_245 (by decide +kernel) ?_
      refine lv_goto (tgt := 251) hx hb dX7_work_246 (by decide) ?_
      exact tf_iret hx hb hr hI h dX7_work_251 hlocks
    replace h := tf_neg c35 h
    by_cases c44 : (σ 18 (x1).toNatClampNeg) = (5 : Int32)
    · replace h := tf_pos c44 h
      refine lv_tableIn (tgt := 252) (off := 155) hx hb dX7_work_97 (by rw [c44]; decide +kernel) (by rw [c44]; decide +kernel) (by rw [c44]; decide +kernel) (by decide) ?_
      refine lv_aload_n hx hb dX7_work_252 rfl (lv_at hl 0 rfl) ?_
      refine lv_aload_n hx hb dX7_work_253 rfl (lv_at hl 0 rfl) ?_
      refine tf_get (C := RX7) (T := TX7) (N := 35) hx hb hts hn_X7 hown hK hI 0 (tf_mat_0 ad cI cZ _) rfl 28 (by decide) hf_78 rfl rfl dX7_work_254 ?_
      refine lv_iload_n hx hb dX7_work_257 rfl (lv_at hl 1 rfl) ?_
      obtain ⟨b45, h⟩ := tf_gin h
      refine va_iald hx hb hK hI.1 21 0 (tf_mat_21 ad cI cZ _) rfl b45 dX7_work_258 ?_
      refine lv_iload_n hx hb dX7_work_259 rfl (lv_at hl 2 rfl) ?_
      refine lv_iload hx hb dX7_work_260 (lv_at hl 3 rfl) ?_
      obtain ⟨u46, q47, h⟩ := tf_gbind h
      refine tf_callV (rest := []) ⟨hx, hb, hml, hown, hts⟩ hK hN hI (kM_X7_putTo l D ad cI cZ _ _ _ _ _ q47) (cwV 3 hts gX7_work_X7_putTo rfl rfl rfl (by decide +kernel) ⟨Nat.le_of_ble_eq_true rfl, Nat.le_of_ble_eq_true rfl⟩) 0 7 (tf_mat_0 ad cI cZ _) rfl rfl hl.1 rfl (Nat.le_of_ble_eq_true rfl) dX7_work_262 (fun H locs hI => ?_)
      exact tf_iret hx hb hr hI h dX7_work_265 hlocks
    replace h := tf_neg c44 h
    by_cases c48 : (σ 18 (x1).toNatClampNeg) = (6 : Int32)
    · replace h := tf_pos c48 h
      refine lv_tableIn (tgt := 266) (off := 169) hx hb dX7_work_97 (by rw [c48]; decide +kernel) (by rw [c48]; decide +kernel) (by rw [c48]; decide +kernel) (by decide) ?_
      refine lv_aload_n hx hb dX7_work_266 rfl (lv_at hl 0 rfl) ?_
      refine lv_iload_n hx hb dX7_work_267 rfl (lv_at hl 1 rfl) ?_
      refine lv_iload_n hx hb dX7_work_268 rfl (lv_at hl 2 rfl) ?_
      refine lv_iload hx hb dX7_work_269 (lv_at hl 3 rfl) ?_
      obtain ⟨u49, q50, h⟩ := tf_gbind h
      refine tf_callV (rest := []) ⟨hx, hb, hml, hown, hts⟩ hK hN hI (kM_X7_joined l D ad cI cZ _ _ _ _ _ q50) (cwV 3 hts gX7_work_X7_joined rfl rfl rfl (by decide +kernel) ⟨Nat.le_of_ble_eq_true rfl, Nat.le_of_ble_eq_true rfl⟩) 0 7 (tf_mat_0 ad cI cZ _) rfl rfl hl.1 rfl (Nat.le_of_ble_eq_true rfl) dX7_work_271 (fun H locs hI => ?_)
      exact tf_iret hx hb hr hI h dX7_work_274 hlocks
    replace h := tf_neg c48 h
    refine lv_tableOut (tgt := 275) hx hb dX7_work_97 (by have ac14 := lv_neT c14 (a := 0) (by decide +kernel); have ac16 := lv_neT c16 (a := 1) (by decide +kernel); have ac20 := lv_neT c20 (a := 2) (by decide +kernel); have ac31 := lv_neT c31 (a := 3) (by decide +kernel); have ac35 := lv_neT c35 (a := 4) (by decide +kernel); have ac44 := lv_neT c44 (a := 5) (by decide +kernel); have ac48 := lv_neT c48 (a := 6) (by decide +kernel); omega) (by decide) ?_
    refine lv_aload_n hx hb dX7_work_275 rfl (lv_at hl 0 rfl) ?_
    refine lv_iload_n hx hb dX7_work_276 rfl (lv_at hl 1 rfl) ?_
    refine lv_iload_n hx hb dX7_work_277 rfl (lv_at hl 2 rfl) ?_
    obtain ⟨u51, q52, h⟩ := tf_gbind h
    refine tf_callV (rest := []) ⟨hx, hb, hml, hown, hts⟩ hK hN hI (kM_X7_castOf l D ad cI cZ _ _ _ _ q52) (cwV 2 hts gX7_work_X7_castOf rfl rfl rfl (by decide +kernel) ⟨Nat.le_of_ble_eq_true rfl, Nat.le_of_ble_eq_true rfl⟩) 0 7 (tf_mat_0 ad cI cZ _) rfl rfl hl.1 rfl (Nat.le_of_ble_eq_true rfl) dX7_work_278 (fun H locs hI => ?_)
    exact tf_iret hx hb hr hI h dX7_work_281 hlocks
  have j57 : ∀ (σ : tf_S) (y2 y3 t0 : Int32) (H : Heap) (locs : List Loc) (ls : Array Slot), fX7_work_57 x1 σ y2 y3 t0 = some z → tf_I D (tf_wm ad cI cZ) s.heap σ H locs → lv_has ls 6 [(0, .ref (ad 0)), (1, .int x1), (2, .int y2), (3, .int y3)] → W p l e (headSpec wsX7_work ({ frames := 6, cells := 0, slots := 0, locals := 143 })).room s m ([.ref (ad 0), .int x1] : List Value).toArray below meth c H locs 0 0 (tf_Q below D (tf_wm ad cI cZ) z ([.ref (ad 0), .int x1] : List Value).toArray s) (F0 m 57 ls [.int t0]) := by
    intro σ y2 y3 t0 H locs ls h hI hl
    unfold fX7_work_57 at h
    refine lv_istore (lv' := [(4, .int t0), (0, .ref (ad 0)), (1, .int x1), (2, .int y2), (3, .int y3)]) hx hb dX7_work_57 hl (by decide) rfl (fun ls hl => ?_)
    refine lv_aload_n hx hb dX7_work_59 rfl (lv_at hl 1 rfl) ?_
    refine tf_get (C := RX7) (T := TX7) (N := 35) hx hb hts hn_X7 hown hK hI 0 (tf_mat_0 ad cI cZ _) rfl 25 (by decide) hf_69 rfl rfl dX7_work_60 ?_
    refine lv_iload_n hx hb dX7_work_63 rfl (lv_at hl 2 rfl) ?_
    obtain ⟨b10, h⟩ := tf_gin h
    refine va_iald hx hb hK hI.1 18 0 (tf_mat_18 ad cI cZ _) rfl b10 dX7_work_64 ?_
    refine lv_if_le (tgt := 73) hx hb dX7_work_65 (by decide) (fun c11 => ?_) (fun c11 => ?_)
    · replace h := tf_pos c11 h
      refine lv_iload_n hx hb dX7_work_73 rfl (lv_at hl 4 rfl) ?_
      refine lv_if_eq (tgt := 91) hx hb dX7_work_74 (by decide) (fun c12 => ?_) (fun c12 => ?_)
      · replace h := tf_pos c12 h
        exact j91  _ _ _ _ _ _ h hI (lv_sub hl [1, 2, 3, 0] rfl)
      replace h := tf_neg c12 h
      refine lv_iload hx hb dX7_work_77 (lv_at hl 0 rfl) ?_
      refine lv_iconst (v := -1) hx hb dX7_work_79 (by decide +kernel) ?_
      refine lv_icmp_ne (tgt := 91) hx hb dX7_work_80 (by decide) (fun c53 => ?_) (fun c53 => ?_)
      · replace h := tf_neg c53 h
        exact j91  _ _ _ _ _ _ h hI (lv_sub hl [1, 2, 3, 0] rfl)
      replace h := tf_pos c53 h
      refine lv_aload_n hx hb dX7_work_83 rfl (lv_at hl 1 rfl) ?_
      refine lv_bipush (v := 7) hx hb dX7_work_84 (by decide +kernel) ?_
      obtain ⟨s54, es54, h⟩ := tf_glet h
      refine tf_put (C := RX7) (T := TX7) (N := 35) (ty := .int) hx hb hts hn_X7 tyX7 tyX7_ok nmX7 hown hK hI 0 (tf_mat_0 ad cI cZ _) rfl 20 (by decide) hf_159 rfl rfl (by decide +kernel) rfl rfl (Nat.le_of_ble_eq_true rfl) (tf_mput_0_20 ad cI cZ _ _) es54 dX7_work_86 (fun H locs hI => ?_)
      refine lv_iconst (v := -1) hx hb dX7_work_89 (by decide +kernel) ?_
      exact tf_iret hx hb hr hI h dX7_work_90 hlocks
    replace h := tf_neg c11 h
    refine lv_iload_n hx hb dX7_work_68 rfl (lv_at hl 3 rfl) ?_
    refine lv_iconst (v := -1) hx hb dX7_work_69 (by decide +kernel) ?_
    refine lv_icmp_eq (tgt := 83) hx hb dX7_work_70 (by decide) (fun c55 => ?_) (fun c55 => ?_)
    · replace h := tf_pos c55 h
      refine lv_aload_n hx hb dX7_work_83 rfl (lv_at hl 1 rfl) ?_
      refine lv_bipush (v := 7) hx hb dX7_work_84 (by decide +kernel) ?_
      obtain ⟨s56, es56, h⟩ := tf_glet h
      refine tf_put (C := RX7) (T := TX7) (N := 35) (ty := .int) hx hb hts hn_X7 tyX7 tyX7_ok nmX7 hown hK hI 0 (tf_mat_0 ad cI cZ _) rfl 20 (by decide) hf_159 rfl rfl (by decide +kernel) rfl rfl (Nat.le_of_ble_eq_true rfl) (tf_mput_0_20 ad cI cZ _ _) es56 dX7_work_86 (fun H locs hI => ?_)
      refine lv_iconst (v := -1) hx hb dX7_work_89 (by decide +kernel) ?_
      exact tf_iret hx hb hr hI h dX7_work_90 hlocks
    replace h := tf_neg c55 h
    refine lv_iload_n hx hb dX7_work_73 rfl (lv_at hl 4 rfl) ?_
    refine lv_if_eq (tgt := 91) hx hb dX7_work_74 (by decide) (fun c57 => ?_) (fun c57 => ?_)
    · replace h := tf_pos c57 h
      exact j91  _ _ _ _ _ _ h hI (lv_sub hl [1, 2, 3, 0] rfl)
    replace h := tf_neg c57 h
    refine lv_iload hx hb dX7_work_77 (lv_at hl 0 rfl) ?_
    refine lv_iconst (v := -1) hx hb dX7_work_79 (by decide +kernel) ?_
    refine lv_icmp_ne (tgt := 91) hx hb dX7_work_80 (by decide) (fun c58 => ?_) (fun c58 => ?_)
    · replace h := tf_neg c58 h
      exact j91  _ _ _ _ _ _ h hI (lv_sub hl [1, 2, 3, 0] rfl)
    replace h := tf_pos c58 h
    refine lv_aload_n hx hb dX7_work_83 rfl (lv_at hl 1 rfl) ?_
    refine lv_bipush (v := 7) hx hb dX7_work_84 (by decide +kernel) ?_
    obtain ⟨s59, es59, h⟩ := tf_glet h
    refine tf_put (C := RX7) (T := TX7) (N := 35) (ty := .int) hx hb hts hn_X7 tyX7 tyX7_ok nmX7 hown hK hI 0 (tf_mat_0 ad cI cZ _) rfl 20 (by decide) hf_159 rfl rfl (by decide +kernel) rfl rfl (Nat.le_of_ble_eq_true rfl) (tf_mput_0_20 ad cI cZ _ _) es59 dX7_work_86 (fun H locs hI => ?_)
    refine lv_iconst (v := -1) hx hb dX7_work_89 (by decide +kernel) ?_
    exact tf_iret hx hb hr hI h dX7_work_90 hlocks
  have j24 : ∀ (σ : tf_S) (t0 : Int32) (H : Heap) (locs : List Loc) (ls : Array Slot), fX7_work_24 x1 σ t0 = some z → tf_I D (tf_wm ad cI cZ) s.heap σ H locs → lv_has ls 6 [(0, .ref (ad 0)), (1, .int x1)] → W p l e (headSpec wsX7_work ({ frames := 6, cells := 0, slots := 0, locals := 143 })).room s m ([.ref (ad 0), .int x1] : List Value).toArray below meth c H locs 0 0 (tf_Q below D (tf_wm ad cI cZ) z ([.ref (ad 0), .int x1] : List Value).toArray s) (F0 m 24 ls [.int t0]) := by
    intro σ t0 H locs ls h hI hl
    unfold fX7_work_24 at h
    refine lv_istore_n (lv' := [(2, .int t0), (0, .ref (ad 0)), (1, .int x1)]) hx hb dX7_work_24 rfl hl (by decide) rfl (fun ls hl => ?_)
    refine lv_aload_n hx hb dX7_work_25 rfl (lv_at hl 1 rfl) ?_
    refine tf_get (C := RX7) (T := TX7) (N := 35) hx hb hts hn_X7 hown hK hI 0 (tf_mat_0 ad cI cZ _) rfl 25 (by decide) hf_69 rfl rfl dX7_work_26 ?_
    refine lv_iload_n hx hb dX7_work_29 rfl (lv_at hl 2 rfl) ?_
    obtain ⟨b5, h⟩ := tf_gin h
    refine va_iald hx hb hK hI.1 18 0 (tf_mat_18 ad cI cZ _) rfl b5 dX7_work_30 ?_
    refine lv_iconst (v := 4) hx hb dX7_work_31 (by decide +kernel) ?_
    refine lv_bipush (v := 6) hx hb dX7_work_32 (by decide +kernel) ?_
    obtain ⟨u6, q7, h⟩ := tf_gbind h
    refine tf_callS (rest := []) ⟨hx, hb, hml, hown, hts⟩ hK hN hI (kM_X7_isIn l D ad cI cZ _ _ _ _ _ q7) (va_cwS 3 hts gX7_work_X7_isIn rfl rfl rfl (by decide +kernel) ⟨Nat.le_of_ble_eq_true rfl, Nat.le_of_ble_eq_true rfl⟩) rfl hl.1 rfl (Nat.le_of_ble_eq_true rfl) dX7_work_34 (fun H locs hI => ?_)
    obtain ⟨v8, ev8, h⟩ := tf_glet h
    refine tf_top ev8 ?_
    refine lv_istore_n (lv' := [(3, .int v8), (2, .int t0), (0, .ref (ad 0)), (1, .int x1)]) hx hb dX7_work_37 rfl hl (by decide) rfl (fun ls hl => ?_)
    refine lv_iload_n hx hb dX7_work_38 rfl (lv_at hl 0 rfl) ?_
    refine lv_if_eq (tgt := 56) hx hb dX7_work_39 (by decide) (fun c9 => ?_) (fun c9 => ?_)
    · replace h := tf_pos c9 h
      refine lv_iconst (v := -1) hx hb dX7_work_56 (by decide +kernel) ?_
      exact j57  _ _ _ _ _ _ _ h hI (lv_sub hl [2, 3, 1, 0] rfl)
    replace h := tf_neg c9 h
    refine lv_aload_n hx hb dX7_work_42 rfl (lv_at hl 2 rfl) ?_
    refine tf_get (C := RX7) (T := TX7) (N := 35) hx hb hts hn_X7 hown hK hI 0 (tf_mat_0 ad cI cZ _) rfl 31 (by decide) hf_87 rfl rfl dX7_work_43 ?_
    refine lv_aload_n hx hb dX7_work_46 rfl (lv_at hl 2 rfl) ?_
    refine tf_get (C := RX7) (T := TX7) (N := 35) hx hb hts hn_X7 hown hK hI 0 (tf_mat_0 ad cI cZ _) rfl 27 (by decide) hf_75 rfl rfl dX7_work_47 ?_
    refine lv_iload_n hx hb dX7_work_50 rfl (lv_at hl 3 rfl) ?_
    obtain ⟨b60, h⟩ := tf_gin h
    refine va_iald hx hb hK hI.1 20 0 (tf_mat_20 ad cI cZ _) rfl b60 dX7_work_51 ?_
    obtain ⟨b61, h⟩ := tf_gin h
    refine va_iald hx hb hK hI.1 24 0 (tf_mat_24 ad cI cZ _) rfl b61 dX7_work_52 ?_
    refine lv_goto (tgt := 57) hx hb dX7_work_53 (by decide) ?_
    exact j57  _ _ _ _ _ _ _ h hI (lv_sub hl [2, 3, 1, 0] rfl)
  unfold fX7_work at h
  refine lv_aload_n hx hb dX7_work_0 rfl (lv_at hl 0 rfl) ?_
  refine tf_get (C := RX7) (T := TX7) (N := 35) hx hb hts hn_X7 hown hK hI 0 (tf_mat_0 ad cI cZ _) rfl 25 (by decide) hf_69 rfl rfl dX7_work_1 ?_
  refine lv_iload_n hx hb dX7_work_4 rfl (lv_at hl 1 rfl) ?_
  obtain ⟨b1, h⟩ := tf_gin h
  refine va_iald hx hb hK hI.1 18 0 (tf_mat_18 ad cI cZ _) rfl b1 dX7_work_5 ?_
  refine lv_if_ne (tgt := 13) hx hb dX7_work_6 (by decide) (fun c2 => ?_) (fun c2 => ?_)
  · replace h := tf_neg c2 h
    refine lv_aload_n hx hb dX7_work_13 rfl (lv_at hl 0 rfl) ?_
    refine tf_get (C := RX7) (T := TX7) (N := 35) hx hb hts hn_X7 hown hK hI 0 (tf_mat_0 ad cI cZ _) rfl 31 (by decide) hf_87 rfl rfl dX7_work_14 ?_
    refine lv_aload_n hx hb dX7_work_17 rfl (lv_at hl 0 rfl) ?_
    refine tf_get (C := RX7) (T := TX7) (N := 35) hx hb hts hn_X7 hown hK hI 0 (tf_mat_0 ad cI cZ _) rfl 26 (by decide) hf_72 rfl rfl dX7_work_18 ?_
    refine lv_iload_n hx hb dX7_work_21 rfl (lv_at hl 1 rfl) ?_
    obtain ⟨b3, h⟩ := tf_gin h
    refine va_iald hx hb hK hI.1 19 0 (tf_mat_19 ad cI cZ _) rfl b3 dX7_work_22 ?_
    obtain ⟨b4, h⟩ := tf_gin h
    refine va_iald hx hb hK hI.1 24 0 (tf_mat_24 ad cI cZ _) rfl b4 dX7_work_23 ?_
    exact j24  _ _ _ _ _ h hI (lv_sub hl [0, 1] rfl)
  replace h := tf_pos c2 h
  refine lv_iconst (v := -1) hx hb dX7_work_9 (by decide +kernel) ?_
  refine lv_goto (tgt := 24) hx hb dX7_work_10 (by decide) ?_
  exact j24  _ _ _ _ _ h hI (lv_sub hl [0, 1] rfl)

set_option maxHeartbeats 4000000 in
set_option maxRecDepth 100000 in
theorem kM_X7_flow (l : Launch) (D : va_G) (ad : Nat → Nat) (cI cZ : ClassId) (σ : tf_S) (z : Int32 × tf_S) (h : fX7_flow σ = some z) : tf_C l D (tf_wm ad cI cZ) [(cI, .int), (cZ, .boolean)] [] yX7_flow wsX7_flow ({ frames := 7, cells := 0, slots := 0, locals := 168 }) [.ref (ad 0)] σ z := by
  intro sz
  refine Met.ofW (cc := cX7_flow) (maxL := 6) (ret := (some .int)) (by decide) rfl ?_
  intro p e s m args below meth c s₁ B hml hv
  obtain ⟨rfl, hsz, hP, hK, hN, hD0⟩ := hv
  have hx := B.exec
  have hb := B.bytes
  have hr := B.returns
  have hts := atoms_spec (ws := wsX7_flow) B.pre
  have hown : s.vm.findClass RX7 = some m.cls := findClass_of_methodNamed B.named
  have hlocks := B.notSynchronized
  subst hsz
  have hI := tf_start (D := D) (tf_m_ad ad cI cZ) hP hD0
  have hl := lv_entry ([.ref (ad 0)]) (n := 6) (Nat.le_of_ble_eq_true rfl)
  rw [lg_entry_eq]
  generalize (lg_sl ([.ref (ad 0)]) ++ List.replicate (6 - (lg_sl ([.ref (ad 0)])).length) Slot.unset).toArray = ls at hl ⊢
  have hl : lv_has ls 6 [(0, .ref (ad 0))] := hl
  have hn_X7 : ∀ w ∈ u_ws RX7 TX7 35, w ∈ wsX7_flow := by decide +kernel
  have hf_59 := hts (.fieldLink RX7 59 "TypeFlowModel" "bindings" "[I") (by decide +kernel)
  have hf_69 := hts (.fieldLink RX7 69 "TypeFlowModel" "kind" "[I") (by decide +kernel)
  have hf_87 := hts (.fieldLink RX7 87 "TypeFlowModel" "comes" "[I") (by decide +kernel)
  have hf_90 := hts (.fieldLink RX7 90 "TypeFlowModel" "reasons" "[I") (by decide +kernel)
  have hf_93 := hts (.fieldLink RX7 93 "TypeFlowModel" "mayFail" "[Z") (by decide +kernel)
  have hf_96 := hts (.fieldLink RX7 96 "TypeFlowModel" "bound" "[I") (by decide +kernel)
  have hf_159 := hts (.fieldLink RX7 159 "TypeFlowModel" "reason" "I") (by decide +kernel)
  have hf_189 := hts (.fieldLink RX7 189 "TypeFlowModel" "operators" "I") (by decide +kernel)
  have j101 : ∀ (k4 : tf_S → Int32 → Int32 → Option (Int32 × tf_S)), (∀ (σ : tf_S) (y1 y2 : Int32) (H : Heap) (locs : List Loc) (ls : Array Slot), k4 σ y1 y2 = some z → tf_I D (tf_wm ad cI cZ) s.heap σ H locs → lv_has ls 6 [(0, .ref (ad 0)), (1, .int y1), (2, .int y2)] → W p l e (headSpec wsX7_flow ({ frames := 7, cells := 0, slots := 0, locals := 168 })).room s m ([.ref (ad 0)] : List Value).toArray below meth c H locs 0 0 (tf_Q below D (tf_wm ad cI cZ) z ([.ref (ad 0)] : List Value).toArray s) (F0 m 4 ls [])) → ∀ n : Nat, ∀ (σ : tf_S) (y1 y2 y3 y4 y5 : Int32) (H : Heap) (locs : List Loc) (ls : Array Slot), fX7_flow_101 k4 n σ y1 y2 y3 y4 y5 = some z → tf_I D (tf_wm ad cI cZ) s.heap σ H locs → lv_has ls 6 [(0, .ref (ad 0)), (1, .int y1), (2, .int y2), (3, .int y3), (4, .int y4), (5, .int y5)] → W p l e (headSpec wsX7_flow ({ frames := 7, cells := 0, slots := 0, locals := 168 })).room s m ([.ref (ad 0)] : List Value).toArray below meth c H locs 0 0 (tf_Q below D (tf_wm ad cI cZ) z ([.ref (ad 0)] : List Value).toArray s) (F0 m 101 ls []) := by
    intro k4 hk4 n
    induction n with
    | zero =>
      intro σ y1 y2 y3 y4 y5 H locs ls h
      rw [fX7_flow_101] at h
      cases h
    | succ n ih =>
      intro σ y1 y2 y3 y4 y5 H locs ls h hI hl
      rw [fX7_flow_101] at h
      refine lv_iload hx hb dX7_flow_101 (lv_at hl 5 rfl) ?_
      refine lv_iconst (v := 2) hx hb dX7_flow_103 (by decide +kernel) ?_
      refine lv_icmp_ge (tgt := 140) hx hb dX7_flow_104 (by decide) (fun c14 => ?_) (fun c14 => ?_)
      · replace h := tf_pos c14 h
        refine lv_iload_n hx hb dX7_flow_140 rfl (lv_at hl 1 rfl) ?_
        refine lv_iload_n hx hb dX7_flow_141 rfl (lv_at hl 3 rfl) ?_
        refine lv_iconst (v := -1) hx hb dX7_flow_142 (by decide +kernel) ?_
        refine lv_icmp_ne (tgt := 150) hx hb dX7_flow_143 (by decide) (fun c15 => ?_) (fun c15 => ?_)
        · replace h := tf_neg c15 h
          refine lv_iconst (v := 1) hx hb dX7_flow_150 (by decide +kernel) ?_
          refine lv_iadd hx hb dX7_flow_151 ?_
          obtain ⟨v16, ev16, h⟩ := tf_glet h
          refine tf_top ev16 ?_
          refine lv_istore_n (lv' := [(1, .int v16), (0, .ref (ad 0)), (2, .int y2), (3, .int y3), (4, .int y4), (5, .int y5)]) hx hb dX7_flow_152 rfl hl (by decide) rfl (fun ls hl => ?_)
          obtain ⟨v17, ev17, h⟩ := tf_glet h
          refine lv_iinc (v := v17) (lv' := [(2, .int v17), (1, .int v16), (0, .ref (ad 0)), (3, .int y3), (4, .int y4), (5, .int y5)]) hx hb dX7_flow_153 hl (k := 2) rfl (by rw [ev17]; rfl) (by decide) rfl (fun ls hl => ?_)
          refine lv_goto (tgt := 4) hx hb dX7_flow_156 (by decide) ?_
          exact hk4 _ _ _ _ _ _ h hI (lv_sub hl [2, 1, 0] rfl)
        replace h := tf_pos c15 h
        refine lv_iconst (v := 0) hx hb dX7_flow_146 (by decide +kernel) ?_
        refine lv_goto (tgt := 151) hx hb dX7_flow_147 (by decide) ?_
        refine lv_iadd hx hb dX7_flow_151 ?_
        obtain ⟨v18, ev18, h⟩ := tf_glet h
        refine tf_top ev18 ?_
        refine lv_istore_n (lv' := [(1, .int v18), (0, .ref (ad 0)), (2, .int y2), (3, .int y3), (4, .int y4), (5, .int y5)]) hx hb dX7_flow_152 rfl hl (by decide) rfl (fun ls hl => ?_)
        obtain ⟨v19, ev19, h⟩ := tf_glet h
        refine lv_iinc (v := v19) (lv' := [(2, .int v19), (1, .int v18), (0, .ref (ad 0)), (3, .int y3), (4, .int y4), (5, .int y5)]) hx hb dX7_flow_153 hl (k := 2) rfl (by rw [ev19]; rfl) (by decide) rfl (fun ls hl => ?_)
        refine lv_goto (tgt := 4) hx hb dX7_flow_156 (by decide) ?_
        exact hk4 _ _ _ _ _ _ h hI (lv_sub hl [2, 1, 0] rfl)
      replace h := tf_neg c14 h
      refine lv_aload_n hx hb dX7_flow_107 rfl (lv_at hl 0 rfl) ?_
      refine tf_get (C := RX7) (T := TX7) (N := 35) hx hb hts hn_X7 hown hK hI 0 (tf_mat_0 ad cI cZ _) rfl 34 (by decide) hf_96 rfl rfl dX7_flow_108 ?_
      refine lv_iconst (v := 2) hx hb dX7_flow_111 (by decide +kernel) ?_
      refine lv_iload_n hx hb dX7_flow_112 rfl (lv_at hl 2 rfl) ?_
      refine lv_imul hx hb dX7_flow_113 ?_
      refine lv_iload hx hb dX7_flow_114 (lv_at hl 5 rfl) ?_
      refine lv_iadd hx hb dX7_flow_116 ?_
      refine lv_iload hx hb dX7_flow_117 (lv_at hl 4 rfl) ?_
      refine lv_if_eq (tgt := 132) hx hb dX7_flow_119 (by decide) (fun c20 => ?_) (fun c20 => ?_)
      · replace h := tf_pos c20 h
        refine lv_iconst (v := -1) hx hb dX7_flow_132 (by decide +kernel) ?_
        obtain ⟨b21, h⟩ := tf_gin h
        obtain ⟨s22, es22, h⟩ := tf_glet h
        refine tf_iast hx hb hK hI 27 0 (tf_mat_27 ad cI cZ _) (tf_mset_27 ad cI cZ _) rfl b21 es22 dX7_flow_133 (fun H locs hI => ?_)
        obtain ⟨v23, ev23, h⟩ := tf_glet h
        refine lv_iinc (v := v23) (lv' := [(5, .int v23), (0, .ref (ad 0)), (1, .int y1), (2, .int y2), (3, .int y3), (4, .int y4)]) hx hb dX7_flow_134 hl (k := 5) rfl (by rw [ev23]; rfl) (by decide) rfl (fun ls hl => ?_)
        refine lv_goto (tgt := 101) hx hb dX7_flow_137 (by decide) ?_
        exact ih _ _ _ _ _ _ _ _ _ h hI (lv_sub hl [1, 2, 3, 4, 5, 0] rfl)
      replace h := tf_neg c20 h
      refine lv_aload_n hx hb dX7_flow_122 rfl (lv_at hl 0 rfl) ?_
      refine tf_get (C := RX7) (T := TX7) (N := 35) hx hb hts hn_X7 hown hK hI 0 (tf_mat_0 ad cI cZ _) rfl 19 (by decide) hf_59 rfl rfl dX7_flow_123 ?_
      refine lv_iload hx hb dX7_flow_126 (lv_at hl 5 rfl) ?_
      obtain ⟨b24, h⟩ := tf_gin h
      refine va_iald hx hb hK hI.1 15 0 (tf_mat_15 ad cI cZ _) rfl b24 dX7_flow_128 ?_
      refine lv_goto (tgt := 133) hx hb dX7_flow_129 (by decide) ?_
      obtain ⟨b25, h⟩ := tf_gin h
      obtain ⟨s26, es26, h⟩ := tf_glet h
      refine tf_iast hx hb hK hI 27 0 (tf_mat_27 ad cI cZ _) (tf_mset_27 ad cI cZ _) rfl b25 es26 dX7_flow_133 (fun H locs hI => ?_)
      obtain ⟨v27, ev27, h⟩ := tf_glet h
      refine lv_iinc (v := v27) (lv' := [(5, .int v27), (0, .ref (ad 0)), (1, .int y1), (2, .int y2), (3, .int y3), (4, .int y4)]) hx hb dX7_flow_134 hl (k := 5) rfl (by rw [ev27]; rfl) (by decide) rfl (fun ls hl => ?_)
      refine lv_goto (tgt := 101) hx hb dX7_flow_137 (by decide) ?_
      exact ih _ _ _ _ _ _ _ _ _ h hI (lv_sub hl [1, 2, 3, 4, 5, 0] rfl)
  have j55 : ∀ (k4 : tf_S → Int32 → Int32 → Option (Int32 × tf_S)), (∀ (σ : tf_S) (y1 y2 : Int32) (H : Heap) (locs : List Loc) (ls : Array Slot), k4 σ y1 y2 = some z → tf_I D (tf_wm ad cI cZ) s.heap σ H locs → lv_has ls 6 [(0, .ref (ad 0)), (1, .int y1), (2, .int y2)] → W p l e (headSpec wsX7_flow ({ frames := 7, cells := 0, slots := 0, locals := 168 })).room s m ([.ref (ad 0)] : List Value).toArray below meth c H locs 0 0 (tf_Q below D (tf_wm ad cI cZ) z ([.ref (ad 0)] : List Value).toArray s) (F0 m 4 ls [])) → ∀ (σ : tf_S) (y1 y2 y3 t0 t1 : Int32) (H : Heap) (locs : List Loc) (ls : Array Slot), fX7_flow_55 k4 σ y1 y2 y3 t0 t1 = some z → tf_I D (tf_wm ad cI cZ) s.heap σ H locs → lv_has ls 6 [(0, .ref (ad 0)), (1, .int y1), (2, .int y2), (3, .int y3)] → W p l e (headSpec wsX7_flow ({ frames := 7, cells := 0, slots := 0, locals := 168 })).room s m ([.ref (ad 0)] : List Value).toArray below meth c H locs 0 0 (tf_Q below D (tf_wm ad cI cZ) z ([.ref (ad 0)] : List Value).toArray s) (F0 m 55 ls [.int t0, .int t1, .ref (ad 25)]) := by
    intro k4 hk4 σ y1 y2 y3 t0 t1 H locs ls h hI hl
    unfold fX7_flow_55 at h
    obtain ⟨b11, h⟩ := tf_gin h
    obtain ⟨s12, es12, h⟩ := tf_glet h
    refine tf_iast hx hb hK hI 25 0 (tf_mat_25 ad cI cZ _) (tf_mset_25 ad cI cZ _) rfl b11 es12 dX7_flow_55 (fun H locs hI => ?_)
    refine lv_iload_n hx hb dX7_flow_56 rfl (lv_at hl 3 rfl) ?_
    refine lv_iconst (v := -1) hx hb dX7_flow_57 (by decide +kernel) ?_
    refine lv_icmp_eq (tgt := 95) hx hb dX7_flow_58 (by decide) (fun c13 => ?_) (fun c13 => ?_)
    · replace h := tf_pos c13 h
      refine lv_iconst (v := 0) hx hb dX7_flow_95 (by decide +kernel) ?_
      refine lv_istore (lv' := [(4, .int (0 : Int32)), (0, .ref (ad 0)), (1, .int y1), (2, .int y2), (3, .int y3)]) hx hb dX7_flow_96 hl (by decide) rfl (fun ls hl => ?_)
      refine lv_iconst (v := 0) hx hb dX7_flow_98 (by decide +kernel) ?_
      refine lv_istore (lv' := [(5, .int (0 : Int32)), (4, .int (0 : Int32)), (0, .ref (ad 0)), (1, .int y1), (2, .int y2), (3, .int y3)]) hx hb dX7_flow_99 hl (by decide) rfl (fun ls hl => ?_)
      exact j101 _ hk4 _ _ _ _ _ _ _ _ _ _ h hI (lv_sub hl [2, 3, 4, 5, 1, 0] rfl)
    replace h := tf_neg c13 h
    refine lv_aload_n hx hb dX7_flow_61 rfl (lv_at hl 0 rfl) ?_
    refine tf_get (C := RX7) (T := TX7) (N := 35) hx hb hts hn_X7 hown hK hI 0 (tf_mat_0 ad cI cZ _) rfl 25 (by decide) hf_69 rfl rfl dX7_flow_62 ?_
    refine lv_iload_n hx hb dX7_flow_65 rfl (lv_at hl 2 rfl) ?_
    obtain ⟨b28, h⟩ := tf_gin h
    refine va_iald hx hb hK hI.1 18 0 (tf_mat_18 ad cI cZ _) rfl b28 dX7_flow_66 ?_
    refine lv_iconst (v := 1) hx hb dX7_flow_67 (by decide +kernel) ?_
    refine lv_icmp_eq (tgt := 91) hx hb dX7_flow_68 (by decide) (fun c29 => ?_) (fun c29 => ?_)
    · replace h := tf_pos c29 h
      refine lv_iconst (v := 1) hx hb dX7_flow_91 (by decide +kernel) ?_
      refine lv_goto (tgt := 96) hx hb dX7_flow_92 (by decide) ?_
      refine lv_istore (lv' := [(4, .int (1 : Int32)), (0, .ref (ad 0)), (1, .int y1), (2, .int y2), (3, .int y3)]) hx hb dX7_flow_96 hl (by decide) rfl (fun ls hl => ?_)
      refine lv_iconst (v := 0) hx hb dX7_flow_98 (by decide +kernel) ?_
      refine lv_istore (lv' := [(5, .int (0 : Int32)), (4, .int (1 : Int32)), (0, .ref (ad 0)), (1, .int y1), (2, .int y2), (3, .int y3)]) hx hb dX7_flow_99 hl (by decide) rfl (fun ls hl => ?_)
      exact j101 _ hk4 _ _ _ _ _ _ _ _ _ _ h hI (lv_sub hl [2, 3, 4, 5, 1, 0] rfl)
    replace h := tf_neg c29 h
    refine lv_aload_n hx hb dX7_flow_71 rfl (lv_at hl 0 rfl) ?_
    refine tf_get (C := RX7) (T := TX7) (N := 35) hx hb hts hn_X7 hown hK hI 0 (tf_mat_0 ad cI cZ _) rfl 25 (by decide) hf_69 rfl rfl dX7_flow_72 ?_
    refine lv_iload_n hx hb dX7_flow_75 rfl (lv_at hl 2 rfl) ?_
    obtain ⟨b30, h⟩ := tf_gin h
    refine va_iald hx hb hK hI.1 18 0 (tf_mat_18 ad cI cZ _) rfl b30 dX7_flow_76 ?_
    refine lv_iconst (v := 2) hx hb dX7_flow_77 (by decide +kernel) ?_
    refine lv_icmp_eq (tgt := 91) hx hb dX7_flow_78 (by decide) (fun c31 => ?_) (fun c31 => ?_)
    · replace h := tf_pos c31 h
      refine lv_iconst (v := 1) hx hb dX7_flow_91 (by decide +kernel) ?_
      refine lv_goto (tgt := 96) hx hb dX7_flow_92 (by decide) ?_
      refine lv_istore (lv' := [(4, .int (1 : Int32)), (0, .ref (ad 0)), (1, .int y1), (2, .int y2), (3, .int y3)]) hx hb dX7_flow_96 hl (by decide) rfl (fun ls hl => ?_)
      refine lv_iconst (v := 0) hx hb dX7_flow_98 (by decide +kernel) ?_
      refine lv_istore (lv' := [(5, .int (0 : Int32)), (4, .int (1 : Int32)), (0, .ref (ad 0)), (1, .int y1), (2, .int y2), (3, .int y3)]) hx hb dX7_flow_99 hl (by decide) rfl (fun ls hl => ?_)
      exact j101 _ hk4 _ _ _ _ _ _ _ _ _ _ h hI (lv_sub hl [2, 3, 4, 5, 1, 0] rfl)
    replace h := tf_neg c31 h
    refine lv_aload_n hx hb dX7_flow_81 rfl (lv_at hl 0 rfl) ?_
    refine tf_get (C := RX7) (T := TX7) (N := 35) hx hb hts hn_X7 hown hK hI 0 (tf_mat_0 ad cI cZ _) rfl 25 (by decide) hf_69 rfl rfl dX7_flow_82 ?_
    refine lv_iload_n hx hb dX7_flow_85 rfl (lv_at hl 2 rfl) ?_
    obtain ⟨b32, h⟩ := tf_gin h
    refine va_iald hx hb hK hI.1 18 0 (tf_mat_18 ad cI cZ _) rfl b32 dX7_flow_86 ?_
    refine lv_iconst (v := 5) hx hb dX7_flow_87 (by decide +kernel) ?_
    refine lv_icmp_ne (tgt := 95) hx hb dX7_flow_88 (by decide) (fun c33 => ?_) (fun c33 => ?_)
    · replace h := tf_neg c33 h
      refine lv_iconst (v := 0) hx hb dX7_flow_95 (by decide +kernel) ?_
      refine lv_istore (lv' := [(4, .int (0 : Int32)), (0, .ref (ad 0)), (1, .int y1), (2, .int y2), (3, .int y3)]) hx hb dX7_flow_96 hl (by decide) rfl (fun ls hl => ?_)
      refine lv_iconst (v := 0) hx hb dX7_flow_98 (by decide +kernel) ?_
      refine lv_istore (lv' := [(5, .int (0 : Int32)), (4, .int (0 : Int32)), (0, .ref (ad 0)), (1, .int y1), (2, .int y2), (3, .int y3)]) hx hb dX7_flow_99 hl (by decide) rfl (fun ls hl => ?_)
      exact j101 _ hk4 _ _ _ _ _ _ _ _ _ _ h hI (lv_sub hl [2, 3, 4, 5, 1, 0] rfl)
    replace h := tf_pos c33 h
    refine lv_iconst (v := 1) hx hb dX7_flow_91 (by decide +kernel) ?_
    refine lv_goto (tgt := 96) hx hb dX7_flow_92 (by decide) ?_
    refine lv_istore (lv' := [(4, .int (1 : Int32)), (0, .ref (ad 0)), (1, .int y1), (2, .int y2), (3, .int y3)]) hx hb dX7_flow_96 hl (by decide) rfl (fun ls hl => ?_)
    refine lv_iconst (v := 0) hx hb dX7_flow_98 (by decide +kernel) ?_
    refine lv_istore (lv' := [(5, .int (0 : Int32)), (4, .int (1 : Int32)), (0, .ref (ad 0)), (1, .int y1), (2, .int y2), (3, .int y3)]) hx hb dX7_flow_99 hl (by decide) rfl (fun ls hl => ?_)
    exact j101 _ hk4 _ _ _ _ _ _ _ _ _ _ h hI (lv_sub hl [2, 3, 4, 5, 1, 0] rfl)
  have j4 : ∀ n : Nat, ∀ (σ : tf_S) (y1 y2 : Int32) (H : Heap) (locs : List Loc) (ls : Array Slot), fX7_flow_4 n σ y1 y2 = some z → tf_I D (tf_wm ad cI cZ) s.heap σ H locs → lv_has ls 6 [(0, .ref (ad 0)), (1, .int y1), (2, .int y2)] → W p l e (headSpec wsX7_flow ({ frames := 7, cells := 0, slots := 0, locals := 168 })).room s m ([.ref (ad 0)] : List Value).toArray below meth c H locs 0 0 (tf_Q below D (tf_wm ad cI cZ) z ([.ref (ad 0)] : List Value).toArray s) (F0 m 4 ls []) := by
    intro n
    induction n with
    | zero =>
      intro σ y1 y2 H locs ls h
      rw [fX7_flow_4] at h
      cases h
    | succ n ih =>
      intro σ y1 y2 H locs ls h hI hl
      rw [fX7_flow_4] at h
      refine lv_iload_n hx hb dX7_flow_4 rfl (lv_at hl 2 rfl) ?_
      refine lv_aload_n hx hb dX7_flow_5 rfl (lv_at hl 0 rfl) ?_
      refine tf_get (C := RX7) (T := TX7) (N := 35) hx hb hts hn_X7 hown hK hI 0 (tf_mat_0 ad cI cZ _) rfl 24 (by decide) hf_189 rfl rfl dX7_flow_6 ?_
      refine lv_icmp_ge (tgt := 159) hx hb dX7_flow_9 (by decide) (fun c1 => ?_) (fun c1 => ?_)
      · replace h := tf_pos c1 h
        refine lv_iload_n hx hb dX7_flow_159 rfl (lv_at hl 1 rfl) ?_
        exact tf_iret hx hb hr hI h dX7_flow_160 hlocks
      replace h := tf_neg c1 h
      refine lv_aload_n hx hb dX7_flow_12 rfl (lv_at hl 0 rfl) ?_
      refine tf_get (C := RX7) (T := TX7) (N := 35) hx hb hts hn_X7 hown hK hI 0 (tf_mat_0 ad cI cZ _) rfl 33 (by decide) hf_93 rfl rfl dX7_flow_13 ?_
      refine lv_iload_n hx hb dX7_flow_16 rfl (lv_at hl 2 rfl) ?_
      refine lv_iconst (v := 0) hx hb dX7_flow_17 (by decide +kernel) ?_
      obtain ⟨b2, h⟩ := tf_gin h
      obtain ⟨s3, es3, h⟩ := tf_glet h
      refine tf_zast hx hb hK hI 26 1 (tf_mat_26 ad cI cZ _) (tf_mset_26 ad cI cZ _) rfl b2 (Or.inl rfl) es3 dX7_flow_18 (fun H locs hI => ?_)
      refine lv_aload_n hx hb dX7_flow_19 rfl (lv_at hl 0 rfl) ?_
      refine lv_iconst (v := 0) hx hb dX7_flow_20 (by decide +kernel) ?_
      obtain ⟨s4, es4, h⟩ := tf_glet h
      refine tf_put (C := RX7) (T := TX7) (N := 35) (ty := .int) hx hb hts hn_X7 tyX7 tyX7_ok nmX7 hown hK hI 0 (tf_mat_0 ad cI cZ _) rfl 20 (by decide) hf_159 rfl rfl (by decide +kernel) rfl rfl (Nat.le_of_ble_eq_true rfl) (tf_mput_0_20 ad cI cZ _ _) es4 dX7_flow_21 (fun H locs hI => ?_)
      refine lv_aload_n hx hb dX7_flow_24 rfl (lv_at hl 0 rfl) ?_
      refine lv_iload_n hx hb dX7_flow_25 rfl (lv_at hl 2 rfl) ?_
      obtain ⟨u5, q6, h⟩ := tf_gbind h
      refine tf_callV (rest := []) ⟨hx, hb, hml, hown, hts⟩ hK hN hI (kM_X7_work l D ad cI cZ _ _ _ q6) (cwV 1 hts gX7_flow_X7_work rfl rfl rfl (by decide +kernel) ⟨Nat.le_of_ble_eq_true rfl, Nat.le_of_ble_eq_true rfl⟩) 0 7 (tf_mat_0 ad cI cZ _) rfl rfl hl.1 rfl (Nat.le_of_ble_eq_true rfl) dX7_flow_26 (fun H locs hI => ?_)
      obtain ⟨v7, ev7, h⟩ := tf_glet h
      refine tf_top ev7 ?_
      refine lv_istore_n (lv' := [(3, .int v7), (0, .ref (ad 0)), (1, .int y1), (2, .int y2)]) hx hb dX7_flow_29 rfl hl (by decide) rfl (fun ls hl => ?_)
      refine lv_aload_n hx hb dX7_flow_30 rfl (lv_at hl 1 rfl) ?_
      refine tf_get (C := RX7) (T := TX7) (N := 35) hx hb hts hn_X7 hown hK hI 0 (tf_mat_0 ad cI cZ _) rfl 31 (by decide) hf_87 rfl rfl dX7_flow_31 ?_
      refine lv_iload_n hx hb dX7_flow_34 rfl (lv_at hl 3 rfl) ?_
      refine lv_iload_n hx hb dX7_flow_35 rfl (lv_at hl 0 rfl) ?_
      obtain ⟨b8, h⟩ := tf_gin h
      obtain ⟨s9, es9, h⟩ := tf_glet h
      refine tf_iast hx hb hK hI 24 0 (tf_mat_24 ad cI cZ _) (tf_mset_24 ad cI cZ _) rfl b8 es9 dX7_flow_36 (fun H locs hI => ?_)
      refine lv_aload_n hx hb dX7_flow_37 rfl (lv_at hl 1 rfl) ?_
      refine tf_get (C := RX7) (T := TX7) (N := 35) hx hb hts hn_X7 hown hK hI 0 (tf_mat_0 ad cI cZ _) rfl 32 (by decide) hf_90 rfl rfl dX7_flow_38 ?_
      refine lv_iload_n hx hb dX7_flow_41 rfl (lv_at hl 3 rfl) ?_
      refine lv_iload_n hx hb dX7_flow_42 rfl (lv_at hl 0 rfl) ?_
      refine lv_iconst (v := -1) hx hb dX7_flow_43 (by decide +kernel) ?_
      refine lv_icmp_ne (tgt := 54) hx hb dX7_flow_44 (by decide) (fun c10 => ?_) (fun c10 => ?_)
      · replace h := tf_neg c10 h
        refine lv_iconst (v := 0) hx hb dX7_flow_54 (by decide +kernel) ?_
        exact j55 _ ih _ _ _ _ _ _ _ _ _ h hI (lv_sub hl [1, 2, 3, 0] rfl)
      replace h := tf_pos c10 h
      refine lv_aload_n hx hb dX7_flow_47 rfl (lv_at hl 1 rfl) ?_
      refine tf_get (C := RX7) (T := TX7) (N := 35) hx hb hts hn_X7 hown hK hI 0 (tf_mat_0 ad cI cZ _) rfl 20 (by decide) hf_159 rfl rfl dX7_flow_48 ?_
      refine lv_goto (tgt := 55) hx hb dX7_flow_51 (by decide) ?_
      exact j55 _ ih _ _ _ _ _ _ _ _ _ h hI (lv_sub hl [1, 2, 3, 0] rfl)
  unfold fX7_flow at h
  refine lv_iconst (v := 0) hx hb dX7_flow_0 (by decide +kernel) ?_
  refine lv_istore_n (lv' := [(1, .int (0 : Int32)), (0, .ref (ad 0))]) hx hb dX7_flow_1 rfl hl (by decide) rfl (fun ls hl => ?_)
  refine lv_iconst (v := 0) hx hb dX7_flow_2 (by decide +kernel) ?_
  refine lv_istore_n (lv' := [(2, .int (0 : Int32)), (1, .int (0 : Int32)), (0, .ref (ad 0))]) hx hb dX7_flow_3 rfl hl (by decide) rfl (fun ls hl => ?_)
  exact j4  _ _ _ _ _ _ _ h hI (lv_sub hl [2, 1, 0] rfl)

set_option maxHeartbeats 4000000 in
set_option maxRecDepth 100000 in
theorem kM_X7_isOperator (l : Launch) (D : va_G) (ad : Nat → Nat) (cI cZ : ClassId) (σ : tf_S) (x1 : Int32) (z : Int32 × tf_S) (h : fX7_isOperator σ x1 = some z) : tf_C l D (tf_wm ad cI cZ) [(cI, .int), (cZ, .boolean)] [] yX7_isOperator wsX7_isOperator ({ frames := 1, cells := 0, slots := 0, locals := 22 }) [.ref (ad 0), .int x1] σ z := by
  intro sz
  refine Met.ofW (cc := cX7_isOperator) (maxL := 2) (ret := (some .boolean)) (by decide) rfl ?_
  intro p e s m args below meth c s₁ B hml hv
  obtain ⟨rfl, hsz, hP, hK, hN, hD0⟩ := hv
  have hx := B.exec
  have hb := B.bytes
  have hr := B.returns
  have hts := atoms_spec (ws := wsX7_isOperator) B.pre
  have hown : s.vm.findClass RX7 = some m.cls := findClass_of_methodNamed B.named
  have hlocks := B.notSynchronized
  subst hsz
  have hI := tf_start (D := D) (tf_m_ad ad cI cZ) hP hD0
  have hl := lv_entry ([.ref (ad 0), .int x1]) (n := 2) (Nat.le_of_ble_eq_true rfl)
  rw [lg_entry_eq]
  generalize (lg_sl ([.ref (ad 0), .int x1]) ++ List.replicate (2 - (lg_sl ([.ref (ad 0), .int x1])).length) Slot.unset).toArray = ls at hl ⊢
  have hl : lv_has ls 2 [(0, .ref (ad 0)), (1, .int x1)] := hl
  have hn_X7 : ∀ w ∈ u_ws RX7 TX7 35, w ∈ wsX7_isOperator := by decide +kernel
  have hf_189 := hts (.fieldLink RX7 189 "TypeFlowModel" "operators" "I") (by decide +kernel)
  unfold fX7_isOperator at h
  refine lv_iload_n hx hb dX7_isOperator_0 rfl (lv_at hl 1 rfl) ?_
  refine lv_iconst (v := 0) hx hb dX7_isOperator_1 (by decide +kernel) ?_
  refine lv_aload_n hx hb dX7_isOperator_2 rfl (lv_at hl 0 rfl) ?_
  refine tf_get (C := RX7) (T := TX7) (N := 35) hx hb hts hn_X7 hown hK hI 0 (tf_mat_0 ad cI cZ _) rfl 24 (by decide) hf_189 rfl rfl dX7_isOperator_3 ?_
  refine lv_iconst (v := 1) hx hb dX7_isOperator_6 (by decide +kernel) ?_
  refine lv_isub hx hb dX7_isOperator_7 ?_
  obtain ⟨u1, q2, h⟩ := tf_gbind h
  refine tf_callS (rest := []) ⟨hx, hb, hml, hown, hts⟩ hK hN hI (kM_X7_isIn l D ad cI cZ _ _ _ _ _ q2) (va_cwS 3 hts gX7_isOperator_X7_isIn rfl rfl rfl (by decide +kernel) ⟨Nat.le_of_ble_eq_true rfl, Nat.le_of_ble_eq_true rfl⟩) rfl hl.1 rfl (Nat.le_of_ble_eq_true rfl) dX7_isOperator_8 (fun H locs hI => ?_)
  obtain ⟨b3, h⟩ := tf_gbz h
  exact tf_zret hx hb hr b3 hI h dX7_isOperator_11 hlocks

set_option maxHeartbeats 4000000 in
set_option maxRecDepth 100000 in
theorem kM_X7_comes (l : Launch) (D : va_G) (ad : Nat → Nat) (cI cZ : ClassId) (σ : tf_S) (x1 : Int32) (z : Int32 × tf_S) (h : fX7_comes σ x1 = some z) : tf_C l D (tf_wm ad cI cZ) [(cI, .int), (cZ, .boolean)] [] yX7_comes wsX7_comes ({ frames := 2, cells := 0, slots := 0, locals := 43 }) [.ref (ad 0), .int x1] σ z := by
  intro sz
  refine Met.ofW (cc := cX7_comes) (maxL := 2) (ret := (some .int)) (by decide) rfl ?_
  intro p e s m args below meth c s₁ B hml hv
  obtain ⟨rfl, hsz, hP, hK, hN, hD0⟩ := hv
  have hx := B.exec
  have hb := B.bytes
  have hr := B.returns
  have hts := atoms_spec (ws := wsX7_comes) B.pre
  have hown : s.vm.findClass RX7 = some m.cls := findClass_of_methodNamed B.named
  have hlocks := B.notSynchronized
  subst hsz
  have hI := tf_start (D := D) (tf_m_ad ad cI cZ) hP hD0
  have hl := lv_entry ([.ref (ad 0), .int x1]) (n := 2) (Nat.le_of_ble_eq_true rfl)
  rw [lg_entry_eq]
  generalize (lg_sl ([.ref (ad 0), .int x1]) ++ List.replicate (2 - (lg_sl ([.ref (ad 0), .int x1])).length) Slot.unset).toArray = ls at hl ⊢
  have hl : lv_has ls 2 [(0, .ref (ad 0)), (1, .int x1)] := hl
  have hn_X7 : ∀ w ∈ u_ws RX7 TX7 35, w ∈ wsX7_comes := by decide +kernel
  have hf_87 := hts (.fieldLink RX7 87 "TypeFlowModel" "comes" "[I") (by decide +kernel)
  unfold fX7_comes at h
  refine lv_aload_n hx hb dX7_comes_0 rfl (lv_at hl 0 rfl) ?_
  refine lv_iload_n hx hb dX7_comes_1 rfl (lv_at hl 1 rfl) ?_
  obtain ⟨u1, q2, h⟩ := tf_gbind h
  refine tf_callV (rest := []) ⟨hx, hb, hml, hown, hts⟩ hK hN hI (kM_X7_isOperator l D ad cI cZ _ _ _ q2) (cwV 1 hts gX7_comes_X7_isOperator rfl rfl rfl (by decide +kernel) ⟨Nat.le_of_ble_eq_true rfl, Nat.le_of_ble_eq_true rfl⟩) 0 7 (tf_mat_0 ad cI cZ _) rfl rfl hl.1 rfl (Nat.le_of_ble_eq_true rfl) dX7_comes_2 (fun H locs hI => ?_)
  refine lv_if_eq (tgt := 17) hx hb dX7_comes_5 (by decide) (fun c3 => ?_) (fun c3 => ?_)
  · replace h := tf_pos c3 h
    refine lv_bipush (v := -2) hx hb dX7_comes_17 (by decide +kernel) ?_
    exact tf_iret hx hb hr hI h dX7_comes_19 hlocks
  replace h := tf_neg c3 h
  refine lv_aload_n hx hb dX7_comes_8 rfl (lv_at hl 0 rfl) ?_
  refine tf_get (C := RX7) (T := TX7) (N := 35) hx hb hts hn_X7 hown hK hI 0 (tf_mat_0 ad cI cZ _) rfl 31 (by decide) hf_87 rfl rfl dX7_comes_9 ?_
  refine lv_iload_n hx hb dX7_comes_12 rfl (lv_at hl 1 rfl) ?_
  obtain ⟨b4, h⟩ := tf_gin h
  refine va_iald hx hb hK hI.1 24 0 (tf_mat_24 ad cI cZ _) rfl b4 dX7_comes_13 ?_
  refine lv_goto (tgt := 19) hx hb dX7_comes_14 (by decide) ?_
  exact tf_iret hx hb hr hI h dX7_comes_19 hlocks

set_option maxHeartbeats 4000000 in
set_option maxRecDepth 100000 in
theorem kM_X7_reason (l : Launch) (D : va_G) (ad : Nat → Nat) (cI cZ : ClassId) (σ : tf_S) (x1 : Int32) (z : Int32 × tf_S) (h : fX7_reason σ x1 = some z) : tf_C l D (tf_wm ad cI cZ) [(cI, .int), (cZ, .boolean)] [] yX7_reason wsX7_reason ({ frames := 2, cells := 0, slots := 0, locals := 43 }) [.ref (ad 0), .int x1] σ z := by
  intro sz
  refine Met.ofW (cc := cX7_reason) (maxL := 2) (ret := (some .int)) (by decide) rfl ?_
  intro p e s m args below meth c s₁ B hml hv
  obtain ⟨rfl, hsz, hP, hK, hN, hD0⟩ := hv
  have hx := B.exec
  have hb := B.bytes
  have hr := B.returns
  have hts := atoms_spec (ws := wsX7_reason) B.pre
  have hown : s.vm.findClass RX7 = some m.cls := findClass_of_methodNamed B.named
  have hlocks := B.notSynchronized
  subst hsz
  have hI := tf_start (D := D) (tf_m_ad ad cI cZ) hP hD0
  have hl := lv_entry ([.ref (ad 0), .int x1]) (n := 2) (Nat.le_of_ble_eq_true rfl)
  rw [lg_entry_eq]
  generalize (lg_sl ([.ref (ad 0), .int x1]) ++ List.replicate (2 - (lg_sl ([.ref (ad 0), .int x1])).length) Slot.unset).toArray = ls at hl ⊢
  have hl : lv_has ls 2 [(0, .ref (ad 0)), (1, .int x1)] := hl
  have hn_X7 : ∀ w ∈ u_ws RX7 TX7 35, w ∈ wsX7_reason := by decide +kernel
  have hf_90 := hts (.fieldLink RX7 90 "TypeFlowModel" "reasons" "[I") (by decide +kernel)
  unfold fX7_reason at h
  refine lv_aload_n hx hb dX7_reason_0 rfl (lv_at hl 0 rfl) ?_
  refine lv_iload_n hx hb dX7_reason_1 rfl (lv_at hl 1 rfl) ?_
  obtain ⟨u1, q2, h⟩ := tf_gbind h
  refine tf_callV (rest := []) ⟨hx, hb, hml, hown, hts⟩ hK hN hI (kM_X7_isOperator l D ad cI cZ _ _ _ q2) (cwV 1 hts gX7_reason_X7_isOperator rfl rfl rfl (by decide +kernel) ⟨Nat.le_of_ble_eq_true rfl, Nat.le_of_ble_eq_true rfl⟩) 0 7 (tf_mat_0 ad cI cZ _) rfl rfl hl.1 rfl (Nat.le_of_ble_eq_true rfl) dX7_reason_2 (fun H locs hI => ?_)
  refine lv_if_eq (tgt := 17) hx hb dX7_reason_5 (by decide) (fun c3 => ?_) (fun c3 => ?_)
  · replace h := tf_pos c3 h
    refine lv_bipush (v := -2) hx hb dX7_reason_17 (by decide +kernel) ?_
    exact tf_iret hx hb hr hI h dX7_reason_19 hlocks
  replace h := tf_neg c3 h
  refine lv_aload_n hx hb dX7_reason_8 rfl (lv_at hl 0 rfl) ?_
  refine tf_get (C := RX7) (T := TX7) (N := 35) hx hb hts hn_X7 hown hK hI 0 (tf_mat_0 ad cI cZ _) rfl 32 (by decide) hf_90 rfl rfl dX7_reason_9 ?_
  refine lv_iload_n hx hb dX7_reason_12 rfl (lv_at hl 1 rfl) ?_
  obtain ⟨b4, h⟩ := tf_gin h
  refine va_iald hx hb hK hI.1 25 0 (tf_mat_25 ad cI cZ _) rfl b4 dX7_reason_13 ?_
  refine lv_goto (tgt := 19) hx hb dX7_reason_14 (by decide) ?_
  exact tf_iret hx hb hr hI h dX7_reason_19 hlocks

set_option maxHeartbeats 4000000 in
set_option maxRecDepth 100000 in
theorem kM_X7_mayFail (l : Launch) (D : va_G) (ad : Nat → Nat) (cI cZ : ClassId) (σ : tf_S) (x1 : Int32) (z : Int32 × tf_S) (h : fX7_mayFail σ x1 = some z) : tf_C l D (tf_wm ad cI cZ) [(cI, .int), (cZ, .boolean)] [] yX7_mayFail wsX7_mayFail ({ frames := 2, cells := 0, slots := 0, locals := 43 }) [.ref (ad 0), .int x1] σ z := by
  intro sz
  refine Met.ofW (cc := cX7_mayFail) (maxL := 2) (ret := (some .int)) (by decide) rfl ?_
  intro p e s m args below meth c s₁ B hml hv
  obtain ⟨rfl, hsz, hP, hK, hN, hD0⟩ := hv
  have hx := B.exec
  have hb := B.bytes
  have hr := B.returns
  have hts := atoms_spec (ws := wsX7_mayFail) B.pre
  have hown : s.vm.findClass RX7 = some m.cls := findClass_of_methodNamed B.named
  have hlocks := B.notSynchronized
  subst hsz
  have hI := tf_start (D := D) (tf_m_ad ad cI cZ) hP hD0
  have hl := lv_entry ([.ref (ad 0), .int x1]) (n := 2) (Nat.le_of_ble_eq_true rfl)
  rw [lg_entry_eq]
  generalize (lg_sl ([.ref (ad 0), .int x1]) ++ List.replicate (2 - (lg_sl ([.ref (ad 0), .int x1])).length) Slot.unset).toArray = ls at hl ⊢
  have hl : lv_has ls 2 [(0, .ref (ad 0)), (1, .int x1)] := hl
  have hn_X7 : ∀ w ∈ u_ws RX7 TX7 35, w ∈ wsX7_mayFail := by decide +kernel
  have hf_93 := hts (.fieldLink RX7 93 "TypeFlowModel" "mayFail" "[Z") (by decide +kernel)
  unfold fX7_mayFail at h
  refine lv_aload_n hx hb dX7_mayFail_0 rfl (lv_at hl 0 rfl) ?_
  refine lv_iload_n hx hb dX7_mayFail_1 rfl (lv_at hl 1 rfl) ?_
  obtain ⟨u1, q2, h⟩ := tf_gbind h
  refine tf_callV (rest := []) ⟨hx, hb, hml, hown, hts⟩ hK hN hI (kM_X7_isOperator l D ad cI cZ _ _ _ q2) (cwV 1 hts gX7_mayFail_X7_isOperator rfl rfl rfl (by decide +kernel) ⟨Nat.le_of_ble_eq_true rfl, Nat.le_of_ble_eq_true rfl⟩) 0 7 (tf_mat_0 ad cI cZ _) rfl rfl hl.1 rfl (Nat.le_of_ble_eq_true rfl) dX7_mayFail_2 (fun H locs hI => ?_)
  refine lv_if_ne (tgt := 13) hx hb dX7_mayFail_5 (by decide) (fun c3 => ?_) (fun c3 => ?_)
  · replace h := tf_neg c3 h
    refine lv_aload_n hx hb dX7_mayFail_13 rfl (lv_at hl 0 rfl) ?_
    refine tf_get (C := RX7) (T := TX7) (N := 35) hx hb hts hn_X7 hown hK hI 0 (tf_mat_0 ad cI cZ _) rfl 33 (by decide) hf_93 rfl rfl dX7_mayFail_14 ?_
    refine lv_iload_n hx hb dX7_mayFail_17 rfl (lv_at hl 1 rfl) ?_
    obtain ⟨b4, h⟩ := tf_gin h
    refine va_zald hx hb hK hI.1 26 1 (tf_mat_26 ad cI cZ _) rfl b4 dX7_mayFail_18 ?_
    refine lv_if_eq (tgt := 26) hx hb dX7_mayFail_19 (by decide) (fun c5 => ?_) (fun c5 => ?_)
    · replace h := tf_pos c5 h
      refine lv_iconst (v := 0) hx hb dX7_mayFail_26 (by decide +kernel) ?_
      exact tf_iret hx hb hr hI h dX7_mayFail_27 hlocks
    replace h := tf_neg c5 h
    refine lv_iconst (v := 1) hx hb dX7_mayFail_22 (by decide +kernel) ?_
    refine lv_goto (tgt := 27) hx hb dX7_mayFail_23 (by decide) ?_
    exact tf_iret hx hb hr hI h dX7_mayFail_27 hlocks
  replace h := tf_pos c3 h
  refine lv_bipush (v := -2) hx hb dX7_mayFail_8 (by decide +kernel) ?_
  refine lv_goto (tgt := 27) hx hb dX7_mayFail_10 (by decide) ?_
  exact tf_iret hx hb hr hI h dX7_mayFail_27 hlocks

set_option maxHeartbeats 4000000 in
set_option maxRecDepth 100000 in
theorem kM_X7_cast (l : Launch) (D : va_G) (ad : Nat → Nat) (cI cZ : ClassId) (σ : tf_S) (x1 : Int32) (z : Int32 × tf_S) (h : fX7_cast σ x1 = some z) : tf_C l D (tf_wm ad cI cZ) [(cI, .int), (cZ, .boolean)] [] yX7_cast wsX7_cast ({ frames := 0, cells := 0, slots := 0, locals := 0 }) [.ref (ad 0), .int x1] σ z := by
  intro sz
  refine Met.ofW (cc := cX7_cast) (maxL := 4) (ret := (some .int)) (by decide) rfl ?_
  intro p e s m args below meth c s₁ B hml hv
  obtain ⟨rfl, hsz, hP, hK, hN, hD0⟩ := hv
  have hx := B.exec
  have hb := B.bytes
  have hr := B.returns
  have hts := atoms_spec (ws := wsX7_cast) B.pre
  have hown : s.vm.findClass RX7 = some m.cls := findClass_of_methodNamed B.named
  have hlocks := B.notSynchronized
  subst hsz
  have hI := tf_start (D := D) (tf_m_ad ad cI cZ) hP hD0
  have hl := lv_entry ([.ref (ad 0), .int x1]) (n := 4) (Nat.le_of_ble_eq_true rfl)
  rw [lg_entry_eq]
  generalize (lg_sl ([.ref (ad 0), .int x1]) ++ List.replicate (4 - (lg_sl ([.ref (ad 0), .int x1])).length) Slot.unset).toArray = ls at hl ⊢
  have hl : lv_has ls 4 [(0, .ref (ad 0)), (1, .int x1)] := hl
  have hn_X7 : ∀ w ∈ u_ws RX7 TX7 35, w ∈ wsX7_cast := by decide +kernel
  have hf_93 := hts (.fieldLink RX7 93 "TypeFlowModel" "mayFail" "[Z") (by decide +kernel)
  have hf_189 := hts (.fieldLink RX7 189 "TypeFlowModel" "operators" "I") (by decide +kernel)
  have j4 : ∀ n : Nat, ∀ (σ : tf_S) (y2 y3 : Int32) (H : Heap) (locs : List Loc) (ls : Array Slot), fX7_cast_4 x1 n σ y2 y3 = some z → tf_I D (tf_wm ad cI cZ) s.heap σ H locs → lv_has ls 4 [(0, .ref (ad 0)), (2, .int y2), (3, .int y3)] → W p l e (headSpec wsX7_cast ({ frames := 0, cells := 0, slots := 0, locals := 0 })).room s m ([.ref (ad 0), .int x1] : List Value).toArray below meth c H locs 0 0 (tf_Q below D (tf_wm ad cI cZ) z ([.ref (ad 0), .int x1] : List Value).toArray s) (F0 m 4 ls []) := by
    intro n
    induction n with
    | zero =>
      intro σ y2 y3 H locs ls h
      rw [fX7_cast_4] at h
      cases h
    | succ n ih =>
      intro σ y2 y3 H locs ls h hI hl
      rw [fX7_cast_4] at h
      refine lv_iload_n hx hb dX7_cast_4 rfl (lv_at hl 2 rfl) ?_
      refine lv_aload_n hx hb dX7_cast_5 rfl (lv_at hl 0 rfl) ?_
      refine tf_get (C := RX7) (T := TX7) (N := 35) hx hb hts hn_X7 hown hK hI 0 (tf_mat_0 ad cI cZ _) rfl 24 (by decide) hf_189 rfl rfl dX7_cast_6 ?_
      refine lv_icmp_ge (tgt := 40) hx hb dX7_cast_9 (by decide) (fun c1 => ?_) (fun c1 => ?_)
      · replace h := tf_pos c1 h
        refine lv_iconst (v := -1) hx hb dX7_cast_40 (by decide +kernel) ?_
        exact tf_iret hx hb hr hI h dX7_cast_41 hlocks
      replace h := tf_neg c1 h
      refine lv_iload_n hx hb dX7_cast_12 rfl (lv_at hl 1 rfl) ?_
      refine lv_if_lt (tgt := 40) hx hb dX7_cast_13 (by decide) (fun c2 => ?_) (fun c2 => ?_)
      · replace h := tf_pos c2 h
        refine lv_iconst (v := -1) hx hb dX7_cast_40 (by decide +kernel) ?_
        exact tf_iret hx hb hr hI h dX7_cast_41 hlocks
      replace h := tf_neg c2 h
      refine lv_aload_n hx hb dX7_cast_16 rfl (lv_at hl 0 rfl) ?_
      refine tf_get (C := RX7) (T := TX7) (N := 35) hx hb hts hn_X7 hown hK hI 0 (tf_mat_0 ad cI cZ _) rfl 33 (by decide) hf_93 rfl rfl dX7_cast_17 ?_
      refine lv_iload_n hx hb dX7_cast_20 rfl (lv_at hl 2 rfl) ?_
      obtain ⟨b3, h⟩ := tf_gin h
      refine va_zald hx hb hK hI.1 26 1 (tf_mat_26 ad cI cZ _) rfl b3 dX7_cast_21 ?_
      refine lv_if_eq (tgt := 34) hx hb dX7_cast_22 (by decide) (fun c4 => ?_) (fun c4 => ?_)
      · replace h := tf_pos c4 h
        obtain ⟨v5, ev5, h⟩ := tf_glet h
        refine lv_iinc (v := v5) (lv' := [(3, .int v5), (0, .ref (ad 0)), (2, .int y2)]) hx hb dX7_cast_34 hl (k := 2) rfl (by rw [ev5]; rfl) (by decide) rfl (fun ls hl => ?_)
        refine lv_goto (tgt := 4) hx hb dX7_cast_37 (by decide) ?_
        exact ih _ _ _ _ _ _ h hI (lv_sub hl [1, 2, 0] rfl)
      replace h := tf_neg c4 h
      refine lv_iload_n hx hb dX7_cast_25 rfl (lv_at hl 1 rfl) ?_
      refine lv_if_ne (tgt := 31) hx hb dX7_cast_26 (by decide) (fun c6 => ?_) (fun c6 => ?_)
      · replace h := tf_neg c6 h
        obtain ⟨v7, ev7, h⟩ := tf_glet h
        refine lv_iinc (v := v7) (lv' := [(2, .int v7), (0, .ref (ad 0)), (3, .int y3)]) hx hb dX7_cast_31 hl (k := 1) rfl (by rw [ev7]; rfl) (by decide) rfl (fun ls hl => ?_)
        obtain ⟨v8, ev8, h⟩ := tf_glet h
        refine lv_iinc (v := v8) (lv' := [(3, .int v8), (2, .int v7), (0, .ref (ad 0))]) hx hb dX7_cast_34 hl (k := 2) rfl (by rw [ev8]; rfl) (by decide) rfl (fun ls hl => ?_)
        refine lv_goto (tgt := 4) hx hb dX7_cast_37 (by decide) ?_
        exact ih _ _ _ _ _ _ h hI (lv_sub hl [2, 1, 0] rfl)
      replace h := tf_pos c6 h
      refine lv_iload_n hx hb dX7_cast_29 rfl (lv_at hl 2 rfl) ?_
      exact tf_iret hx hb hr hI h dX7_cast_30 hlocks
  unfold fX7_cast at h
  refine lv_iload_n hx hb dX7_cast_0 rfl (lv_at hl 1 rfl) ?_
  refine lv_istore_n (lv' := [(2, .int x1), (0, .ref (ad 0)), (1, .int x1)]) hx hb dX7_cast_1 rfl hl (by decide) rfl (fun ls hl => ?_)
  refine lv_iconst (v := 0) hx hb dX7_cast_2 (by decide +kernel) ?_
  refine lv_istore_n (lv' := [(3, .int (0 : Int32)), (2, .int x1), (0, .ref (ad 0)), (1, .int x1)]) hx hb dX7_cast_3 rfl hl (by decide) rfl (fun ls hl => ?_)
  exact j4  _ _ _ _ _ _ _ h hI (lv_sub hl [2, 1, 0] rfl)

set_option maxHeartbeats 4000000 in
set_option maxRecDepth 100000 in
theorem kM_X7_boundTo (l : Launch) (D : va_G) (ad : Nat → Nat) (cI cZ : ClassId) (σ : tf_S) (x1 x2 : Int32) (z : Int32 × tf_S) (h : fX7_boundTo σ x1 x2 = some z) : tf_C l D (tf_wm ad cI cZ) [(cI, .int), (cZ, .boolean)] [] yX7_boundTo wsX7_boundTo ({ frames := 2, cells := 0, slots := 0, locals := 43 }) [.ref (ad 0), .int x1, .int x2] σ z := by
  intro sz
  refine Met.ofW (cc := cX7_boundTo) (maxL := 3) (ret := (some .int)) (by decide) rfl ?_
  intro p e s m args below meth c s₁ B hml hv
  obtain ⟨rfl, hsz, hP, hK, hN, hD0⟩ := hv
  have hx := B.exec
  have hb := B.bytes
  have hr := B.returns
  have hts := atoms_spec (ws := wsX7_boundTo) B.pre
  have hown : s.vm.findClass RX7 = some m.cls := findClass_of_methodNamed B.named
  have hlocks := B.notSynchronized
  subst hsz
  have hI := tf_start (D := D) (tf_m_ad ad cI cZ) hP hD0
  have hl := lv_entry ([.ref (ad 0), .int x1, .int x2]) (n := 3) (Nat.le_of_ble_eq_true rfl)
  rw [lg_entry_eq]
  generalize (lg_sl ([.ref (ad 0), .int x1, .int x2]) ++ List.replicate (3 - (lg_sl ([.ref (ad 0), .int x1, .int x2])).length) Slot.unset).toArray = ls at hl ⊢
  have hl : lv_has ls 3 [(0, .ref (ad 0)), (1, .int x1), (2, .int x2)] := hl
  have hn_X7 : ∀ w ∈ u_ws RX7 TX7 35, w ∈ wsX7_boundTo := by decide +kernel
  have hf_96 := hts (.fieldLink RX7 96 "TypeFlowModel" "bound" "[I") (by decide +kernel)
  unfold fX7_boundTo at h
  refine lv_aload_n hx hb dX7_boundTo_0 rfl (lv_at hl 0 rfl) ?_
  refine lv_iload_n hx hb dX7_boundTo_1 rfl (lv_at hl 1 rfl) ?_
  obtain ⟨u1, q2, h⟩ := tf_gbind h
  refine tf_callV (rest := []) ⟨hx, hb, hml, hown, hts⟩ hK hN hI (kM_X7_isOperator l D ad cI cZ _ _ _ q2) (cwV 1 hts gX7_boundTo_X7_isOperator rfl rfl rfl (by decide +kernel) ⟨Nat.le_of_ble_eq_true rfl, Nat.le_of_ble_eq_true rfl⟩) 0 7 (tf_mat_0 ad cI cZ _) rfl rfl hl.1 rfl (Nat.le_of_ble_eq_true rfl) dX7_boundTo_2 (fun H locs hI => ?_)
  refine lv_if_eq (tgt := 30) hx hb dX7_boundTo_5 (by decide) (fun c3 => ?_) (fun c3 => ?_)
  · replace h := tf_pos c3 h
    refine lv_bipush (v := -2) hx hb dX7_boundTo_30 (by decide +kernel) ?_
    exact tf_iret hx hb hr hI h dX7_boundTo_32 hlocks
  replace h := tf_neg c3 h
  refine lv_iload_n hx hb dX7_boundTo_8 rfl (lv_at hl 2 rfl) ?_
  refine lv_iconst (v := 0) hx hb dX7_boundTo_9 (by decide +kernel) ?_
  refine lv_iconst (v := 1) hx hb dX7_boundTo_10 (by decide +kernel) ?_
  obtain ⟨u4, q5, h⟩ := tf_gbind h
  refine tf_callS (rest := []) ⟨hx, hb, hml, hown, hts⟩ hK hN hI (kM_X7_isIn l D ad cI cZ _ _ _ _ _ q5) (va_cwS 3 hts gX7_boundTo_X7_isIn rfl rfl rfl (by decide +kernel) ⟨Nat.le_of_ble_eq_true rfl, Nat.le_of_ble_eq_true rfl⟩) rfl hl.1 rfl (Nat.le_of_ble_eq_true rfl) dX7_boundTo_11 (fun H locs hI => ?_)
  refine lv_if_eq (tgt := 30) hx hb dX7_boundTo_14 (by decide) (fun c6 => ?_) (fun c6 => ?_)
  · replace h := tf_pos c6 h
    refine lv_bipush (v := -2) hx hb dX7_boundTo_30 (by decide +kernel) ?_
    exact tf_iret hx hb hr hI h dX7_boundTo_32 hlocks
  replace h := tf_neg c6 h
  refine lv_aload_n hx hb dX7_boundTo_17 rfl (lv_at hl 0 rfl) ?_
  refine tf_get (C := RX7) (T := TX7) (N := 35) hx hb hts hn_X7 hown hK hI 0 (tf_mat_0 ad cI cZ _) rfl 34 (by decide) hf_96 rfl rfl dX7_boundTo_18 ?_
  refine lv_iconst (v := 2) hx hb dX7_boundTo_21 (by decide +kernel) ?_
  refine lv_iload_n hx hb dX7_boundTo_22 rfl (lv_at hl 1 rfl) ?_
  refine lv_imul hx hb dX7_boundTo_23 ?_
  refine lv_iload_n hx hb dX7_boundTo_24 rfl (lv_at hl 2 rfl) ?_
  refine lv_iadd hx hb dX7_boundTo_25 ?_
  obtain ⟨b7, h⟩ := tf_gin h
  refine va_iald hx hb hK hI.1 27 0 (tf_mat_27 ad cI cZ _) rfl b7 dX7_boundTo_26 ?_
  refine lv_goto (tgt := 32) hx hb dX7_boundTo_27 (by decide) ?_
  exact tf_iret hx hb hr hI h dX7_boundTo_32 hlocks

set_option maxHeartbeats 4000000 in
set_option maxRecDepth 100000 in
theorem kM_X7_count (l : Launch) (D : va_G) (ad : Nat → Nat) (cI cZ : ClassId) (σ : tf_S) (x1 : Int32) (z : Int32 × tf_S) (h : fX7_count σ x1 = some z) : tf_C l D (tf_wm ad cI cZ) [(cI, .int), (cZ, .boolean)] [] yX7_count wsX7_count ({ frames := 0, cells := 0, slots := 0, locals := 0 }) [.ref (ad 0), .int x1] σ z := by
  intro sz
  refine Met.ofW (cc := cX7_count) (maxL := 4) (ret := (some .int)) (by decide) rfl ?_
  intro p e s m args below meth c s₁ B hml hv
  obtain ⟨rfl, hsz, hP, hK, hN, hD0⟩ := hv
  have hx := B.exec
  have hb := B.bytes
  have hr := B.returns
  have hts := atoms_spec (ws := wsX7_count) B.pre
  have hown : s.vm.findClass RX7 = some m.cls := findClass_of_methodNamed B.named
  have hlocks := B.notSynchronized
  subst hsz
  have hI := tf_start (D := D) (tf_m_ad ad cI cZ) hP hD0
  have hl := lv_entry ([.ref (ad 0), .int x1]) (n := 4) (Nat.le_of_ble_eq_true rfl)
  rw [lg_entry_eq]
  generalize (lg_sl ([.ref (ad 0), .int x1]) ++ List.replicate (4 - (lg_sl ([.ref (ad 0), .int x1])).length) Slot.unset).toArray = ls at hl ⊢
  have hl : lv_has ls 4 [(0, .ref (ad 0)), (1, .int x1)] := hl
  have hn_X7 : ∀ w ∈ u_ws RX7 TX7 35, w ∈ wsX7_count := by decide +kernel
  have hf_7 := hts (.fieldLink RX7 7 "TypeFlowModel" "classes" "I") (by decide +kernel)
  have hf_20 := hts (.fieldLink RX7 20 "TypeFlowModel" "types" "I") (by decide +kernel)
  have hf_93 := hts (.fieldLink RX7 93 "TypeFlowModel" "mayFail" "[Z") (by decide +kernel)
  have hf_153 := hts (.fieldLink RX7 153 "TypeFlowModel" "members" "I") (by decide +kernel)
  have hf_156 := hts (.fieldLink RX7 156 "TypeFlowModel" "functions" "I") (by decide +kernel)
  have hf_189 := hts (.fieldLink RX7 189 "TypeFlowModel" "operators" "I") (by decide +kernel)
  have j4 : ∀ n : Nat, ∀ (σ : tf_S) (y2 y3 : Int32) (H : Heap) (locs : List Loc) (ls : Array Slot), fX7_count_4 x1 n σ y2 y3 = some z → tf_I D (tf_wm ad cI cZ) s.heap σ H locs → lv_has ls 4 [(0, .ref (ad 0)), (1, .int x1), (2, .int y2), (3, .int y3)] → W p l e (headSpec wsX7_count ({ frames := 0, cells := 0, slots := 0, locals := 0 })).room s m ([.ref (ad 0), .int x1] : List Value).toArray below meth c H locs 0 0 (tf_Q below D (tf_wm ad cI cZ) z ([.ref (ad 0), .int x1] : List Value).toArray s) (F0 m 4 ls []) := by
    intro n
    induction n with
    | zero =>
      intro σ y2 y3 H locs ls h
      rw [fX7_count_4] at h
      cases h
    | succ n ih =>
      intro σ y2 y3 H locs ls h hI hl
      rw [fX7_count_4] at h
      refine lv_iload_n hx hb dX7_count_4 rfl (lv_at hl 3 rfl) ?_
      refine lv_aload_n hx hb dX7_count_5 rfl (lv_at hl 0 rfl) ?_
      refine tf_get (C := RX7) (T := TX7) (N := 35) hx hb hts hn_X7 hown hK hI 0 (tf_mat_0 ad cI cZ _) rfl 24 (by decide) hf_189 rfl rfl dX7_count_6 ?_
      refine lv_icmp_ge (tgt := 35) hx hb dX7_count_9 (by decide) (fun c1 => ?_) (fun c1 => ?_)
      · replace h := tf_pos c1 h
        refine lv_iload_n hx hb dX7_count_35 rfl (lv_at hl 1 rfl) ?_
        refine lv_if_ne (tgt := 46) hx hb dX7_count_36 (by decide) (fun c2 => ?_) (fun c2 => ?_)
        · replace h := tf_neg c2 h
          refine lv_iload_n hx hb dX7_count_46 rfl (lv_at hl 1 rfl) ?_
          refine lv_iconst (v := 1) hx hb dX7_count_47 (by decide +kernel) ?_
          refine lv_icmp_ne (tgt := 58) hx hb dX7_count_48 (by decide) (fun c3 => ?_) (fun c3 => ?_)
          · replace h := tf_neg c3 h
            refine lv_iload_n hx hb dX7_count_58 rfl (lv_at hl 1 rfl) ?_
            refine lv_iconst (v := 2) hx hb dX7_count_59 (by decide +kernel) ?_
            refine lv_icmp_ne (tgt := 70) hx hb dX7_count_60 (by decide) (fun c4 => ?_) (fun c4 => ?_)
            · replace h := tf_neg c4 h
              refine lv_iload_n hx hb dX7_count_70 rfl (lv_at hl 1 rfl) ?_
              refine lv_iconst (v := 3) hx hb dX7_count_71 (by decide +kernel) ?_
              refine lv_icmp_ne (tgt := 82) hx hb dX7_count_72 (by decide) (fun c5 => ?_) (fun c5 => ?_)
              · replace h := tf_neg c5 h
                refine lv_iload_n hx hb dX7_count_82 rfl (lv_at hl 1 rfl) ?_
                refine lv_iconst (v := 4) hx hb dX7_count_83 (by decide +kernel) ?_
                refine lv_icmp_ne (tgt := 94) hx hb dX7_count_84 (by decide) (fun c6 => ?_) (fun c6 => ?_)
                · replace h := tf_neg c6 h
                  refine lv_iload_n hx hb dX7_count_94 rfl (lv_at hl 1 rfl) ?_
                  refine lv_iconst (v := 5) hx hb dX7_count_95 (by decide +kernel) ?_
                  refine lv_icmp_ne (tgt := 103) hx hb dX7_count_96 (by decide) (fun c7 => ?_) (fun c7 => ?_)
                  · replace h := tf_neg c7 h
                    refine lv_bipush (v := -2) hx hb dX7_count_103 (by decide +kernel) ?_
                    exact tf_iret hx hb hr hI h dX7_count_105 hlocks
                  replace h := tf_pos c7 h
                  refine lv_iload_n hx hb dX7_count_99 rfl (lv_at hl 2 rfl) ?_
                  refine lv_goto (tgt := 105) hx hb dX7_count_100 (by decide) ?_
                  exact tf_iret hx hb hr hI h dX7_count_105 hlocks
                replace h := tf_pos c6 h
                refine lv_aload_n hx hb dX7_count_87 rfl (lv_at hl 0 rfl) ?_
                refine tf_get (C := RX7) (T := TX7) (N := 35) hx hb hts hn_X7 hown hK hI 0 (tf_mat_0 ad cI cZ _) rfl 24 (by decide) hf_189 rfl rfl dX7_count_88 ?_
                refine lv_goto (tgt := 105) hx hb dX7_count_91 (by decide) ?_
                exact tf_iret hx hb hr hI h dX7_count_105 hlocks
              replace h := tf_pos c5 h
              refine lv_aload_n hx hb dX7_count_75 rfl (lv_at hl 0 rfl) ?_
              refine tf_get (C := RX7) (T := TX7) (N := 35) hx hb hts hn_X7 hown hK hI 0 (tf_mat_0 ad cI cZ _) rfl 14 (by decide) hf_156 rfl rfl dX7_count_76 ?_
              refine lv_goto (tgt := 105) hx hb dX7_count_79 (by decide) ?_
              exact tf_iret hx hb hr hI h dX7_count_105 hlocks
            replace h := tf_pos c4 h
            refine lv_aload_n hx hb dX7_count_63 rfl (lv_at hl 0 rfl) ?_
            refine tf_get (C := RX7) (T := TX7) (N := 35) hx hb hts hn_X7 hown hK hI 0 (tf_mat_0 ad cI cZ _) rfl 11 (by decide) hf_153 rfl rfl dX7_count_64 ?_
            refine lv_goto (tgt := 105) hx hb dX7_count_67 (by decide) ?_
            exact tf_iret hx hb hr hI h dX7_count_105 hlocks
          replace h := tf_pos c3 h
          refine lv_aload_n hx hb dX7_count_51 rfl (lv_at hl 0 rfl) ?_
          refine tf_get (C := RX7) (T := TX7) (N := 35) hx hb hts hn_X7 hown hK hI 0 (tf_mat_0 ad cI cZ _) rfl 3 (by decide) hf_20 rfl rfl dX7_count_52 ?_
          refine lv_goto (tgt := 105) hx hb dX7_count_55 (by decide) ?_
          exact tf_iret hx hb hr hI h dX7_count_105 hlocks
        replace h := tf_pos c2 h
        refine lv_aload_n hx hb dX7_count_39 rfl (lv_at hl 0 rfl) ?_
        refine tf_get (C := RX7) (T := TX7) (N := 35) hx hb hts hn_X7 hown hK hI 0 (tf_mat_0 ad cI cZ _) rfl 0 (by decide) hf_7 rfl rfl dX7_count_40 ?_
        refine lv_goto (tgt := 105) hx hb dX7_count_43 (by decide) ?_
        exact tf_iret hx hb hr hI h dX7_count_105 hlocks
      replace h := tf_neg c1 h
      refine lv_iload_n hx hb dX7_count_12 rfl (lv_at hl 2 rfl) ?_
      refine lv_aload_n hx hb dX7_count_13 rfl (lv_at hl 0 rfl) ?_
      refine tf_get (C := RX7) (T := TX7) (N := 35) hx hb hts hn_X7 hown hK hI 0 (tf_mat_0 ad cI cZ _) rfl 33 (by decide) hf_93 rfl rfl dX7_count_14 ?_
      refine lv_iload_n hx hb dX7_count_17 rfl (lv_at hl 3 rfl) ?_
      obtain ⟨b8, h⟩ := tf_gin h
      refine va_zald hx hb hK hI.1 26 1 (tf_mat_26 ad cI cZ _) rfl b8 dX7_count_18 ?_
      refine lv_if_eq (tgt := 26) hx hb dX7_count_19 (by decide) (fun c9 => ?_) (fun c9 => ?_)
      · replace h := tf_pos c9 h
        refine lv_iconst (v := 0) hx hb dX7_count_26 (by decide +kernel) ?_
        refine lv_iadd hx hb dX7_count_27 ?_
        obtain ⟨v10, ev10, h⟩ := tf_glet h
        refine tf_top ev10 ?_
        refine lv_istore_n (lv' := [(2, .int v10), (0, .ref (ad 0)), (1, .int x1), (3, .int y3)]) hx hb dX7_count_28 rfl hl (by decide) rfl (fun ls hl => ?_)
        obtain ⟨v11, ev11, h⟩ := tf_glet h
        refine lv_iinc (v := v11) (lv' := [(3, .int v11), (2, .int v10), (0, .ref (ad 0)), (1, .int x1)]) hx hb dX7_count_29 hl (k := 3) rfl (by rw [ev11]; rfl) (by decide) rfl (fun ls hl => ?_)
        refine lv_goto (tgt := 4) hx hb dX7_count_32 (by decide) ?_
        exact ih _ _ _ _ _ _ h hI (lv_sub hl [2, 3, 1, 0] rfl)
      replace h := tf_neg c9 h
      refine lv_iconst (v := 1) hx hb dX7_count_22 (by decide +kernel) ?_
      refine lv_goto (tgt := 27) hx hb dX7_count_23 (by decide) ?_
      refine lv_iadd hx hb dX7_count_27 ?_
      obtain ⟨v12, ev12, h⟩ := tf_glet h
      refine tf_top ev12 ?_
      refine lv_istore_n (lv' := [(2, .int v12), (0, .ref (ad 0)), (1, .int x1), (3, .int y3)]) hx hb dX7_count_28 rfl hl (by decide) rfl (fun ls hl => ?_)
      obtain ⟨v13, ev13, h⟩ := tf_glet h
      refine lv_iinc (v := v13) (lv' := [(3, .int v13), (2, .int v12), (0, .ref (ad 0)), (1, .int x1)]) hx hb dX7_count_29 hl (k := 3) rfl (by rw [ev13]; rfl) (by decide) rfl (fun ls hl => ?_)
      refine lv_goto (tgt := 4) hx hb dX7_count_32 (by decide) ?_
      exact ih _ _ _ _ _ _ h hI (lv_sub hl [2, 3, 1, 0] rfl)
  unfold fX7_count at h
  refine lv_iconst (v := 0) hx hb dX7_count_0 (by decide +kernel) ?_
  refine lv_istore_n (lv' := [(2, .int (0 : Int32)), (0, .ref (ad 0)), (1, .int x1)]) hx hb dX7_count_1 rfl hl (by decide) rfl (fun ls hl => ?_)
  refine lv_iconst (v := 0) hx hb dX7_count_2 (by decide +kernel) ?_
  refine lv_istore_n (lv' := [(3, .int (0 : Int32)), (2, .int (0 : Int32)), (0, .ref (ad 0)), (1, .int x1)]) hx hb dX7_count_3 rfl hl (by decide) rfl (fun ls hl => ?_)
  exact j4  _ _ _ _ _ _ _ h hI (lv_sub hl [2, 3, 1, 0] rfl)
