set_option maxHeartbeats 4000000 in
set_option maxRecDepth 100000 in
theorem sg7_loop {p : Program} {l : Launch} {e : Env} {s : State} {m : MethodId} {args : Array Value} {below : List Frame} {meth : Method} {c : Code} {D : va_G} {cI cZ : ClassId} {A : Nat → Prop} {Z : State → Prop} {ad : Nat → Nat} {z : tf_S} (hx : p.tables.exec = Jvm.exec) (hb : c.code = cX7_init) (hts : ∀ w ∈ wsX7_init, w.before args s = true) (hown : s.vm.findClass RX7 = some m.cls) (hin : meth.name = "<init>") (hK : va_K D vwCl [(cI, .int), (cZ, .boolean)] s) (kk : ∀ (H : Heap) (locs : List Loc) (ls : Array Slot), tf_I D (tf_wm ad cI cZ) s.heap z H locs → W p l e (headSpec wsX7_init ({ frames := 1, cells := 27, slots := 7818, locals := 20 })).room s m args below meth c H locs (0 + 1 + 1 + 1 + 1 + 1 + 1 + 1 + 1 + 1 + 1 + 1 + 1 + 1 + 1 + 1 + 1 + 1 + 1 + 1 + 1 + 1 + 1 + 1 + 1 + 1 + 1 + 1) (0 + 12 + 12 + 80 + 80 + 80 + 80 + 80 + 200 + 24 + 24 + 16 + 16 + 16 + 32 + 2 + 400 + 6400 + 24 + 24 + 24 + 24 + 24 + 24 + 24 + 24 + 24 + 48) Z (F0 m 310 ls [])) : ∀ (n : Nat) (σ : tf_S) (y1 : Int32) (H : Heap) (locs : List Loc) (ls : Array Slot), fX7_init_235 n σ y1 = some z → tf_I D (tf_wm ad cI cZ) s.heap σ H locs → lv_has ls 2 [(0, .ref (ad 0)), (1, .int y1)] → W p l e (headSpec wsX7_init ({ frames := 1, cells := 27, slots := 7818, locals := 20 })).room s m args below meth c H locs (0 + 1 + 1 + 1 + 1 + 1 + 1 + 1 + 1 + 1 + 1 + 1 + 1 + 1 + 1 + 1 + 1 + 1 + 1 + 1 + 1 + 1 + 1 + 1 + 1 + 1 + 1 + 1) (0 + 12 + 12 + 80 + 80 + 80 + 80 + 80 + 200 + 24 + 24 + 16 + 16 + 16 + 32 + 2 + 400 + 6400 + 24 + 24 + 24 + 24 + 24 + 24 + 24 + 24 + 24 + 48) Z (F0 m 235 ls []) := by
  have hn_X7 : ∀ w ∈ u_ws RX7 TX7 35, w ∈ wsX7_init := by decide +kernel
  have hf_17 := hts (.fieldLink RX7 17 "TypeFlowModel" "parent" "[I") (by decide +kernel)
  have hf_23 := hts (.fieldLink RX7 23 "TypeFlowModel" "classes0" "[I") (by decide +kernel)
  have hf_26 := hts (.fieldLink RX7 26 "TypeFlowModel" "first" "[I") (by decide +kernel)
  have hf_29 := hts (.fieldLink RX7 29 "TypeFlowModel" "second" "[I") (by decide +kernel)
  have hf_32 := hts (.fieldLink RX7 32 "TypeFlowModel" "free" "[I") (by decide +kernel)
  intro n
  induction n with
  | zero =>
    intro σ y1 H locs ls h
    rw [fX7_init_235] at h
    cases h
  | succ n ih =>
    intro σ y1 H locs ls h hI hl
    rw [fX7_init_235] at h
    refine lv_iload_n hx hb dX7_init_235 rfl (lv_at hl 1 rfl) ?_
    refine lv_bipush (v := 7) hx hb dX7_init_236 (by decide +kernel) ?_
    refine lv_icmp_ge (tgt := 303) hx hb dX7_init_238 (by decide) (fun c1 => ?_) (fun c1 => ?_)
    · replace h := tf_pos c1 h
      refine lv_aload_n hx hb dX7_init_303 rfl (lv_at hl 0 rfl) ?_
      refine tf_get (C := RX7) (T := TX7) (N := 35) hx hb hts hn_X7 hown hK hI 0 (tf_mat_0 ad cI cZ _) rfl 2 (by decide) hf_17 rfl rfl dX7_init_304 ?_
      refine lv_iconst (v := 0) hx hb dX7_init_307 (by decide +kernel) ?_
      refine lv_iconst (v := -1) hx hb dX7_init_308 (by decide +kernel) ?_
      obtain ⟨b2, h⟩ := tf_gin h
      obtain ⟨s3, es3, h⟩ := tf_glet h
      refine tf_iast hx hb hK hI 2 0 (tf_mat_2 ad cI cZ _) (tf_mset_2 ad cI cZ _) rfl b2 es3 dX7_init_309 (fun H locs hI => ?_)
      cases h
      exact kk _ _ _ hI
    replace h := tf_neg c1 h
    refine lv_aload_n hx hb dX7_init_241 rfl (lv_at hl 0 rfl) ?_
    refine tf_get (C := RX7) (T := TX7) (N := 35) hx hb hts hn_X7 hown hK hI 0 (tf_mat_0 ad cI cZ _) rfl 4 (by decide) hf_23 rfl rfl dX7_init_242 ?_
    refine lv_iload_n hx hb dX7_init_245 rfl (lv_at hl 1 rfl) ?_
    refine lv_iload_n hx hb dX7_init_246 rfl (lv_at hl 1 rfl) ?_
    refine lv_bipush (v := 6) hx hb dX7_init_247 (by decide +kernel) ?_
    refine lv_icmp_ne (tgt := 256) hx hb dX7_init_249 (by decide) (fun c4 => ?_) (fun c4 => ?_)
    · replace h := tf_neg c4 h
      refine lv_iconst (v := -1) hx hb dX7_init_256 (by decide +kernel) ?_
      obtain ⟨b5, h⟩ := tf_gin h
      obtain ⟨s6, es6, h⟩ := tf_glet h
      refine tf_iast hx hb hK hI 3 0 (tf_mat_3 ad cI cZ _) (tf_mset_3 ad cI cZ _) rfl b5 es6 dX7_init_257 (fun H locs hI => ?_)
      refine lv_aload_n hx hb dX7_init_258 rfl (lv_at hl 0 rfl) ?_
      refine tf_get (C := RX7) (T := TX7) (N := 35) hx hb hts hn_X7 hown hK hI 0 (tf_mat_0 ad cI cZ _) rfl 5 (by decide) hf_26 rfl rfl dX7_init_259 ?_
      refine lv_iload_n hx hb dX7_init_262 rfl (lv_at hl 1 rfl) ?_
      refine lv_iconst (v := -1) hx hb dX7_init_263 (by decide +kernel) ?_
      obtain ⟨b7, h⟩ := tf_gin h
      obtain ⟨s8, es8, h⟩ := tf_glet h
      refine tf_iast hx hb hK hI 4 0 (tf_mat_4 ad cI cZ _) (tf_mset_4 ad cI cZ _) rfl b7 es8 dX7_init_264 (fun H locs hI => ?_)
      refine lv_aload_n hx hb dX7_init_265 rfl (lv_at hl 0 rfl) ?_
      refine tf_get (C := RX7) (T := TX7) (N := 35) hx hb hts hn_X7 hown hK hI 0 (tf_mat_0 ad cI cZ _) rfl 6 (by decide) hf_29 rfl rfl dX7_init_266 ?_
      refine lv_iload_n hx hb dX7_init_269 rfl (lv_at hl 1 rfl) ?_
      refine lv_iconst (v := -1) hx hb dX7_init_270 (by decide +kernel) ?_
      obtain ⟨b9, h⟩ := tf_gin h
      obtain ⟨s10, es10, h⟩ := tf_glet h
      refine tf_iast hx hb hK hI 5 0 (tf_mat_5 ad cI cZ _) (tf_mset_5 ad cI cZ _) rfl b9 es10 dX7_init_271 (fun H locs hI => ?_)
      refine lv_aload_n hx hb dX7_init_272 rfl (lv_at hl 0 rfl) ?_
      refine tf_get (C := RX7) (T := TX7) (N := 35) hx hb hts hn_X7 hown hK hI 0 (tf_mat_0 ad cI cZ _) rfl 7 (by decide) hf_32 rfl rfl dX7_init_273 ?_
      refine lv_iload_n hx hb dX7_init_276 rfl (lv_at hl 1 rfl) ?_
      refine lv_iload_n hx hb dX7_init_277 rfl (lv_at hl 1 rfl) ?_
      refine lv_iconst (v := 4) hx hb dX7_init_278 (by decide +kernel) ?_
      refine lv_icmp_ne (tgt := 286) hx hb dX7_init_279 (by decide) (fun c11 => ?_) (fun c11 => ?_)
      · replace h := tf_neg c11 h
        refine lv_iload_n hx hb dX7_init_286 rfl (lv_at hl 1 rfl) ?_
        refine lv_iconst (v := 5) hx hb dX7_init_287 (by decide +kernel) ?_
        refine lv_icmp_ne (tgt := 295) hx hb dX7_init_288 (by decide) (fun c12 => ?_) (fun c12 => ?_)
        · replace h := tf_neg c12 h
          refine lv_iconst (v := 0) hx hb dX7_init_295 (by decide +kernel) ?_
          obtain ⟨b13, h⟩ := tf_gin h
          obtain ⟨s14, es14, h⟩ := tf_glet h
          refine tf_iast hx hb hK hI 6 0 (tf_mat_6 ad cI cZ _) (tf_mset_6 ad cI cZ _) rfl b13 es14 dX7_init_296 (fun H locs hI => ?_)
          obtain ⟨v15, ev15, h⟩ := tf_glet h
          refine lv_iinc (v := v15) (lv' := [(1, .int v15), (0, .ref (ad 0))]) hx hb dX7_init_297 hl (k := 1) rfl (by rw [ev15]; rfl) (by decide) rfl (fun ls hl => ?_)
          refine lv_goto (tgt := 235) hx hb dX7_init_300 (by decide) ?_
          exact ih _ _ _ _ _ h hI (lv_sub hl [1, 0] rfl)
        replace h := tf_pos c12 h
        refine lv_iconst (v := 2) hx hb dX7_init_291 (by decide +kernel) ?_
        refine lv_goto (tgt := 296) hx hb dX7_init_292 (by decide) ?_
        obtain ⟨b16, h⟩ := tf_gin h
        obtain ⟨s17, es17, h⟩ := tf_glet h
        refine tf_iast hx hb hK hI 6 0 (tf_mat_6 ad cI cZ _) (tf_mset_6 ad cI cZ _) rfl b16 es17 dX7_init_296 (fun H locs hI => ?_)
        obtain ⟨v18, ev18, h⟩ := tf_glet h
        refine lv_iinc (v := v18) (lv' := [(1, .int v18), (0, .ref (ad 0))]) hx hb dX7_init_297 hl (k := 1) rfl (by rw [ev18]; rfl) (by decide) rfl (fun ls hl => ?_)
        refine lv_goto (tgt := 235) hx hb dX7_init_300 (by decide) ?_
        exact ih _ _ _ _ _ h hI (lv_sub hl [1, 0] rfl)
      replace h := tf_pos c11 h
      refine lv_iconst (v := 1) hx hb dX7_init_282 (by decide +kernel) ?_
      refine lv_goto (tgt := 296) hx hb dX7_init_283 (by decide) ?_
      obtain ⟨b19, h⟩ := tf_gin h
      obtain ⟨s20, es20, h⟩ := tf_glet h
      refine tf_iast hx hb hK hI 6 0 (tf_mat_6 ad cI cZ _) (tf_mset_6 ad cI cZ _) rfl b19 es20 dX7_init_296 (fun H locs hI => ?_)
      obtain ⟨v21, ev21, h⟩ := tf_glet h
      refine lv_iinc (v := v21) (lv' := [(1, .int v21), (0, .ref (ad 0))]) hx hb dX7_init_297 hl (k := 1) rfl (by rw [ev21]; rfl) (by decide) rfl (fun ls hl => ?_)
      refine lv_goto (tgt := 235) hx hb dX7_init_300 (by decide) ?_
      exact ih _ _ _ _ _ h hI (lv_sub hl [1, 0] rfl)
    replace h := tf_pos c4 h
    refine lv_iconst (v := 0) hx hb dX7_init_252 (by decide +kernel) ?_
    refine lv_goto (tgt := 257) hx hb dX7_init_253 (by decide) ?_
    obtain ⟨b22, h⟩ := tf_gin h
    obtain ⟨s23, es23, h⟩ := tf_glet h
    refine tf_iast hx hb hK hI 3 0 (tf_mat_3 ad cI cZ _) (tf_mset_3 ad cI cZ _) rfl b22 es23 dX7_init_257 (fun H locs hI => ?_)
    refine lv_aload_n hx hb dX7_init_258 rfl (lv_at hl 0 rfl) ?_
    refine tf_get (C := RX7) (T := TX7) (N := 35) hx hb hts hn_X7 hown hK hI 0 (tf_mat_0 ad cI cZ _) rfl 5 (by decide) hf_26 rfl rfl dX7_init_259 ?_
    refine lv_iload_n hx hb dX7_init_262 rfl (lv_at hl 1 rfl) ?_
    refine lv_iconst (v := -1) hx hb dX7_init_263 (by decide +kernel) ?_
    obtain ⟨b24, h⟩ := tf_gin h
    obtain ⟨s25, es25, h⟩ := tf_glet h
    refine tf_iast hx hb hK hI 4 0 (tf_mat_4 ad cI cZ _) (tf_mset_4 ad cI cZ _) rfl b24 es25 dX7_init_264 (fun H locs hI => ?_)
    refine lv_aload_n hx hb dX7_init_265 rfl (lv_at hl 0 rfl) ?_
    refine tf_get (C := RX7) (T := TX7) (N := 35) hx hb hts hn_X7 hown hK hI 0 (tf_mat_0 ad cI cZ _) rfl 6 (by decide) hf_29 rfl rfl dX7_init_266 ?_
    refine lv_iload_n hx hb dX7_init_269 rfl (lv_at hl 1 rfl) ?_
    refine lv_iconst (v := -1) hx hb dX7_init_270 (by decide +kernel) ?_
    obtain ⟨b26, h⟩ := tf_gin h
    obtain ⟨s27, es27, h⟩ := tf_glet h
    refine tf_iast hx hb hK hI 5 0 (tf_mat_5 ad cI cZ _) (tf_mset_5 ad cI cZ _) rfl b26 es27 dX7_init_271 (fun H locs hI => ?_)
    refine lv_aload_n hx hb dX7_init_272 rfl (lv_at hl 0 rfl) ?_
    refine tf_get (C := RX7) (T := TX7) (N := 35) hx hb hts hn_X7 hown hK hI 0 (tf_mat_0 ad cI cZ _) rfl 7 (by decide) hf_32 rfl rfl dX7_init_273 ?_
    refine lv_iload_n hx hb dX7_init_276 rfl (lv_at hl 1 rfl) ?_
    refine lv_iload_n hx hb dX7_init_277 rfl (lv_at hl 1 rfl) ?_
    refine lv_iconst (v := 4) hx hb dX7_init_278 (by decide +kernel) ?_
    refine lv_icmp_ne (tgt := 286) hx hb dX7_init_279 (by decide) (fun c28 => ?_) (fun c28 => ?_)
    · replace h := tf_neg c28 h
      refine lv_iload_n hx hb dX7_init_286 rfl (lv_at hl 1 rfl) ?_
      refine lv_iconst (v := 5) hx hb dX7_init_287 (by decide +kernel) ?_
      refine lv_icmp_ne (tgt := 295) hx hb dX7_init_288 (by decide) (fun c29 => ?_) (fun c29 => ?_)
      · replace h := tf_neg c29 h
        refine lv_iconst (v := 0) hx hb dX7_init_295 (by decide +kernel) ?_
        obtain ⟨b30, h⟩ := tf_gin h
        obtain ⟨s31, es31, h⟩ := tf_glet h
        refine tf_iast hx hb hK hI 6 0 (tf_mat_6 ad cI cZ _) (tf_mset_6 ad cI cZ _) rfl b30 es31 dX7_init_296 (fun H locs hI => ?_)
        obtain ⟨v32, ev32, h⟩ := tf_glet h
        refine lv_iinc (v := v32) (lv' := [(1, .int v32), (0, .ref (ad 0))]) hx hb dX7_init_297 hl (k := 1) rfl (by rw [ev32]; rfl) (by decide) rfl (fun ls hl => ?_)
        refine lv_goto (tgt := 235) hx hb dX7_init_300 (by decide) ?_
        exact ih _ _ _ _ _ h hI (lv_sub hl [1, 0] rfl)
      replace h := tf_pos c29 h
      refine lv_iconst (v := 2) hx hb dX7_init_291 (by decide +kernel) ?_
      refine lv_goto (tgt := 296) hx hb dX7_init_292 (by decide) ?_
      obtain ⟨b33, h⟩ := tf_gin h
      obtain ⟨s34, es34, h⟩ := tf_glet h
      refine tf_iast hx hb hK hI 6 0 (tf_mat_6 ad cI cZ _) (tf_mset_6 ad cI cZ _) rfl b33 es34 dX7_init_296 (fun H locs hI => ?_)
      obtain ⟨v35, ev35, h⟩ := tf_glet h
      refine lv_iinc (v := v35) (lv' := [(1, .int v35), (0, .ref (ad 0))]) hx hb dX7_init_297 hl (k := 1) rfl (by rw [ev35]; rfl) (by decide) rfl (fun ls hl => ?_)
      refine lv_goto (tgt := 235) hx hb dX7_init_300 (by decide) ?_
      exact ih _ _ _ _ _ h hI (lv_sub hl [1, 0] rfl)
    replace h := tf_pos c28 h
    refine lv_iconst (v := 1) hx hb dX7_init_282 (by decide +kernel) ?_
    refine lv_goto (tgt := 296) hx hb dX7_init_283 (by decide) ?_
    obtain ⟨b36, h⟩ := tf_gin h
    obtain ⟨s37, es37, h⟩ := tf_glet h
    refine tf_iast hx hb hK hI 6 0 (tf_mat_6 ad cI cZ _) (tf_mset_6 ad cI cZ _) rfl b36 es37 dX7_init_296 (fun H locs hI => ?_)
    obtain ⟨v38, ev38, h⟩ := tf_glet h
    refine lv_iinc (v := v38) (lv' := [(1, .int v38), (0, .ref (ad 0))]) hx hb dX7_init_297 hl (k := 1) rfl (by rw [ev38]; rfl) (by decide) rfl (fun ls hl => ?_)
    refine lv_goto (tgt := 235) hx hb dX7_init_300 (by decide) ?_
    exact ih _ _ _ _ _ h hI (lv_sub hl [1, 0] rfl)
