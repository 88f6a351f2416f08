set_option maxHeartbeats 8000000 in
set_option maxRecDepth 100000 in
/-- THE LAW'S LOOP -/
theorem law_loop {p : Program} {l : Launch} {e : Env} {s : State} {m : MethodId} {below : List Frame} {meth : Method} {c : Code} {D : va_G} {cI cZ : ClassId} {b L : Nat} {xs : Nat → Int32} {ax am : Nat → Nat} {Rl : tf_S → tf_S → Prop} (hOK : tf_OK Rl) (hL : L ≤ 3584) (C0 : lw_At p s m meth c b L xs) (hK : va_K D vwCl [(cI, .int), (cZ, .boolean)] s) (hN : tf_N tf_nest s) :
    ∀ (n i : Nat) (x3 : Int32), i ≤ L + 7 → L + 8 ≤ i + n → x3 = nI i → ∀ (σx σm : tf_S) (H : Heap) (locs : List Loc) (ls : Array Slot), Rl σx σm → va_P D vwCl (tf_wx ax cI cZ σx ++ tf_wm am cI cZ σm) H → va_D (fun q : Nat => s.heap.size ≤ q) (tf_wx ax cI cZ σx ++ tf_wm am cI cZ σm) → va_S (fun q : Nat => s.heap.size ≤ q) s.heap H locs → lv_has ls 4 [(0, .ref b), (1, .ref (ax 0)), (2, .ref (am 0)), (3, .int x3)] → W p l e room_1 s m #[Value.ref b] below meth c H locs 63 9042 (lw_Z below #[Value.ref b] s) (F0 m 18 ls []) := by
  obtain ⟨hx, hb, hr, hml, hown, hts0, hX, hbl, hlocks, hgv⟩ := C0
  have hts := fun w h => hts0 w (wsL_law_in w h)
  have hA : ∀ q : Nat, s.heap.size ≤ q → (fun q : Nat => s.heap.size ≤ q) q := fun _ h => h
  have hbA : ¬ (fun q : Nat => s.heap.size ≤ q) b := Nat.not_le.mpr hbl
  have hN0 : tf_N [] s := fun _ h => absurd h List.not_mem_nil
  intro n
  induction n with
  | zero =>
    intro i x3 h1 h2
    exact absurd h2 (by omega)
  | succ n ih =>
    intro i x3 hi hin ex3 σx σm H locs ls hR hP hD hS hl
    refine lv_iload_n hx hb dL_law_18 rfl (lv_at hl 3 rfl) ?_
    refine lv_aload_n hx hb dL_law_19 rfl (lv_at hl 0 rfl) ?_
    refine va_slen hx hb hX hbl hbA hS dL_law_20 ?_
    refine lv_bipush (v := 7) hx hb dL_law_21 (by decide +kernel) ?_
    refine lv_isub hx hb dL_law_23 ?_
    refine lv_icmp_gt (tgt := 702) hx hb dL_law_24 (by decide) (fun c1 => ?_) (fun c1 => ?_)
    · refine lv_iconst (v := 1) hx hb dL_law_702 (by decide +kernel) ?_
      refine va_forget (fun q hq => hS.2.2 q hq) ?_
      exact lw_ret hx hb hr hlocks dL_law_703
    have hlt : i + 7 ≤ L := by
      rw [ex3] at c1
      have c2 := fun q => c1 (Int32.lt_iff_toInt_lt.mpr q)
      rw [nI_toInt (by omega)] at c2
      have e7 : (Int32.ofNat L - 7).toInt = (L : Int) - 7 := pk_sub_toInt (a := L) (b := 7) (by omega) (by decide)
      rw [e7] at c2
      have c3 : ¬ ((L : Int) - 7 < (i : Int)) := c2
      omega
    have h_1 : vp_in (x3 + 1) L := by rw [ex3, show nI i + (1 : Int32) = nI (i + 1) from nI_add i 1]; exact vp_in_nI (by omega) (by omega)
    have h_2 : vp_in (x3 + 2) L := by rw [ex3, show nI i + (2 : Int32) = nI (i + 2) from nI_add i 2]; exact vp_in_nI (by omega) (by omega)
    have h_3 : vp_in (x3 + 3) L := by rw [ex3, show nI i + (3 : Int32) = nI (i + 3) from nI_add i 3]; exact vp_in_nI (by omega) (by omega)
    have h_4 : vp_in (x3 + 4) L := by rw [ex3, show nI i + (4 : Int32) = nI (i + 4) from nI_add i 4]; exact vp_in_nI (by omega) (by omega)
    have h_5 : vp_in (x3 + 5) L := by rw [ex3, show nI i + (5 : Int32) = nI (i + 5) from nI_add i 5]; exact vp_in_nI (by omega) (by omega)
    have h_6 : vp_in (x3 + 6) L := by rw [ex3, show nI i + (6 : Int32) = nI (i + 6) from nI_add i 6]; exact vp_in_nI (by omega) (by omega)
    have h_0 : vp_in x3 L := by rw [ex3]; exact vp_in_nI (by omega) (by omega)
    have fin : ∀ (σx σm : tf_S) (H : Heap) (locs : List Loc), Rl σx σm → va_P D vwCl (tf_wx ax cI cZ σx ++ tf_wm am cI cZ σm) H → va_D (fun q : Nat => s.heap.size ≤ q) (tf_wx ax cI cZ σx ++ tf_wm am cI cZ σm) → va_S (fun q : Nat => s.heap.size ≤ q) s.heap H locs → lv_has ls 4 [(0, .ref b), (1, .ref (ax 0)), (2, .ref (am 0)), (3, .int x3)] → W p l e room_1 s m #[Value.ref b] below meth c H locs 63 9042 (lw_Z below #[Value.ref b] s) (F0 m 696 ls []) := by
      intro σx σm H locs hR hP hD hS hl
      obtain ⟨y, ey⟩ : ∃ y : Int32, y = x3 + 7 := ⟨_, rfl⟩
      refine lv_iinc (v := y) (lv' := [(3, .int y), (0, .ref b), (1, .ref (ax 0)), (2, .ref (am 0))]) hx hb dL_law_696 hl (k := 3) rfl (by rw [ey]; rfl) (by decide) rfl (fun ls hl => ?_)
      refine lv_goto (tgt := 18) hx hb dL_law_699 (by decide) ?_
      exact ih (i + 7) y (by omega) (by omega) (by rw [ey, ex3]; exact nI_add i 7) σx σm _ _ _ hR hP hD hS (lv_sub hl [1, 2, 3, 0] rfl)
    refine lv_aload_n hx hb dL_law_27 rfl (lv_at hl 0 rfl) ?_
    refine lv_iload_n hx hb dL_law_28 rfl (lv_at hl 3 rfl) ?_
    refine va_sld hx hb hX hbl hbA hS h_0 dL_law_29 ?_
    refine lv_bipush (v := 31) hx hb dL_law_30 (by decide +kernel) ?_
    refine lv_iand hx hb dL_law_32 ?_
    refine lv_topi (fun k ek => ?_)
    by_cases c10 : k = (0 : Int32)
    · refine lv_tableIn (tgt := 120) (off := 87) hx hb dL_law_33 (by rw [c10]; decide +kernel) (by rw [c10]; decide +kernel) (by rw [c10]; decide +kernel) (by decide) ?_
      obtain ⟨r, σx2, σm2, hfx, hfm, hR2⟩ := hOK.1 σx σm hR (xs (x3 + 1).toNatClampNeg) (xs (x3 + 2).toNatClampNeg)
      refine lv_aload_n hx hb dL_law_120 rfl (lv_at hl 1 rfl) ?_
      refine lv_aload_n hx hb dL_law_121 rfl (lv_at hl 0 rfl) ?_
      refine lv_iload_n hx hb dL_law_122 rfl (lv_at hl 3 rfl) ?_
      refine lv_iconst (v := 1) hx hb dL_law_123 (by decide +kernel) ?_
      refine lv_iadd hx hb dL_law_124 ?_
      refine va_sld hx hb hX hbl hbA hS h_1 dL_law_125 ?_
      refine lv_aload_n hx hb dL_law_126 rfl (lv_at hl 0 rfl) ?_
      refine lv_iload_n hx hb dL_law_127 rfl (lv_at hl 3 rfl) ?_
      refine lv_iconst (v := 2) hx hb dL_law_128 (by decide +kernel) ?_
      refine lv_iadd hx hb dL_law_129 ?_
      refine va_sld hx hb hX hbl hbA hS h_2 dL_law_130 ?_
      refine tf_law1 (As := [.int (xs (x3 + 1).toNatClampNeg), .int (xs (x3 + 2).toNatClampNeg)]) (rest := []) ⟨hx, hb, hml, hown, hts⟩ hK hN (tf_x_ad ax cI cZ) hP hD hS hA (kX_X6_classOf l D ax cI cZ σx (xs (x3 + 1).toNatClampNeg) (xs (x3 + 2).toNatClampNeg) (r, σx2) hfx) (cwV 2 hts gL_law_X6_classOf rfl rfl rfl (by decide +kernel) ⟨Nat.le_of_ble_eq_true rfl, Nat.le_of_ble_eq_true rfl⟩) 0 6 (tf_xat_0 ax cI cZ _) rfl rfl hl.1 rfl (Nat.le_of_ble_eq_true rfl) dL_law_131 ⟨Nat.le_of_ble_eq_true rfl, Nat.le_of_ble_eq_true rfl⟩ (fun H locs hP hD hS => ?_)
      refine lv_aload_n hx hb dL_law_134 rfl (lv_at hl 2 rfl) ?_
      refine lv_aload_n hx hb dL_law_135 rfl (lv_at hl 0 rfl) ?_
      refine lv_iload_n hx hb dL_law_136 rfl (lv_at hl 3 rfl) ?_
      refine lv_iconst (v := 1) hx hb dL_law_137 (by decide +kernel) ?_
      refine lv_iadd hx hb dL_law_138 ?_
      refine va_sld hx hb hX hbl hbA hS h_1 dL_law_139 ?_
      refine lv_aload_n hx hb dL_law_140 rfl (lv_at hl 0 rfl) ?_
      refine lv_iload_n hx hb dL_law_141 rfl (lv_at hl 3 rfl) ?_
      refine lv_iconst (v := 2) hx hb dL_law_142 (by decide +kernel) ?_
      refine lv_iadd hx hb dL_law_143 ?_
      refine va_sld hx hb hX hbl hbA hS h_2 dL_law_144 ?_
      refine tf_law2 (As := [.int (xs (x3 + 1).toNatClampNeg), .int (xs (x3 + 2).toNatClampNeg)]) (rest := [.int r]) ⟨hx, hb, hml, hown, hts⟩ hK hN0 (tf_m_ad am cI cZ) hP hD hS hA (kM_X7_classOf l D am cI cZ σm (xs (x3 + 1).toNatClampNeg) (xs (x3 + 2).toNatClampNeg) (r, σm2) hfm) (cwV 2 hts gL_law_X7_classOf rfl rfl rfl (by decide +kernel) ⟨Nat.le_of_ble_eq_true rfl, Nat.le_of_ble_eq_true rfl⟩) 0 7 (tf_mat_0 am cI cZ _) rfl rfl hl.1 rfl (Nat.le_of_ble_eq_true rfl) dL_law_145 ⟨Nat.le_of_ble_eq_true rfl, Nat.le_of_ble_eq_true rfl⟩ (fun H locs hP hD hS => ?_)
      refine lv_icmp_eq (tgt := 696) hx hb dL_law_148 (by decide) (fun cq => ?_) (fun cq => absurd rfl cq)
      exact fin σx2 σm2 _ _ hR2 hP hD hS hl
    by_cases c11 : k = (1 : Int32)
    · refine lv_tableIn (tgt := 153) (off := 120) hx hb dL_law_33 (by rw [c11]; decide +kernel) (by rw [c11]; decide +kernel) (by rw [c11]; decide +kernel) (by decide) ?_
      obtain ⟨r, σx2, σm2, hfx, hfm, hR2⟩ := hOK.2.1 σx σm hR (xs (x3 + 1).toNatClampNeg) (xs (x3 + 2).toNatClampNeg) (xs (x3 + 3).toNatClampNeg)
      refine lv_aload_n hx hb dL_law_153 rfl (lv_at hl 1 rfl) ?_
      refine lv_aload_n hx hb dL_law_154 rfl (lv_at hl 0 rfl) ?_
      refine lv_iload_n hx hb dL_law_155 rfl (lv_at hl 3 rfl) ?_
      refine lv_iconst (v := 1) hx hb dL_law_156 (by decide +kernel) ?_
      refine lv_iadd hx hb dL_law_157 ?_
      refine va_sld hx hb hX hbl hbA hS h_1 dL_law_158 ?_
      refine lv_aload_n hx hb dL_law_159 rfl (lv_at hl 0 rfl) ?_
      refine lv_iload_n hx hb dL_law_160 rfl (lv_at hl 3 rfl) ?_
      refine lv_iconst (v := 2) hx hb dL_law_161 (by decide +kernel) ?_
      refine lv_iadd hx hb dL_law_162 ?_
      refine va_sld hx hb hX hbl hbA hS h_2 dL_law_163 ?_
      refine lv_aload_n hx hb dL_law_164 rfl (lv_at hl 0 rfl) ?_
      refine lv_iload_n hx hb dL_law_165 rfl (lv_at hl 3 rfl) ?_
      refine lv_iconst (v := 3) hx hb dL_law_166 (by decide +kernel) ?_
      refine lv_iadd hx hb dL_law_167 ?_
      refine va_sld hx hb hX hbl hbA hS h_3 dL_law_168 ?_
      refine tf_law1 (As := [.int (xs (x3 + 1).toNatClampNeg), .int (xs (x3 + 2).toNatClampNeg), .int (xs (x3 + 3).toNatClampNeg)]) (rest := []) ⟨hx, hb, hml, hown, hts⟩ hK hN (tf_x_ad ax cI cZ) hP hD hS hA (kX_X6_type l D ax cI cZ σx (xs (x3 + 1).toNatClampNeg) (xs (x3 + 2).toNatClampNeg) (xs (x3 + 3).toNatClampNeg) (r, σx2) hfx) (cwV 3 hts gL_law_X6_type rfl rfl rfl (by decide +kernel) ⟨Nat.le_of_ble_eq_true rfl, Nat.le_of_ble_eq_true rfl⟩) 0 6 (tf_xat_0 ax cI cZ _) rfl rfl hl.1 rfl (Nat.le_of_ble_eq_true rfl) dL_law_169 ⟨Nat.le_of_ble_eq_true rfl, Nat.le_of_ble_eq_true rfl⟩ (fun H locs hP hD hS => ?_)
      refine lv_aload_n hx hb dL_law_172 rfl (lv_at hl 2 rfl) ?_
      refine lv_aload_n hx hb dL_law_173 rfl (lv_at hl 0 rfl) ?_
      refine lv_iload_n hx hb dL_law_174 rfl (lv_at hl 3 rfl) ?_
      refine lv_iconst (v := 1) hx hb dL_law_175 (by decide +kernel) ?_
      refine lv_iadd hx hb dL_law_176 ?_
      refine va_sld hx hb hX hbl hbA hS h_1 dL_law_177 ?_
      refine lv_aload_n hx hb dL_law_178 rfl (lv_at hl 0 rfl) ?_
      refine lv_iload_n hx hb dL_law_179 rfl (lv_at hl 3 rfl) ?_
      refine lv_iconst (v := 2) hx hb dL_law_180 (by decide +kernel) ?_
      refine lv_iadd hx hb dL_law_181 ?_
      refine va_sld hx hb hX hbl hbA hS h_2 dL_law_182 ?_
      refine lv_aload_n hx hb dL_law_183 rfl (lv_at hl 0 rfl) ?_
      refine lv_iload_n hx hb dL_law_184 rfl (lv_at hl 3 rfl) ?_
      refine lv_iconst (v := 3) hx hb dL_law_185 (by decide +kernel) ?_
      refine lv_iadd hx hb dL_law_186 ?_
      refine va_sld hx hb hX hbl hbA hS h_3 dL_law_187 ?_
      refine tf_law2 (As := [.int (xs (x3 + 1).toNatClampNeg), .int (xs (x3 + 2).toNatClampNeg), .int (xs (x3 + 3).toNatClampNeg)]) (rest := [.int r]) ⟨hx, hb, hml, hown, hts⟩ hK hN0 (tf_m_ad am cI cZ) hP hD hS hA (kM_X7_type l D am cI cZ σm (xs (x3 + 1).toNatClampNeg) (xs (x3 + 2).toNatClampNeg) (xs (x3 + 3).toNatClampNeg) (r, σm2) hfm) (cwV 3 hts gL_law_X7_type rfl rfl rfl (by decide +kernel) ⟨Nat.le_of_ble_eq_true rfl, Nat.le_of_ble_eq_true rfl⟩) 0 7 (tf_mat_0 am cI cZ _) rfl rfl hl.1 rfl (Nat.le_of_ble_eq_true rfl) dL_law_188 ⟨Nat.le_of_ble_eq_true rfl, Nat.le_of_ble_eq_true rfl⟩ (fun H locs hP hD hS => ?_)
      refine lv_icmp_eq (tgt := 696) hx hb dL_law_191 (by decide) (fun cq => ?_) (fun cq => absurd rfl cq)
      exact fin σx2 σm2 _ _ hR2 hP hD hS hl
    by_cases c12 : k = (2 : Int32)
    · refine lv_tableIn (tgt := 196) (off := 163) hx hb dL_law_33 (by rw [c12]; decide +kernel) (by rw [c12]; decide +kernel) (by rw [c12]; decide +kernel) (by decide) ?_
      obtain ⟨r, σx2, σm2, hfx, hfm, hR2⟩ := hOK.2.2.1 σx σm hR (xs (x3 + 1).toNatClampNeg) (xs (x3 + 2).toNatClampNeg)
      refine lv_aload_n hx hb dL_law_196 rfl (lv_at hl 1 rfl) ?_
      refine lv_aload_n hx hb dL_law_197 rfl (lv_at hl 0 rfl) ?_
      refine lv_iload_n hx hb dL_law_198 rfl (lv_at hl 3 rfl) ?_
      refine lv_iconst (v := 1) hx hb dL_law_199 (by decide +kernel) ?_
      refine lv_iadd hx hb dL_law_200 ?_
      refine va_sld hx hb hX hbl hbA hS h_1 dL_law_201 ?_
      refine lv_aload_n hx hb dL_law_202 rfl (lv_at hl 0 rfl) ?_
      refine lv_iload_n hx hb dL_law_203 rfl (lv_at hl 3 rfl) ?_
      refine lv_iconst (v := 2) hx hb dL_law_204 (by decide +kernel) ?_
      refine lv_iadd hx hb dL_law_205 ?_
      refine va_sld hx hb hX hbl hbA hS h_2 dL_law_206 ?_
      refine tf_law1 (As := [.int (xs (x3 + 1).toNatClampNeg), .int (xs (x3 + 2).toNatClampNeg)]) (rest := []) ⟨hx, hb, hml, hown, hts⟩ hK hN (tf_x_ad ax cI cZ) hP hD hS hA (kX_X6_member l D ax cI cZ σx (xs (x3 + 1).toNatClampNeg) (xs (x3 + 2).toNatClampNeg) (r, σx2) hfx) (cwV 2 hts gL_law_X6_member rfl rfl rfl (by decide +kernel) ⟨Nat.le_of_ble_eq_true rfl, Nat.le_of_ble_eq_true rfl⟩) 0 6 (tf_xat_0 ax cI cZ _) rfl rfl hl.1 rfl (Nat.le_of_ble_eq_true rfl) dL_law_207 ⟨Nat.le_of_ble_eq_true rfl, Nat.le_of_ble_eq_true rfl⟩ (fun H locs hP hD hS => ?_)
      refine lv_aload_n hx hb dL_law_210 rfl (lv_at hl 2 rfl) ?_
      refine lv_aload_n hx hb dL_law_211 rfl (lv_at hl 0 rfl) ?_
      refine lv_iload_n hx hb dL_law_212 rfl (lv_at hl 3 rfl) ?_
      refine lv_iconst (v := 1) hx hb dL_law_213 (by decide +kernel) ?_
      refine lv_iadd hx hb dL_law_214 ?_
      refine va_sld hx hb hX hbl hbA hS h_1 dL_law_215 ?_
      refine lv_aload_n hx hb dL_law_216 rfl (lv_at hl 0 rfl) ?_
      refine lv_iload_n hx hb dL_law_217 rfl (lv_at hl 3 rfl) ?_
      refine lv_iconst (v := 2) hx hb dL_law_218 (by decide +kernel) ?_
      refine lv_iadd hx hb dL_law_219 ?_
      refine va_sld hx hb hX hbl hbA hS h_2 dL_law_220 ?_
      refine tf_law2 (As := [.int (xs (x3 + 1).toNatClampNeg), .int (xs (x3 + 2).toNatClampNeg)]) (rest := [.int r]) ⟨hx, hb, hml, hown, hts⟩ hK hN0 (tf_m_ad am cI cZ) hP hD hS hA (kM_X7_member l D am cI cZ σm (xs (x3 + 1).toNatClampNeg) (xs (x3 + 2).toNatClampNeg) (r, σm2) hfm) (cwV 2 hts gL_law_X7_member rfl rfl rfl (by decide +kernel) ⟨Nat.le_of_ble_eq_true rfl, Nat.le_of_ble_eq_true rfl⟩) 0 7 (tf_mat_0 am cI cZ _) rfl rfl hl.1 rfl (Nat.le_of_ble_eq_true rfl) dL_law_221 ⟨Nat.le_of_ble_eq_true rfl, Nat.le_of_ble_eq_true rfl⟩ (fun H locs hP hD hS => ?_)
      refine lv_icmp_eq (tgt := 696) hx hb dL_law_224 (by decide) (fun cq => ?_) (fun cq => absurd rfl cq)
      exact fin σx2 σm2 _ _ hR2 hP hD hS hl
    by_cases c13 : k = (3 : Int32)
    · refine lv_tableIn (tgt := 229) (off := 196) hx hb dL_law_33 (by rw [c13]; decide +kernel) (by rw [c13]; decide +kernel) (by rw [c13]; decide +kernel) (by decide) ?_
      obtain ⟨r, σx2, σm2, hfx, hfm, hR2⟩ := hOK.2.2.2.1 σx σm hR (xs (x3 + 1).toNatClampNeg) (xs (x3 + 2).toNatClampNeg) (xs (x3 + 3).toNatClampNeg)
      refine lv_aload_n hx hb dL_law_229 rfl (lv_at hl 1 rfl) ?_
      refine lv_aload_n hx hb dL_law_230 rfl (lv_at hl 0 rfl) ?_
      refine lv_iload_n hx hb dL_law_231 rfl (lv_at hl 3 rfl) ?_
      refine lv_iconst (v := 1) hx hb dL_law_232 (by decide +kernel) ?_
      refine lv_iadd hx hb dL_law_233 ?_
      refine va_sld hx hb hX hbl hbA hS h_1 dL_law_234 ?_
      refine lv_aload_n hx hb dL_law_235 rfl (lv_at hl 0 rfl) ?_
      refine lv_iload_n hx hb dL_law_236 rfl (lv_at hl 3 rfl) ?_
      refine lv_iconst (v := 2) hx hb dL_law_237 (by decide +kernel) ?_
      refine lv_iadd hx hb dL_law_238 ?_
      refine va_sld hx hb hX hbl hbA hS h_2 dL_law_239 ?_
      refine lv_aload_n hx hb dL_law_240 rfl (lv_at hl 0 rfl) ?_
      refine lv_iload_n hx hb dL_law_241 rfl (lv_at hl 3 rfl) ?_
      refine lv_iconst (v := 3) hx hb dL_law_242 (by decide +kernel) ?_
      refine lv_iadd hx hb dL_law_243 ?_
      refine va_sld hx hb hX hbl hbA hS h_3 dL_law_244 ?_
      refine tf_law1 (As := [.int (xs (x3 + 1).toNatClampNeg), .int (xs (x3 + 2).toNatClampNeg), .int (xs (x3 + 3).toNatClampNeg)]) (rest := []) ⟨hx, hb, hml, hown, hts⟩ hK hN (tf_x_ad ax cI cZ) hP hD hS hA (kX_X6_function l D ax cI cZ σx (xs (x3 + 1).toNatClampNeg) (xs (x3 + 2).toNatClampNeg) (xs (x3 + 3).toNatClampNeg) (r, σx2) hfx) (cwV 3 hts gL_law_X6_function rfl rfl rfl (by decide +kernel) ⟨Nat.le_of_ble_eq_true rfl, Nat.le_of_ble_eq_true rfl⟩) 0 6 (tf_xat_0 ax cI cZ _) rfl rfl hl.1 rfl (Nat.le_of_ble_eq_true rfl) dL_law_245 ⟨Nat.le_of_ble_eq_true rfl, Nat.le_of_ble_eq_true rfl⟩ (fun H locs hP hD hS => ?_)
      refine lv_aload_n hx hb dL_law_248 rfl (lv_at hl 2 rfl) ?_
      refine lv_aload_n hx hb dL_law_249 rfl (lv_at hl 0 rfl) ?_
      refine lv_iload_n hx hb dL_law_250 rfl (lv_at hl 3 rfl) ?_
      refine lv_iconst (v := 1) hx hb dL_law_251 (by decide +kernel) ?_
      refine lv_iadd hx hb dL_law_252 ?_
      refine va_sld hx hb hX hbl hbA hS h_1 dL_law_253 ?_
      refine lv_aload_n hx hb dL_law_254 rfl (lv_at hl 0 rfl) ?_
      refine lv_iload_n hx hb dL_law_255 rfl (lv_at hl 3 rfl) ?_
      refine lv_iconst (v := 2) hx hb dL_law_256 (by decide +kernel) ?_
      refine lv_iadd hx hb dL_law_257 ?_
      refine va_sld hx hb hX hbl hbA hS h_2 dL_law_258 ?_
      refine lv_aload_n hx hb dL_law_259 rfl (lv_at hl 0 rfl) ?_
      refine lv_iload_n hx hb dL_law_260 rfl (lv_at hl 3 rfl) ?_
      refine lv_iconst (v := 3) hx hb dL_law_261 (by decide +kernel) ?_
      refine lv_iadd hx hb dL_law_262 ?_
      refine va_sld hx hb hX hbl hbA hS h_3 dL_law_263 ?_
      refine tf_law2 (As := [.int (xs (x3 + 1).toNatClampNeg), .int (xs (x3 + 2).toNatClampNeg), .int (xs (x3 + 3).toNatClampNeg)]) (rest := [.int r]) ⟨hx, hb, hml, hown, hts⟩ hK hN0 (tf_m_ad am cI cZ) hP hD hS hA (kM_X7_function l D am cI cZ σm (xs (x3 + 1).toNatClampNeg) (xs (x3 + 2).toNatClampNeg) (xs (x3 + 3).toNatClampNeg) (r, σm2) hfm) (cwV 3 hts gL_law_X7_function rfl rfl rfl (by decide +kernel) ⟨Nat.le_of_ble_eq_true rfl, Nat.le_of_ble_eq_true rfl⟩) 0 7 (tf_mat_0 am cI cZ _) rfl rfl hl.1 rfl (Nat.le_of_ble_eq_true rfl) dL_law_264 ⟨Nat.le_of_ble_eq_true rfl, Nat.le_of_ble_eq_true rfl⟩ (fun H locs hP hD hS => ?_)
      refine lv_icmp_eq (tgt := 696) hx hb dL_law_267 (by decide) (fun cq => ?_) (fun cq => absurd rfl cq)
      exact fin σx2 σm2 _ _ hR2 hP hD hS hl
    by_cases c14 : k = (4 : Int32)
    · refine lv_tableIn (tgt := 272) (off := 239) hx hb dL_law_33 (by rw [c14]; decide +kernel) (by rw [c14]; decide +kernel) (by rw [c14]; decide +kernel) (by decide) ?_
      obtain ⟨r, σx2, σm2, hfx, hfm, hR2⟩ := hOK.2.2.2.2.1 σx σm hR (xs (x3 + 1).toNatClampNeg) (xs (x3 + 2).toNatClampNeg) (xs (x3 + 3).toNatClampNeg)
      refine lv_aload_n hx hb dL_law_272 rfl (lv_at hl 1 rfl) ?_
      refine lv_aload_n hx hb dL_law_273 rfl (lv_at hl 0 rfl) ?_
      refine lv_iload_n hx hb dL_law_274 rfl (lv_at hl 3 rfl) ?_
      refine lv_iconst (v := 1) hx hb dL_law_275 (by decide +kernel) ?_
      refine lv_iadd hx hb dL_law_276 ?_
      refine va_sld hx hb hX hbl hbA hS h_1 dL_law_277 ?_
      refine lv_aload_n hx hb dL_law_278 rfl (lv_at hl 0 rfl) ?_
      refine lv_iload_n hx hb dL_law_279 rfl (lv_at hl 3 rfl) ?_
      refine lv_iconst (v := 2) hx hb dL_law_280 (by decide +kernel) ?_
      refine lv_iadd hx hb dL_law_281 ?_
      refine va_sld hx hb hX hbl hbA hS h_2 dL_law_282 ?_
      refine lv_aload_n hx hb dL_law_283 rfl (lv_at hl 0 rfl) ?_
      refine lv_iload_n hx hb dL_law_284 rfl (lv_at hl 3 rfl) ?_
      refine lv_iconst (v := 3) hx hb dL_law_285 (by decide +kernel) ?_
      refine lv_iadd hx hb dL_law_286 ?_
      refine va_sld hx hb hX hbl hbA hS h_3 dL_law_287 ?_
      refine tf_law1 (As := [.int (xs (x3 + 1).toNatClampNeg), .int (xs (x3 + 2).toNatClampNeg), .int (xs (x3 + 3).toNatClampNeg)]) (rest := []) ⟨hx, hb, hml, hown, hts⟩ hK hN (tf_x_ad ax cI cZ) hP hD hS hA (kX_X6_bound l D ax cI cZ σx (xs (x3 + 1).toNatClampNeg) (xs (x3 + 2).toNatClampNeg) (xs (x3 + 3).toNatClampNeg) (r, σx2) hfx) (cwV 3 hts gL_law_X6_bound rfl rfl rfl (by decide +kernel) ⟨Nat.le_of_ble_eq_true rfl, Nat.le_of_ble_eq_true rfl⟩) 0 6 (tf_xat_0 ax cI cZ _) rfl rfl hl.1 rfl (Nat.le_of_ble_eq_true rfl) dL_law_288 ⟨Nat.le_of_ble_eq_true rfl, Nat.le_of_ble_eq_true rfl⟩ (fun H locs hP hD hS => ?_)
      refine lv_aload_n hx hb dL_law_291 rfl (lv_at hl 2 rfl) ?_
      refine lv_aload_n hx hb dL_law_292 rfl (lv_at hl 0 rfl) ?_
      refine lv_iload_n hx hb dL_law_293 rfl (lv_at hl 3 rfl) ?_
      refine lv_iconst (v := 1) hx hb dL_law_294 (by decide +kernel) ?_
      refine lv_iadd hx hb dL_law_295 ?_
      refine va_sld hx hb hX hbl hbA hS h_1 dL_law_296 ?_
      refine lv_aload_n hx hb dL_law_297 rfl (lv_at hl 0 rfl) ?_
      refine lv_iload_n hx hb dL_law_298 rfl (lv_at hl 3 rfl) ?_
      refine lv_iconst (v := 2) hx hb dL_law_299 (by decide +kernel) ?_
      refine lv_iadd hx hb dL_law_300 ?_
      refine va_sld hx hb hX hbl hbA hS h_2 dL_law_301 ?_
      refine lv_aload_n hx hb dL_law_302 rfl (lv_at hl 0 rfl) ?_
      refine lv_iload_n hx hb dL_law_303 rfl (lv_at hl 3 rfl) ?_
      refine lv_iconst (v := 3) hx hb dL_law_304 (by decide +kernel) ?_
      refine lv_iadd hx hb dL_law_305 ?_
      refine va_sld hx hb hX hbl hbA hS h_3 dL_law_306 ?_
      refine tf_law2 (As := [.int (xs (x3 + 1).toNatClampNeg), .int (xs (x3 + 2).toNatClampNeg), .int (xs (x3 + 3).toNatClampNeg)]) (rest := [.int r]) ⟨hx, hb, hml, hown, hts⟩ hK hN0 (tf_m_ad am cI cZ) hP hD hS hA (kM_X7_bound l D am cI cZ σm (xs (x3 + 1).toNatClampNeg) (xs (x3 + 2).toNatClampNeg) (xs (x3 + 3).toNatClampNeg) (r, σm2) hfm) (cwV 3 hts gL_law_X7_bound rfl rfl rfl (by decide +kernel) ⟨Nat.le_of_ble_eq_true rfl, Nat.le_of_ble_eq_true rfl⟩) 0 7 (tf_mat_0 am cI cZ _) rfl rfl hl.1 rfl (Nat.le_of_ble_eq_true rfl) dL_law_307 ⟨Nat.le_of_ble_eq_true rfl, Nat.le_of_ble_eq_true rfl⟩ (fun H locs hP hD hS => ?_)
      refine lv_icmp_eq (tgt := 696) hx hb dL_law_310 (by decide) (fun cq => ?_) (fun cq => absurd rfl cq)
      exact fin σx2 σm2 _ _ hR2 hP hD hS hl
    by_cases c15 : k = (5 : Int32)
    · refine lv_tableIn (tgt := 315) (off := 282) hx hb dL_law_33 (by rw [c15]; decide +kernel) (by rw [c15]; decide +kernel) (by rw [c15]; decide +kernel) (by decide) ?_
      obtain ⟨r, σx2, σm2, hfx, hfm, hR2⟩ := hOK.2.2.2.2.2.1 σx σm hR (xs (x3 + 1).toNatClampNeg) (xs (x3 + 2).toNatClampNeg) (xs (x3 + 3).toNatClampNeg) (xs (x3 + 4).toNatClampNeg) (xs (x3 + 5).toNatClampNeg) (xs (x3 + 6).toNatClampNeg)
      refine lv_aload_n hx hb dL_law_315 rfl (lv_at hl 1 rfl) ?_
      refine lv_aload_n hx hb dL_law_316 rfl (lv_at hl 0 rfl) ?_
      refine lv_iload_n hx hb dL_law_317 rfl (lv_at hl 3 rfl) ?_
      refine lv_iconst (v := 1) hx hb dL_law_318 (by decide +kernel) ?_
      refine lv_iadd hx hb dL_law_319 ?_
      refine va_sld hx hb hX hbl hbA hS h_1 dL_law_320 ?_
      refine lv_aload_n hx hb dL_law_321 rfl (lv_at hl 0 rfl) ?_
      refine lv_iload_n hx hb dL_law_322 rfl (lv_at hl 3 rfl) ?_
      refine lv_iconst (v := 2) hx hb dL_law_323 (by decide +kernel) ?_
      refine lv_iadd hx hb dL_law_324 ?_
      refine va_sld hx hb hX hbl hbA hS h_2 dL_law_325 ?_
      refine lv_aload_n hx hb dL_law_326 rfl (lv_at hl 0 rfl) ?_
      refine lv_iload_n hx hb dL_law_327 rfl (lv_at hl 3 rfl) ?_
      refine lv_iconst (v := 3) hx hb dL_law_328 (by decide +kernel) ?_
      refine lv_iadd hx hb dL_law_329 ?_
      refine va_sld hx hb hX hbl hbA hS h_3 dL_law_330 ?_
      refine lv_aload_n hx hb dL_law_331 rfl (lv_at hl 0 rfl) ?_
      refine lv_iload_n hx hb dL_law_332 rfl (lv_at hl 3 rfl) ?_
      refine lv_iconst (v := 4) hx hb dL_law_333 (by decide +kernel) ?_
      refine lv_iadd hx hb dL_law_334 ?_
      refine va_sld hx hb hX hbl hbA hS h_4 dL_law_335 ?_
      refine lv_aload_n hx hb dL_law_336 rfl (lv_at hl 0 rfl) ?_
      refine lv_iload_n hx hb dL_law_337 rfl (lv_at hl 3 rfl) ?_
      refine lv_iconst (v := 5) hx hb dL_law_338 (by decide +kernel) ?_
      refine lv_iadd hx hb dL_law_339 ?_
      refine va_sld hx hb hX hbl hbA hS h_5 dL_law_340 ?_
      refine lv_aload_n hx hb dL_law_341 rfl (lv_at hl 0 rfl) ?_
      refine lv_iload_n hx hb dL_law_342 rfl (lv_at hl 3 rfl) ?_
      refine lv_bipush (v := 6) hx hb dL_law_343 (by decide +kernel) ?_
      refine lv_iadd hx hb dL_law_345 ?_
      refine va_sld hx hb hX hbl hbA hS h_6 dL_law_346 ?_
      refine tf_law1 (As := [.int (xs (x3 + 1).toNatClampNeg), .int (xs (x3 + 2).toNatClampNeg), .int (xs (x3 + 3).toNatClampNeg), .int (xs (x3 + 4).toNatClampNeg), .int (xs (x3 + 5).toNatClampNeg), .int (xs (x3 + 6).toNatClampNeg)]) (rest := []) ⟨hx, hb, hml, hown, hts⟩ hK hN (tf_x_ad ax cI cZ) hP hD hS hA (kX_X6_operator l D ax cI cZ σx (xs (x3 + 1).toNatClampNeg) (xs (x3 + 2).toNatClampNeg) (xs (x3 + 3).toNatClampNeg) (xs (x3 + 4).toNatClampNeg) (xs (x3 + 5).toNatClampNeg) (xs (x3 + 6).toNatClampNeg) (r, σx2) hfx) (cwV 6 hts gL_law_X6_operator rfl rfl rfl (by decide +kernel) ⟨Nat.le_of_ble_eq_true rfl, Nat.le_of_ble_eq_true rfl⟩) 0 6 (tf_xat_0 ax cI cZ _) rfl rfl hl.1 rfl (Nat.le_of_ble_eq_true rfl) dL_law_347 ⟨Nat.le_of_ble_eq_true rfl, Nat.le_of_ble_eq_true rfl⟩ (fun H locs hP hD hS => ?_)
      refine lv_aload_n hx hb dL_law_350 rfl (lv_at hl 2 rfl) ?_
      refine lv_aload_n hx hb dL_law_351 rfl (lv_at hl 0 rfl) ?_
      refine lv_iload_n hx hb dL_law_352 rfl (lv_at hl 3 rfl) ?_
      refine lv_iconst (v := 1) hx hb dL_law_353 (by decide +kernel) ?_
      refine lv_iadd hx hb dL_law_354 ?_
      refine va_sld hx hb hX hbl hbA hS h_1 dL_law_355 ?_
      refine lv_aload_n hx hb dL_law_356 rfl (lv_at hl 0 rfl) ?_
      refine lv_iload_n hx hb dL_law_357 rfl (lv_at hl 3 rfl) ?_
      refine lv_iconst (v := 2) hx hb dL_law_358 (by decide +kernel) ?_
      refine lv_iadd hx hb dL_law_359 ?_
      refine va_sld hx hb hX hbl hbA hS h_2 dL_law_360 ?_
      refine lv_aload_n hx hb dL_law_361 rfl (lv_at hl 0 rfl) ?_
      refine lv_iload_n hx hb dL_law_362 rfl (lv_at hl 3 rfl) ?_
      refine lv_iconst (v := 3) hx hb dL_law_363 (by decide +kernel) ?_
      refine lv_iadd hx hb dL_law_364 ?_
      refine va_sld hx hb hX hbl hbA hS h_3 dL_law_365 ?_
      refine lv_aload_n hx hb dL_law_366 rfl (lv_at hl 0 rfl) ?_
      refine lv_iload_n hx hb dL_law_367 rfl (lv_at hl 3 rfl) ?_
      refine lv_iconst (v := 4) hx hb dL_law_368 (by decide +kernel) ?_
      refine lv_iadd hx hb dL_law_369 ?_
      refine va_sld hx hb hX hbl hbA hS h_4 dL_law_370 ?_
      refine lv_aload_n hx hb dL_law_371 rfl (lv_at hl 0 rfl) ?_
      refine lv_iload_n hx hb dL_law_372 rfl (lv_at hl 3 rfl) ?_
      refine lv_iconst (v := 5) hx hb dL_law_373 (by decide +kernel) ?_
      refine lv_iadd hx hb dL_law_374 ?_
      refine va_sld hx hb hX hbl hbA hS h_5 dL_law_375 ?_
      refine lv_aload_n hx hb dL_law_376 rfl (lv_at hl 0 rfl) ?_
      refine lv_iload_n hx hb dL_law_377 rfl (lv_at hl 3 rfl) ?_
      refine lv_bipush (v := 6) hx hb dL_law_378 (by decide +kernel) ?_
      refine lv_iadd hx hb dL_law_380 ?_
      refine va_sld hx hb hX hbl hbA hS h_6 dL_law_381 ?_
      refine tf_law2 (As := [.int (xs (x3 + 1).toNatClampNeg), .int (xs (x3 + 2).toNatClampNeg), .int (xs (x3 + 3).toNatClampNeg), .int (xs (x3 + 4).toNatClampNeg), .int (xs (x3 + 5).toNatClampNeg), .int (xs (x3 + 6).toNatClampNeg)]) (rest := [.int r]) ⟨hx, hb, hml, hown, hts⟩ hK hN0 (tf_m_ad am cI cZ) hP hD hS hA (kM_X7_operator l D am cI cZ σm (xs (x3 + 1).toNatClampNeg) (xs (x3 + 2).toNatClampNeg) (xs (x3 + 3).toNatClampNeg) (xs (x3 + 4).toNatClampNeg) (xs (x3 + 5).toNatClampNeg) (xs (x3 + 6).toNatClampNeg) (r, σm2) hfm) (cwV 6 hts gL_law_X7_operator rfl rfl rfl (by decide +kernel) ⟨Nat.le_of_ble_eq_true rfl, Nat.le_of_ble_eq_true rfl⟩) 0 7 (tf_mat_0 am cI cZ _) rfl rfl hl.1 rfl (Nat.le_of_ble_eq_true rfl) dL_law_382 ⟨Nat.le_of_ble_eq_true rfl, Nat.le_of_ble_eq_true rfl⟩ (fun H locs hP hD hS => ?_)
      refine lv_icmp_eq (tgt := 696) hx hb dL_law_385 (by decide) (fun cq => ?_) (fun cq => absurd rfl cq)
      exact fin σx2 σm2 _ _ hR2 hP hD hS hl
    by_cases c16 : k = (6 : Int32)
    · refine lv_tableIn (tgt := 390) (off := 357) hx hb dL_law_33 (by rw [c16]; decide +kernel) (by rw [c16]; decide +kernel) (by rw [c16]; decide +kernel) (by decide) ?_
      obtain ⟨r, σx2, σm2, hfx, hfm, hR2⟩ := hOK.2.2.2.2.2.2.1 σx σm hR ()
      refine lv_aload_n hx hb dL_law_390 rfl (lv_at hl 1 rfl) ?_
      refine tf_law1 (As := []) (rest := []) ⟨hx, hb, hml, hown, hts⟩ hK hN (tf_x_ad ax cI cZ) hP hD hS hA (kX_X6_clear l D ax cI cZ σx  (r, σx2) hfx) (cwV 0 hts gL_law_X6_clear rfl rfl rfl (by decide +kernel) ⟨Nat.le_of_ble_eq_true rfl, Nat.le_of_ble_eq_true rfl⟩) 0 6 (tf_xat_0 ax cI cZ _) rfl rfl hl.1 rfl (Nat.le_of_ble_eq_true rfl) dL_law_391 ⟨Nat.le_of_ble_eq_true rfl, Nat.le_of_ble_eq_true rfl⟩ (fun H locs hP hD hS => ?_)
      refine lv_aload_n hx hb dL_law_394 rfl (lv_at hl 2 rfl) ?_
      refine tf_law2 (As := []) (rest := [.int r]) ⟨hx, hb, hml, hown, hts⟩ hK hN0 (tf_m_ad am cI cZ) hP hD hS hA (kM_X7_clear l D am cI cZ σm  (r, σm2) hfm) (cwV 0 hts gL_law_X7_clear rfl rfl rfl (by decide +kernel) ⟨Nat.le_of_ble_eq_true rfl, Nat.le_of_ble_eq_true rfl⟩) 0 7 (tf_mat_0 am cI cZ _) rfl rfl hl.1 rfl (Nat.le_of_ble_eq_true rfl) dL_law_395 ⟨Nat.le_of_ble_eq_true rfl, Nat.le_of_ble_eq_true rfl⟩ (fun H locs hP hD hS => ?_)
      refine lv_icmp_eq (tgt := 696) hx hb dL_law_398 (by decide) (fun cq => ?_) (fun cq => absurd rfl cq)
      exact fin σx2 σm2 _ _ hR2 hP hD hS hl
    by_cases c17 : k = (7 : Int32)
    · refine lv_tableIn (tgt := 403) (off := 370) hx hb dL_law_33 (by rw [c17]; decide +kernel) (by rw [c17]; decide +kernel) (by rw [c17]; decide +kernel) (by decide) ?_
      obtain ⟨r, σx2, σm2, hfx, hfm, hR2⟩ := hOK.2.2.2.2.2.2.2.1 σx σm hR ()
      refine lv_aload_n hx hb dL_law_403 rfl (lv_at hl 1 rfl) ?_
      refine tf_law1 (As := []) (rest := []) ⟨hx, hb, hml, hown, hts⟩ hK hN (tf_x_ad ax cI cZ) hP hD hS hA (kX_X6_flow l D ax cI cZ σx  (r, σx2) hfx) (cwV 0 hts gL_law_X6_flow rfl rfl rfl (by decide +kernel) ⟨Nat.le_of_ble_eq_true rfl, Nat.le_of_ble_eq_true rfl⟩) 0 6 (tf_xat_0 ax cI cZ _) rfl rfl hl.1 rfl (Nat.le_of_ble_eq_true rfl) dL_law_404 ⟨Nat.le_of_ble_eq_true rfl, Nat.le_of_ble_eq_true rfl⟩ (fun H locs hP hD hS => ?_)
      refine lv_aload_n hx hb dL_law_407 rfl (lv_at hl 2 rfl) ?_
      refine tf_law2 (As := []) (rest := [.int r]) ⟨hx, hb, hml, hown, hts⟩ hK hN0 (tf_m_ad am cI cZ) hP hD hS hA (kM_X7_flow l D am cI cZ σm  (r, σm2) hfm) (cwV 0 hts gL_law_X7_flow rfl rfl rfl (by decide +kernel) ⟨Nat.le_of_ble_eq_true rfl, Nat.le_of_ble_eq_true rfl⟩) 0 7 (tf_mat_0 am cI cZ _) rfl rfl hl.1 rfl (Nat.le_of_ble_eq_true rfl) dL_law_408 ⟨Nat.le_of_ble_eq_true rfl, Nat.le_of_ble_eq_true rfl⟩ (fun H locs hP hD hS => ?_)
      refine lv_icmp_eq (tgt := 696) hx hb dL_law_411 (by decide) (fun cq => ?_) (fun cq => absurd rfl cq)
      exact fin σx2 σm2 _ _ hR2 hP hD hS hl
    by_cases c18 : k = (8 : Int32)
    · refine lv_tableIn (tgt := 416) (off := 383) hx hb dL_law_33 (by rw [c18]; decide +kernel) (by rw [c18]; decide +kernel) (by rw [c18]; decide +kernel) (by decide) ?_
      obtain ⟨r, σx2, σm2, hfx, hfm, hR2⟩ := hOK.2.2.2.2.2.2.2.2.1 σx σm hR (xs (x3 + 1).toNatClampNeg)
      refine lv_aload_n hx hb dL_law_416 rfl (lv_at hl 1 rfl) ?_
      refine lv_aload_n hx hb dL_law_417 rfl (lv_at hl 0 rfl) ?_
      refine lv_iload_n hx hb dL_law_418 rfl (lv_at hl 3 rfl) ?_
      refine lv_iconst (v := 1) hx hb dL_law_419 (by decide +kernel) ?_
      refine lv_iadd hx hb dL_law_420 ?_
      refine va_sld hx hb hX hbl hbA hS h_1 dL_law_421 ?_
      refine tf_law1 (As := [.int (xs (x3 + 1).toNatClampNeg)]) (rest := []) ⟨hx, hb, hml, hown, hts⟩ hK hN (tf_x_ad ax cI cZ) hP hD hS hA (kX_X6_comes l D ax cI cZ σx (xs (x3 + 1).toNatClampNeg) (r, σx2) hfx) (cwV 1 hts gL_law_X6_comes rfl rfl rfl (by decide +kernel) ⟨Nat.le_of_ble_eq_true rfl, Nat.le_of_ble_eq_true rfl⟩) 0 6 (tf_xat_0 ax cI cZ _) rfl rfl hl.1 rfl (Nat.le_of_ble_eq_true rfl) dL_law_422 ⟨Nat.le_of_ble_eq_true rfl, Nat.le_of_ble_eq_true rfl⟩ (fun H locs hP hD hS => ?_)
      refine lv_aload_n hx hb dL_law_425 rfl (lv_at hl 2 rfl) ?_
      refine lv_aload_n hx hb dL_law_426 rfl (lv_at hl 0 rfl) ?_
      refine lv_iload_n hx hb dL_law_427 rfl (lv_at hl 3 rfl) ?_
      refine lv_iconst (v := 1) hx hb dL_law_428 (by decide +kernel) ?_
      refine lv_iadd hx hb dL_law_429 ?_
      refine va_sld hx hb hX hbl hbA hS h_1 dL_law_430 ?_
      refine tf_law2 (As := [.int (xs (x3 + 1).toNatClampNeg)]) (rest := [.int r]) ⟨hx, hb, hml, hown, hts⟩ hK hN0 (tf_m_ad am cI cZ) hP hD hS hA (kM_X7_comes l D am cI cZ σm (xs (x3 + 1).toNatClampNeg) (r, σm2) hfm) (cwV 1 hts gL_law_X7_comes rfl rfl rfl (by decide +kernel) ⟨Nat.le_of_ble_eq_true rfl, Nat.le_of_ble_eq_true rfl⟩) 0 7 (tf_mat_0 am cI cZ _) rfl rfl hl.1 rfl (Nat.le_of_ble_eq_true rfl) dL_law_431 ⟨Nat.le_of_ble_eq_true rfl, Nat.le_of_ble_eq_true rfl⟩ (fun H locs hP hD hS => ?_)
      refine lv_icmp_eq (tgt := 696) hx hb dL_law_434 (by decide) (fun cq => ?_) (fun cq => absurd rfl cq)
      exact fin σx2 σm2 _ _ hR2 hP hD hS hl
    by_cases c19 : k = (9 : Int32)
    · refine lv_tableIn (tgt := 439) (off := 406) hx hb dL_law_33 (by rw [c19]; decide +kernel) (by rw [c19]; decide +kernel) (by rw [c19]; decide +kernel) (by decide) ?_
      obtain ⟨r, σx2, σm2, hfx, hfm, hR2⟩ := hOK.2.2.2.2.2.2.2.2.2.1 σx σm hR (xs (x3 + 1).toNatClampNeg)
      refine lv_aload_n hx hb dL_law_439 rfl (lv_at hl 1 rfl) ?_
      refine lv_aload_n hx hb dL_law_440 rfl (lv_at hl 0 rfl) ?_
      refine lv_iload_n hx hb dL_law_441 rfl (lv_at hl 3 rfl) ?_
      refine lv_iconst (v := 1) hx hb dL_law_442 (by decide +kernel) ?_
      refine lv_iadd hx hb dL_law_443 ?_
      refine va_sld hx hb hX hbl hbA hS h_1 dL_law_444 ?_
      refine tf_law1 (As := [.int (xs (x3 + 1).toNatClampNeg)]) (rest := []) ⟨hx, hb, hml, hown, hts⟩ hK hN (tf_x_ad ax cI cZ) hP hD hS hA (kX_X6_reason l D ax cI cZ σx (xs (x3 + 1).toNatClampNeg) (r, σx2) hfx) (cwV 1 hts gL_law_X6_reason rfl rfl rfl (by decide +kernel) ⟨Nat.le_of_ble_eq_true rfl, Nat.le_of_ble_eq_true rfl⟩) 0 6 (tf_xat_0 ax cI cZ _) rfl rfl hl.1 rfl (Nat.le_of_ble_eq_true rfl) dL_law_445 ⟨Nat.le_of_ble_eq_true rfl, Nat.le_of_ble_eq_true rfl⟩ (fun H locs hP hD hS => ?_)
      refine lv_aload_n hx hb dL_law_448 rfl (lv_at hl 2 rfl) ?_
      refine lv_aload_n hx hb dL_law_449 rfl (lv_at hl 0 rfl) ?_
      refine lv_iload_n hx hb dL_law_450 rfl (lv_at hl 3 rfl) ?_
      refine lv_iconst (v := 1) hx hb dL_law_451 (by decide +kernel) ?_
      refine lv_iadd hx hb dL_law_452 ?_
      refine va_sld hx hb hX hbl hbA hS h_1 dL_law_453 ?_
      refine tf_law2 (As := [.int (xs (x3 + 1).toNatClampNeg)]) (rest := [.int r]) ⟨hx, hb, hml, hown, hts⟩ hK hN0 (tf_m_ad am cI cZ) hP hD hS hA (kM_X7_reason l D am cI cZ σm (xs (x3 + 1).toNatClampNeg) (r, σm2) hfm) (cwV 1 hts gL_law_X7_reason rfl rfl rfl (by decide +kernel) ⟨Nat.le_of_ble_eq_true rfl, Nat.le_of_ble_eq_true rfl⟩) 0 7 (tf_mat_0 am cI cZ _) rfl rfl hl.1 rfl (Nat.le_of_ble_eq_true rfl) dL_law_454 ⟨Nat.le_of_ble_eq_true rfl, Nat.le_of_ble_eq_true rfl⟩ (fun H locs hP hD hS => ?_)
      refine lv_icmp_eq (tgt := 696) hx hb dL_law_457 (by decide) (fun cq => ?_) (fun cq => absurd rfl cq)
      exact fin σx2 σm2 _ _ hR2 hP hD hS hl
    by_cases c20 : k = (10 : Int32)
    · refine lv_tableIn (tgt := 462) (off := 429) hx hb dL_law_33 (by rw [c20]; decide +kernel) (by rw [c20]; decide +kernel) (by rw [c20]; decide +kernel) (by decide) ?_
      obtain ⟨r, σx2, σm2, hfx, hfm, hR2⟩ := hOK.2.2.2.2.2.2.2.2.2.2.1 σx σm hR (xs (x3 + 1).toNatClampNeg)
      refine lv_aload_n hx hb dL_law_462 rfl (lv_at hl 1 rfl) ?_
      refine lv_aload_n hx hb dL_law_463 rfl (lv_at hl 0 rfl) ?_
      refine lv_iload_n hx hb dL_law_464 rfl (lv_at hl 3 rfl) ?_
      refine lv_iconst (v := 1) hx hb dL_law_465 (by decide +kernel) ?_
      refine lv_iadd hx hb dL_law_466 ?_
      refine va_sld hx hb hX hbl hbA hS h_1 dL_law_467 ?_
      refine tf_law1 (As := [.int (xs (x3 + 1).toNatClampNeg)]) (rest := []) ⟨hx, hb, hml, hown, hts⟩ hK hN (tf_x_ad ax cI cZ) hP hD hS hA (kX_X6_mayFail l D ax cI cZ σx (xs (x3 + 1).toNatClampNeg) (r, σx2) hfx) (cwV 1 hts gL_law_X6_mayFail rfl rfl rfl (by decide +kernel) ⟨Nat.le_of_ble_eq_true rfl, Nat.le_of_ble_eq_true rfl⟩) 0 6 (tf_xat_0 ax cI cZ _) rfl rfl hl.1 rfl (Nat.le_of_ble_eq_true rfl) dL_law_468 ⟨Nat.le_of_ble_eq_true rfl, Nat.le_of_ble_eq_true rfl⟩ (fun H locs hP hD hS => ?_)
      refine lv_aload_n hx hb dL_law_471 rfl (lv_at hl 2 rfl) ?_
      refine lv_aload_n hx hb dL_law_472 rfl (lv_at hl 0 rfl) ?_
      refine lv_iload_n hx hb dL_law_473 rfl (lv_at hl 3 rfl) ?_
      refine lv_iconst (v := 1) hx hb dL_law_474 (by decide +kernel) ?_
      refine lv_iadd hx hb dL_law_475 ?_
      refine va_sld hx hb hX hbl hbA hS h_1 dL_law_476 ?_
      refine tf_law2 (As := [.int (xs (x3 + 1).toNatClampNeg)]) (rest := [.int r]) ⟨hx, hb, hml, hown, hts⟩ hK hN0 (tf_m_ad am cI cZ) hP hD hS hA (kM_X7_mayFail l D am cI cZ σm (xs (x3 + 1).toNatClampNeg) (r, σm2) hfm) (cwV 1 hts gL_law_X7_mayFail rfl rfl rfl (by decide +kernel) ⟨Nat.le_of_ble_eq_true rfl, Nat.le_of_ble_eq_true rfl⟩) 0 7 (tf_mat_0 am cI cZ _) rfl rfl hl.1 rfl (Nat.le_of_ble_eq_true rfl) dL_law_477 ⟨Nat.le_of_ble_eq_true rfl, Nat.le_of_ble_eq_true rfl⟩ (fun H locs hP hD hS => ?_)
      refine lv_icmp_eq (tgt := 696) hx hb dL_law_480 (by decide) (fun cq => ?_) (fun cq => absurd rfl cq)
      exact fin σx2 σm2 _ _ hR2 hP hD hS hl
    by_cases c21 : k = (11 : Int32)
    · refine lv_tableIn (tgt := 485) (off := 452) hx hb dL_law_33 (by rw [c21]; decide +kernel) (by rw [c21]; decide +kernel) (by rw [c21]; decide +kernel) (by decide) ?_
      obtain ⟨r, σx2, σm2, hfx, hfm, hR2⟩ := hOK.2.2.2.2.2.2.2.2.2.2.2.1 σx σm hR (xs (x3 + 1).toNatClampNeg)
      refine lv_aload_n hx hb dL_law_485 rfl (lv_at hl 1 rfl) ?_
      refine lv_aload_n hx hb dL_law_486 rfl (lv_at hl 0 rfl) ?_
      refine lv_iload_n hx hb dL_law_487 rfl (lv_at hl 3 rfl) ?_
      refine lv_iconst (v := 1) hx hb dL_law_488 (by decide +kernel) ?_
      refine lv_iadd hx hb dL_law_489 ?_
      refine va_sld hx hb hX hbl hbA hS h_1 dL_law_490 ?_
      refine tf_law1 (As := [.int (xs (x3 + 1).toNatClampNeg)]) (rest := []) ⟨hx, hb, hml, hown, hts⟩ hK hN (tf_x_ad ax cI cZ) hP hD hS hA (kX_X6_cast l D ax cI cZ σx (xs (x3 + 1).toNatClampNeg) (r, σx2) hfx) (cwV 1 hts gL_law_X6_cast rfl rfl rfl (by decide +kernel) ⟨Nat.le_of_ble_eq_true rfl, Nat.le_of_ble_eq_true rfl⟩) 0 6 (tf_xat_0 ax cI cZ _) rfl rfl hl.1 rfl (Nat.le_of_ble_eq_true rfl) dL_law_491 ⟨Nat.le_of_ble_eq_true rfl, Nat.le_of_ble_eq_true rfl⟩ (fun H locs hP hD hS => ?_)
      refine lv_aload_n hx hb dL_law_494 rfl (lv_at hl 2 rfl) ?_
      refine lv_aload_n hx hb dL_law_495 rfl (lv_at hl 0 rfl) ?_
      refine lv_iload_n hx hb dL_law_496 rfl (lv_at hl 3 rfl) ?_
      refine lv_iconst (v := 1) hx hb dL_law_497 (by decide +kernel) ?_
      refine lv_iadd hx hb dL_law_498 ?_
      refine va_sld hx hb hX hbl hbA hS h_1 dL_law_499 ?_
      refine tf_law2 (As := [.int (xs (x3 + 1).toNatClampNeg)]) (rest := [.int r]) ⟨hx, hb, hml, hown, hts⟩ hK hN0 (tf_m_ad am cI cZ) hP hD hS hA (kM_X7_cast l D am cI cZ σm (xs (x3 + 1).toNatClampNeg) (r, σm2) hfm) (cwV 1 hts gL_law_X7_cast rfl rfl rfl (by decide +kernel) ⟨Nat.le_of_ble_eq_true rfl, Nat.le_of_ble_eq_true rfl⟩) 0 7 (tf_mat_0 am cI cZ _) rfl rfl hl.1 rfl (Nat.le_of_ble_eq_true rfl) dL_law_500 ⟨Nat.le_of_ble_eq_true rfl, Nat.le_of_ble_eq_true rfl⟩ (fun H locs hP hD hS => ?_)
      refine lv_icmp_eq (tgt := 696) hx hb dL_law_503 (by decide) (fun cq => ?_) (fun cq => absurd rfl cq)
      exact fin σx2 σm2 _ _ hR2 hP hD hS hl
    by_cases c22 : k = (12 : Int32)
    · refine lv_tableIn (tgt := 508) (off := 475) hx hb dL_law_33 (by rw [c22]; decide +kernel) (by rw [c22]; decide +kernel) (by rw [c22]; decide +kernel) (by decide) ?_
      obtain ⟨r, σx2, σm2, hfx, hfm, hR2⟩ := hOK.2.2.2.2.2.2.2.2.2.2.2.2.1 σx σm hR (xs (x3 + 1).toNatClampNeg) (xs (x3 + 2).toNatClampNeg)
      refine lv_aload_n hx hb dL_law_508 rfl (lv_at hl 1 rfl) ?_
      refine lv_aload_n hx hb dL_law_509 rfl (lv_at hl 0 rfl) ?_
      refine lv_iload_n hx hb dL_law_510 rfl (lv_at hl 3 rfl) ?_
      refine lv_iconst (v := 1) hx hb dL_law_511 (by decide +kernel) ?_
      refine lv_iadd hx hb dL_law_512 ?_
      refine va_sld hx hb hX hbl hbA hS h_1 dL_law_513 ?_
      refine lv_aload_n hx hb dL_law_514 rfl (lv_at hl 0 rfl) ?_
      refine lv_iload_n hx hb dL_law_515 rfl (lv_at hl 3 rfl) ?_
      refine lv_iconst (v := 2) hx hb dL_law_516 (by decide +kernel) ?_
      refine lv_iadd hx hb dL_law_517 ?_
      refine va_sld hx hb hX hbl hbA hS h_2 dL_law_518 ?_
      refine tf_law1 (As := [.int (xs (x3 + 1).toNatClampNeg), .int (xs (x3 + 2).toNatClampNeg)]) (rest := []) ⟨hx, hb, hml, hown, hts⟩ hK hN (tf_x_ad ax cI cZ) hP hD hS hA (kX_X6_boundTo l D ax cI cZ σx (xs (x3 + 1).toNatClampNeg) (xs (x3 + 2).toNatClampNeg) (r, σx2) hfx) (cwV 2 hts gL_law_X6_boundTo rfl rfl rfl (by decide +kernel) ⟨Nat.le_of_ble_eq_true rfl, Nat.le_of_ble_eq_true rfl⟩) 0 6 (tf_xat_0 ax cI cZ _) rfl rfl hl.1 rfl (Nat.le_of_ble_eq_true rfl) dL_law_519 ⟨Nat.le_of_ble_eq_true rfl, Nat.le_of_ble_eq_true rfl⟩ (fun H locs hP hD hS => ?_)
      refine lv_aload_n hx hb dL_law_522 rfl (lv_at hl 2 rfl) ?_
      refine lv_aload_n hx hb dL_law_523 rfl (lv_at hl 0 rfl) ?_
      refine lv_iload_n hx hb dL_law_524 rfl (lv_at hl 3 rfl) ?_
      refine lv_iconst (v := 1) hx hb dL_law_525 (by decide +kernel) ?_
      refine lv_iadd hx hb dL_law_526 ?_
      refine va_sld hx hb hX hbl hbA hS h_1 dL_law_527 ?_
      refine lv_aload_n hx hb dL_law_528 rfl (lv_at hl 0 rfl) ?_
      refine lv_iload_n hx hb dL_law_529 rfl (lv_at hl 3 rfl) ?_
      refine lv_iconst (v := 2) hx hb dL_law_530 (by decide +kernel) ?_
      refine lv_iadd hx hb dL_law_531 ?_
      refine va_sld hx hb hX hbl hbA hS h_2 dL_law_532 ?_
      refine tf_law2 (As := [.int (xs (x3 + 1).toNatClampNeg), .int (xs (x3 + 2).toNatClampNeg)]) (rest := [.int r]) ⟨hx, hb, hml, hown, hts⟩ hK hN0 (tf_m_ad am cI cZ) hP hD hS hA (kM_X7_boundTo l D am cI cZ σm (xs (x3 + 1).toNatClampNeg) (xs (x3 + 2).toNatClampNeg) (r, σm2) hfm) (cwV 2 hts gL_law_X7_boundTo rfl rfl rfl (by decide +kernel) ⟨Nat.le_of_ble_eq_true rfl, Nat.le_of_ble_eq_true rfl⟩) 0 7 (tf_mat_0 am cI cZ _) rfl rfl hl.1 rfl (Nat.le_of_ble_eq_true rfl) dL_law_533 ⟨Nat.le_of_ble_eq_true rfl, Nat.le_of_ble_eq_true rfl⟩ (fun H locs hP hD hS => ?_)
      refine lv_icmp_eq (tgt := 696) hx hb dL_law_536 (by decide) (fun cq => ?_) (fun cq => absurd rfl cq)
      exact fin σx2 σm2 _ _ hR2 hP hD hS hl
    by_cases c23 : k = (13 : Int32)
    · refine lv_tableIn (tgt := 541) (off := 508) hx hb dL_law_33 (by rw [c23]; decide +kernel) (by rw [c23]; decide +kernel) (by rw [c23]; decide +kernel) (by decide) ?_
      obtain ⟨r, σx2, σm2, hfx, hfm, hR2⟩ := hOK.2.2.2.2.2.2.2.2.2.2.2.2.2.1 σx σm hR (xs (x3 + 1).toNatClampNeg) (xs (x3 + 2).toNatClampNeg)
      refine lv_aload_n hx hb dL_law_541 rfl (lv_at hl 1 rfl) ?_
      refine lv_aload_n hx hb dL_law_542 rfl (lv_at hl 0 rfl) ?_
      refine lv_iload_n hx hb dL_law_543 rfl (lv_at hl 3 rfl) ?_
      refine lv_iconst (v := 1) hx hb dL_law_544 (by decide +kernel) ?_
      refine lv_iadd hx hb dL_law_545 ?_
      refine va_sld hx hb hX hbl hbA hS h_1 dL_law_546 ?_
      refine lv_aload_n hx hb dL_law_547 rfl (lv_at hl 0 rfl) ?_
      refine lv_iload_n hx hb dL_law_548 rfl (lv_at hl 3 rfl) ?_
      refine lv_iconst (v := 2) hx hb dL_law_549 (by decide +kernel) ?_
      refine lv_iadd hx hb dL_law_550 ?_
      refine va_sld hx hb hX hbl hbA hS h_2 dL_law_551 ?_
      refine tf_law1 (As := [.int (xs (x3 + 1).toNatClampNeg), .int (xs (x3 + 2).toNatClampNeg)]) (rest := []) ⟨hx, hb, hml, hown, hts⟩ hK hN (tf_x_ad ax cI cZ) hP hD hS hA (kX_X6_goes l D ax cI cZ σx (xs (x3 + 1).toNatClampNeg) (xs (x3 + 2).toNatClampNeg) (r, σx2) hfx) (cwV 2 hts gL_law_X6_goes rfl rfl rfl (by decide +kernel) ⟨Nat.le_of_ble_eq_true rfl, Nat.le_of_ble_eq_true rfl⟩) 0 6 (tf_xat_0 ax cI cZ _) rfl rfl hl.1 rfl (Nat.le_of_ble_eq_true rfl) dL_law_552 ⟨Nat.le_of_ble_eq_true rfl, Nat.le_of_ble_eq_true rfl⟩ (fun H locs hP hD hS => ?_)
      refine lv_aload_n hx hb dL_law_555 rfl (lv_at hl 2 rfl) ?_
      refine lv_aload_n hx hb dL_law_556 rfl (lv_at hl 0 rfl) ?_
      refine lv_iload_n hx hb dL_law_557 rfl (lv_at hl 3 rfl) ?_
      refine lv_iconst (v := 1) hx hb dL_law_558 (by decide +kernel) ?_
      refine lv_iadd hx hb dL_law_559 ?_
      refine va_sld hx hb hX hbl hbA hS h_1 dL_law_560 ?_
      refine lv_aload_n hx hb dL_law_561 rfl (lv_at hl 0 rfl) ?_
      refine lv_iload_n hx hb dL_law_562 rfl (lv_at hl 3 rfl) ?_
      refine lv_iconst (v := 2) hx hb dL_law_563 (by decide +kernel) ?_
      refine lv_iadd hx hb dL_law_564 ?_
      refine va_sld hx hb hX hbl hbA hS h_2 dL_law_565 ?_
      refine tf_law2 (As := [.int (xs (x3 + 1).toNatClampNeg), .int (xs (x3 + 2).toNatClampNeg)]) (rest := [.int r]) ⟨hx, hb, hml, hown, hts⟩ hK hN0 (tf_m_ad am cI cZ) hP hD hS hA (kM_X7_goes l D am cI cZ σm (xs (x3 + 1).toNatClampNeg) (xs (x3 + 2).toNatClampNeg) (r, σm2) hfm) (cwV 2 hts gL_law_X7_goes rfl rfl rfl (by decide +kernel) ⟨Nat.le_of_ble_eq_true rfl, Nat.le_of_ble_eq_true rfl⟩) 0 7 (tf_mat_0 am cI cZ _) rfl rfl hl.1 rfl (Nat.le_of_ble_eq_true rfl) dL_law_566 ⟨Nat.le_of_ble_eq_true rfl, Nat.le_of_ble_eq_true rfl⟩ (fun H locs hP hD hS => ?_)
      refine lv_icmp_eq (tgt := 696) hx hb dL_law_569 (by decide) (fun cq => ?_) (fun cq => absurd rfl cq)
      exact fin σx2 σm2 _ _ hR2 hP hD hS hl
    by_cases c24 : k = (14 : Int32)
    · refine lv_tableIn (tgt := 574) (off := 541) hx hb dL_law_33 (by rw [c24]; decide +kernel) (by rw [c24]; decide +kernel) (by rw [c24]; decide +kernel) (by decide) ?_
      obtain ⟨r, σx2, σm2, hfx, hfm, hR2⟩ := hOK.2.2.2.2.2.2.2.2.2.2.2.2.2.2.1 σx σm hR (xs (x3 + 1).toNatClampNeg) (xs (x3 + 2).toNatClampNeg)
      refine lv_aload_n hx hb dL_law_574 rfl (lv_at hl 1 rfl) ?_
      refine lv_aload_n hx hb dL_law_575 rfl (lv_at hl 0 rfl) ?_
      refine lv_iload_n hx hb dL_law_576 rfl (lv_at hl 3 rfl) ?_
      refine lv_iconst (v := 1) hx hb dL_law_577 (by decide +kernel) ?_
      refine lv_iadd hx hb dL_law_578 ?_
      refine va_sld hx hb hX hbl hbA hS h_1 dL_law_579 ?_
      refine lv_aload_n hx hb dL_law_580 rfl (lv_at hl 0 rfl) ?_
      refine lv_iload_n hx hb dL_law_581 rfl (lv_at hl 3 rfl) ?_
      refine lv_iconst (v := 2) hx hb dL_law_582 (by decide +kernel) ?_
      refine lv_iadd hx hb dL_law_583 ?_
      refine va_sld hx hb hX hbl hbA hS h_2 dL_law_584 ?_
      refine tf_law1 (As := [.int (xs (x3 + 1).toNatClampNeg), .int (xs (x3 + 2).toNatClampNeg)]) (rest := []) ⟨hx, hb, hml, hown, hts⟩ hK hN (tf_x_ad ax cI cZ) hP hD hS hA (kX_X6_common l D ax cI cZ σx (xs (x3 + 1).toNatClampNeg) (xs (x3 + 2).toNatClampNeg) (r, σx2) hfx) (cwV 2 hts gL_law_X6_common rfl rfl rfl (by decide +kernel) ⟨Nat.le_of_ble_eq_true rfl, Nat.le_of_ble_eq_true rfl⟩) 0 6 (tf_xat_0 ax cI cZ _) rfl rfl hl.1 rfl (Nat.le_of_ble_eq_true rfl) dL_law_585 ⟨Nat.le_of_ble_eq_true rfl, Nat.le_of_ble_eq_true rfl⟩ (fun H locs hP hD hS => ?_)
      refine lv_aload_n hx hb dL_law_588 rfl (lv_at hl 2 rfl) ?_
      refine lv_aload_n hx hb dL_law_589 rfl (lv_at hl 0 rfl) ?_
      refine lv_iload_n hx hb dL_law_590 rfl (lv_at hl 3 rfl) ?_
      refine lv_iconst (v := 1) hx hb dL_law_591 (by decide +kernel) ?_
      refine lv_iadd hx hb dL_law_592 ?_
      refine va_sld hx hb hX hbl hbA hS h_1 dL_law_593 ?_
      refine lv_aload_n hx hb dL_law_594 rfl (lv_at hl 0 rfl) ?_
      refine lv_iload_n hx hb dL_law_595 rfl (lv_at hl 3 rfl) ?_
      refine lv_iconst (v := 2) hx hb dL_law_596 (by decide +kernel) ?_
      refine lv_iadd hx hb dL_law_597 ?_
      refine va_sld hx hb hX hbl hbA hS h_2 dL_law_598 ?_
      refine tf_law2 (As := [.int (xs (x3 + 1).toNatClampNeg), .int (xs (x3 + 2).toNatClampNeg)]) (rest := [.int r]) ⟨hx, hb, hml, hown, hts⟩ hK hN0 (tf_m_ad am cI cZ) hP hD hS hA (kM_X7_common l D am cI cZ σm (xs (x3 + 1).toNatClampNeg) (xs (x3 + 2).toNatClampNeg) (r, σm2) hfm) (cwV 2 hts gL_law_X7_common rfl rfl rfl (by decide +kernel) ⟨Nat.le_of_ble_eq_true rfl, Nat.le_of_ble_eq_true rfl⟩) 0 7 (tf_mat_0 am cI cZ _) rfl rfl hl.1 rfl (Nat.le_of_ble_eq_true rfl) dL_law_599 ⟨Nat.le_of_ble_eq_true rfl, Nat.le_of_ble_eq_true rfl⟩ (fun H locs hP hD hS => ?_)
      refine lv_icmp_eq (tgt := 696) hx hb dL_law_602 (by decide) (fun cq => ?_) (fun cq => absurd rfl cq)
      exact fin σx2 σm2 _ _ hR2 hP hD hS hl
    by_cases c25 : k = (15 : Int32)
    · refine lv_tableIn (tgt := 607) (off := 574) hx hb dL_law_33 (by rw [c25]; decide +kernel) (by rw [c25]; decide +kernel) (by rw [c25]; decide +kernel) (by decide) ?_
      obtain ⟨r, σx2, σm2, hfx, hfm, hR2⟩ := hOK.2.2.2.2.2.2.2.2.2.2.2.2.2.2.2.1 σx σm hR (xs (x3 + 1).toNatClampNeg) (xs (x3 + 2).toNatClampNeg)
      refine lv_aload_n hx hb dL_law_607 rfl (lv_at hl 1 rfl) ?_
      refine lv_aload_n hx hb dL_law_608 rfl (lv_at hl 0 rfl) ?_
      refine lv_iload_n hx hb dL_law_609 rfl (lv_at hl 3 rfl) ?_
      refine lv_iconst (v := 1) hx hb dL_law_610 (by decide +kernel) ?_
      refine lv_iadd hx hb dL_law_611 ?_
      refine va_sld hx hb hX hbl hbA hS h_1 dL_law_612 ?_
      refine lv_aload_n hx hb dL_law_613 rfl (lv_at hl 0 rfl) ?_
      refine lv_iload_n hx hb dL_law_614 rfl (lv_at hl 3 rfl) ?_
      refine lv_iconst (v := 2) hx hb dL_law_615 (by decide +kernel) ?_
      refine lv_iadd hx hb dL_law_616 ?_
      refine va_sld hx hb hX hbl hbA hS h_2 dL_law_617 ?_
      refine tf_law1 (As := [.int (xs (x3 + 1).toNatClampNeg), .int (xs (x3 + 2).toNatClampNeg)]) (rest := []) ⟨hx, hb, hml, hown, hts⟩ hK hN (tf_x_ad ax cI cZ) hP hD hS hA (kX_X6_seen l D ax cI cZ σx (xs (x3 + 1).toNatClampNeg) (xs (x3 + 2).toNatClampNeg) (r, σx2) hfx) (cwV 2 hts gL_law_X6_seen rfl rfl rfl (by decide +kernel) ⟨Nat.le_of_ble_eq_true rfl, Nat.le_of_ble_eq_true rfl⟩) 0 6 (tf_xat_0 ax cI cZ _) rfl rfl hl.1 rfl (Nat.le_of_ble_eq_true rfl) dL_law_618 ⟨Nat.le_of_ble_eq_true rfl, Nat.le_of_ble_eq_true rfl⟩ (fun H locs hP hD hS => ?_)
      refine lv_aload_n hx hb dL_law_621 rfl (lv_at hl 2 rfl) ?_
      refine lv_aload_n hx hb dL_law_622 rfl (lv_at hl 0 rfl) ?_
      refine lv_iload_n hx hb dL_law_623 rfl (lv_at hl 3 rfl) ?_
      refine lv_iconst (v := 1) hx hb dL_law_624 (by decide +kernel) ?_
      refine lv_iadd hx hb dL_law_625 ?_
      refine va_sld hx hb hX hbl hbA hS h_1 dL_law_626 ?_
      refine lv_aload_n hx hb dL_law_627 rfl (lv_at hl 0 rfl) ?_
      refine lv_iload_n hx hb dL_law_628 rfl (lv_at hl 3 rfl) ?_
      refine lv_iconst (v := 2) hx hb dL_law_629 (by decide +kernel) ?_
      refine lv_iadd hx hb dL_law_630 ?_
      refine va_sld hx hb hX hbl hbA hS h_2 dL_law_631 ?_
      refine tf_law2 (As := [.int (xs (x3 + 1).toNatClampNeg), .int (xs (x3 + 2).toNatClampNeg)]) (rest := [.int r]) ⟨hx, hb, hml, hown, hts⟩ hK hN0 (tf_m_ad am cI cZ) hP hD hS hA (kM_X7_seen l D am cI cZ σm (xs (x3 + 1).toNatClampNeg) (xs (x3 + 2).toNatClampNeg) (r, σm2) hfm) (cwV 2 hts gL_law_X7_seen rfl rfl rfl (by decide +kernel) ⟨Nat.le_of_ble_eq_true rfl, Nat.le_of_ble_eq_true rfl⟩) 0 7 (tf_mat_0 am cI cZ _) rfl rfl hl.1 rfl (Nat.le_of_ble_eq_true rfl) dL_law_632 ⟨Nat.le_of_ble_eq_true rfl, Nat.le_of_ble_eq_true rfl⟩ (fun H locs hP hD hS => ?_)
      refine lv_icmp_eq (tgt := 696) hx hb dL_law_635 (by decide) (fun cq => ?_) (fun cq => absurd rfl cq)
      exact fin σx2 σm2 _ _ hR2 hP hD hS hl
    by_cases c26 : k = (16 : Int32)
    · refine lv_tableIn (tgt := 640) (off := 607) hx hb dL_law_33 (by rw [c26]; decide +kernel) (by rw [c26]; decide +kernel) (by rw [c26]; decide +kernel) (by decide) ?_
      obtain ⟨r, σx2, σm2, hfx, hfm, hR2⟩ := hOK.2.2.2.2.2.2.2.2.2.2.2.2.2.2.2.2.1 σx σm hR (xs (x3 + 1).toNatClampNeg) (xs (x3 + 2).toNatClampNeg)
      refine lv_aload_n hx hb dL_law_640 rfl (lv_at hl 1 rfl) ?_
      refine lv_aload_n hx hb dL_law_641 rfl (lv_at hl 0 rfl) ?_
      refine lv_iload_n hx hb dL_law_642 rfl (lv_at hl 3 rfl) ?_
      refine lv_iconst (v := 1) hx hb dL_law_643 (by decide +kernel) ?_
      refine lv_iadd hx hb dL_law_644 ?_
      refine va_sld hx hb hX hbl hbA hS h_1 dL_law_645 ?_
      refine lv_aload_n hx hb dL_law_646 rfl (lv_at hl 0 rfl) ?_
      refine lv_iload_n hx hb dL_law_647 rfl (lv_at hl 3 rfl) ?_
      refine lv_iconst (v := 2) hx hb dL_law_648 (by decide +kernel) ?_
      refine lv_iadd hx hb dL_law_649 ?_
      refine va_sld hx hb hX hbl hbA hS h_2 dL_law_650 ?_
      refine tf_law1 (As := [.int (xs (x3 + 1).toNatClampNeg), .int (xs (x3 + 2).toNatClampNeg)]) (rest := []) ⟨hx, hb, hml, hown, hts⟩ hK hN (tf_x_ad ax cI cZ) hP hD hS hA (kX_X6_about l D ax cI cZ σx (xs (x3 + 1).toNatClampNeg) (xs (x3 + 2).toNatClampNeg) (r, σx2) hfx) (cwV 2 hts gL_law_X6_about rfl rfl rfl (by decide +kernel) ⟨Nat.le_of_ble_eq_true rfl, Nat.le_of_ble_eq_true rfl⟩) 0 6 (tf_xat_0 ax cI cZ _) rfl rfl hl.1 rfl (Nat.le_of_ble_eq_true rfl) dL_law_651 ⟨Nat.le_of_ble_eq_true rfl, Nat.le_of_ble_eq_true rfl⟩ (fun H locs hP hD hS => ?_)
      refine lv_aload_n hx hb dL_law_654 rfl (lv_at hl 2 rfl) ?_
      refine lv_aload_n hx hb dL_law_655 rfl (lv_at hl 0 rfl) ?_
      refine lv_iload_n hx hb dL_law_656 rfl (lv_at hl 3 rfl) ?_
      refine lv_iconst (v := 1) hx hb dL_law_657 (by decide +kernel) ?_
      refine lv_iadd hx hb dL_law_658 ?_
      refine va_sld hx hb hX hbl hbA hS h_1 dL_law_659 ?_
      refine lv_aload_n hx hb dL_law_660 rfl (lv_at hl 0 rfl) ?_
      refine lv_iload_n hx hb dL_law_661 rfl (lv_at hl 3 rfl) ?_
      refine lv_iconst (v := 2) hx hb dL_law_662 (by decide +kernel) ?_
      refine lv_iadd hx hb dL_law_663 ?_
      refine va_sld hx hb hX hbl hbA hS h_2 dL_law_664 ?_
      refine tf_law2 (As := [.int (xs (x3 + 1).toNatClampNeg), .int (xs (x3 + 2).toNatClampNeg)]) (rest := [.int r]) ⟨hx, hb, hml, hown, hts⟩ hK hN0 (tf_m_ad am cI cZ) hP hD hS hA (kM_X7_about l D am cI cZ σm (xs (x3 + 1).toNatClampNeg) (xs (x3 + 2).toNatClampNeg) (r, σm2) hfm) (cwV 2 hts gL_law_X7_about rfl rfl rfl (by decide +kernel) ⟨Nat.le_of_ble_eq_true rfl, Nat.le_of_ble_eq_true rfl⟩) 0 7 (tf_mat_0 am cI cZ _) rfl rfl hl.1 rfl (Nat.le_of_ble_eq_true rfl) dL_law_665 ⟨Nat.le_of_ble_eq_true rfl, Nat.le_of_ble_eq_true rfl⟩ (fun H locs hP hD hS => ?_)
      refine lv_icmp_eq (tgt := 696) hx hb dL_law_668 (by decide) (fun cq => ?_) (fun cq => absurd rfl cq)
      exact fin σx2 σm2 _ _ hR2 hP hD hS hl
    by_cases c27 : k = (17 : Int32)
    · refine lv_tableIn (tgt := 673) (off := 640) hx hb dL_law_33 (by rw [c27]; decide +kernel) (by rw [c27]; decide +kernel) (by rw [c27]; decide +kernel) (by decide) ?_
      obtain ⟨r, σx2, σm2, hfx, hfm, hR2⟩ := hOK.2.2.2.2.2.2.2.2.2.2.2.2.2.2.2.2.2 σx σm hR (xs (x3 + 1).toNatClampNeg)
      refine lv_aload_n hx hb dL_law_673 rfl (lv_at hl 1 rfl) ?_
      refine lv_aload_n hx hb dL_law_674 rfl (lv_at hl 0 rfl) ?_
      refine lv_iload_n hx hb dL_law_675 rfl (lv_at hl 3 rfl) ?_
      refine lv_iconst (v := 1) hx hb dL_law_676 (by decide +kernel) ?_
      refine lv_iadd hx hb dL_law_677 ?_
      refine va_sld hx hb hX hbl hbA hS h_1 dL_law_678 ?_
      refine tf_law1 (As := [.int (xs (x3 + 1).toNatClampNeg)]) (rest := []) ⟨hx, hb, hml, hown, hts⟩ hK hN (tf_x_ad ax cI cZ) hP hD hS hA (kX_X6_count l D ax cI cZ σx (xs (x3 + 1).toNatClampNeg) (r, σx2) hfx) (cwV 1 hts gL_law_X6_count rfl rfl rfl (by decide +kernel) ⟨Nat.le_of_ble_eq_true rfl, Nat.le_of_ble_eq_true rfl⟩) 0 6 (tf_xat_0 ax cI cZ _) rfl rfl hl.1 rfl (Nat.le_of_ble_eq_true rfl) dL_law_679 ⟨Nat.le_of_ble_eq_true rfl, Nat.le_of_ble_eq_true rfl⟩ (fun H locs hP hD hS => ?_)
      refine lv_aload_n hx hb dL_law_682 rfl (lv_at hl 2 rfl) ?_
      refine lv_aload_n hx hb dL_law_683 rfl (lv_at hl 0 rfl) ?_
      refine lv_iload_n hx hb dL_law_684 rfl (lv_at hl 3 rfl) ?_
      refine lv_iconst (v := 1) hx hb dL_law_685 (by decide +kernel) ?_
      refine lv_iadd hx hb dL_law_686 ?_
      refine va_sld hx hb hX hbl hbA hS h_1 dL_law_687 ?_
      refine tf_law2 (As := [.int (xs (x3 + 1).toNatClampNeg)]) (rest := [.int r]) ⟨hx, hb, hml, hown, hts⟩ hK hN0 (tf_m_ad am cI cZ) hP hD hS hA (kM_X7_count l D am cI cZ σm (xs (x3 + 1).toNatClampNeg) (r, σm2) hfm) (cwV 1 hts gL_law_X7_count rfl rfl rfl (by decide +kernel) ⟨Nat.le_of_ble_eq_true rfl, Nat.le_of_ble_eq_true rfl⟩) 0 7 (tf_mat_0 am cI cZ _) rfl rfl hl.1 rfl (Nat.le_of_ble_eq_true rfl) dL_law_688 ⟨Nat.le_of_ble_eq_true rfl, Nat.le_of_ble_eq_true rfl⟩ (fun H locs hP hD hS => ?_)
      refine lv_icmp_eq (tgt := 696) hx hb dL_law_691 (by decide) (fun cq => ?_) (fun cq => absurd rfl cq)
      exact fin σx2 σm2 _ _ hR2 hP hD hS hl
    refine lv_tableOut (tgt := 696) hx hb dL_law_33 (by have ac10 := lv_neT c10 (a := 0) (by decide +kernel); have ac11 := lv_neT c11 (a := 1) (by decide +kernel); have ac12 := lv_neT c12 (a := 2) (by decide +kernel); have ac13 := lv_neT c13 (a := 3) (by decide +kernel); have ac14 := lv_neT c14 (a := 4) (by decide +kernel); have ac15 := lv_neT c15 (a := 5) (by decide +kernel); have ac16 := lv_neT c16 (a := 6) (by decide +kernel); have ac17 := lv_neT c17 (a := 7) (by decide +kernel); have ac18 := lv_neT c18 (a := 8) (by decide +kernel); have ac19 := lv_neT c19 (a := 9) (by decide +kernel); have ac20 := lv_neT c20 (a := 10) (by decide +kernel); have ac21 := lv_neT c21 (a := 11) (by decide +kernel); have ac22 := lv_neT c22 (a := 12) (by decide +kernel); have ac23 := lv_neT c23 (a := 13) (by decide +kernel); have ac24 := lv_neT c24 (a := 14) (by decide +kernel); have ac25 := lv_neT c25 (a := 15) (by decide +kernel); have ac26 := lv_neT c26 (a := 16) (by decide +kernel); have ac27 := lv_neT c27 (a := 17) (by decide +kernel); omega) (by decide) ?_
    exact fin σx σm _ _ hR hP hD hS hl
