set_option maxHeartbeats 4000000 in
set_option maxRecDepth 100000 in
theorem kM_X7_isIn (l : Launch) (D : va_G) (ad : Nat → Nat) (cI cZ : ClassId) (σ : tf_S) (x0 x1 x2 : Int32) (z : Int32 × tf_S) (h : fX7_isIn σ x0 x1 x2 = some z) : tf_C l D (tf_wm ad cI cZ) [(cI, .int), (cZ, .boolean)] [] yX7_isIn wsX7_isIn ({ frames := 0, cells := 0, slots := 0, locals := 0 }) [.int x0, .int x1, .int x2] σ z := by
  intro sz
  refine Met.ofW (cc := cX7_isIn) (maxL := 3) (ret := (some .boolean)) (by decide) rfl ?_
  intro p e s m args below meth c s₁ B hml hv
  obtain ⟨rfl, hsz, hP, hK, hN, hD0⟩ := hv
  have hx := B.exec
  have hb := B.bytes
  have hr := B.returns
  have hts := atoms_spec (ws := wsX7_isIn) B.pre
  have hown : s.vm.findClass RX7 = some m.cls := findClass_of_methodNamed B.named
  have hlocks := B.notSynchronized
  subst hsz
  have hI := tf_start (D := D) (tf_m_ad ad cI cZ) hP hD0
  have hl := lv_entry ([.int x0, .int x1, .int x2]) (n := 3) (Nat.le_of_ble_eq_true rfl)
  rw [lg_entry_eq]
  generalize (lg_sl ([.int x0, .int x1, .int x2]) ++ List.replicate (3 - (lg_sl ([.int x0, .int x1, .int x2])).length) Slot.unset).toArray = ls at hl ⊢
  have hl : lv_has ls 3 [(0, .int x0), (1, .int x1), (2, .int x2)] := hl
  unfold fX7_isIn at h
  refine lv_iload_n hx hb dX7_isIn_0 rfl (lv_at hl 0 rfl) ?_
  refine lv_iload_n hx hb dX7_isIn_1 rfl (lv_at hl 1 rfl) ?_
  refine lv_icmp_lt (tgt := 14) hx hb dX7_isIn_2 (by decide) (fun c1 => ?_) (fun c1 => ?_)
  · replace h := tf_pos c1 h
    refine lv_iconst (v := 0) hx hb dX7_isIn_14 (by decide +kernel) ?_
    exact tf_zret hx hb hr (Or.inl rfl) hI h dX7_isIn_15 hlocks
  replace h := tf_neg c1 h
  refine lv_iload_n hx hb dX7_isIn_5 rfl (lv_at hl 0 rfl) ?_
  refine lv_iload_n hx hb dX7_isIn_6 rfl (lv_at hl 2 rfl) ?_
  refine lv_icmp_gt (tgt := 14) hx hb dX7_isIn_7 (by decide) (fun c2 => ?_) (fun c2 => ?_)
  · replace h := tf_pos c2 h
    refine lv_iconst (v := 0) hx hb dX7_isIn_14 (by decide +kernel) ?_
    exact tf_zret hx hb hr (Or.inl rfl) hI h dX7_isIn_15 hlocks
  replace h := tf_neg c2 h
  refine lv_iconst (v := 1) hx hb dX7_isIn_10 (by decide +kernel) ?_
  refine lv_goto (tgt := 15) hx hb dX7_isIn_11 (by decide) ?_
  exact tf_zret hx hb hr (Or.inr rfl) hI h dX7_isIn_15 hlocks

set_option maxHeartbeats 4000000 in
set_option maxRecDepth 100000 in
theorem kM_X7_isClass (l : Launch) (D : va_G) (ad : Nat → Nat) (cI cZ : ClassId) (σ : tf_S) (x1 : Int32) (z : Int32 × tf_S) (h : fX7_isClass σ x1 = some z) : tf_C l D (tf_wm ad cI cZ) [(cI, .int), (cZ, .boolean)] [] yX7_isClass wsX7_isClass ({ frames := 1, cells := 0, slots := 0, locals := 22 }) [.ref (ad 0), .int x1] σ z := by
  intro sz
  refine Met.ofW (cc := cX7_isClass) (maxL := 2) (ret := (some .boolean)) (by decide) rfl ?_
  intro p e s m args below meth c s₁ B hml hv
  obtain ⟨rfl, hsz, hP, hK, hN, hD0⟩ := hv
  have hx := B.exec
  have hb := B.bytes
  have hr := B.returns
  have hts := atoms_spec (ws := wsX7_isClass) B.pre
  have hown : s.vm.findClass RX7 = some m.cls := findClass_of_methodNamed B.named
  have hlocks := B.notSynchronized
  subst hsz
  have hI := tf_start (D := D) (tf_m_ad ad cI cZ) hP hD0
  have hl := lv_entry ([.ref (ad 0), .int x1]) (n := 2) (Nat.le_of_ble_eq_true rfl)
  rw [lg_entry_eq]
  generalize (lg_sl ([.ref (ad 0), .int x1]) ++ List.replicate (2 - (lg_sl ([.ref (ad 0), .int x1])).length) Slot.unset).toArray = ls at hl ⊢
  have hl : lv_has ls 2 [(0, .ref (ad 0)), (1, .int x1)] := hl
  have hn_X7 : ∀ w ∈ u_ws RX7 TX7 35, w ∈ wsX7_isClass := by decide +kernel
  have hf_7 := hts (.fieldLink RX7 7 "TypeFlowModel" "classes" "I") (by decide +kernel)
  unfold fX7_isClass at h
  refine lv_iload_n hx hb dX7_isClass_0 rfl (lv_at hl 1 rfl) ?_
  refine lv_iconst (v := 0) hx hb dX7_isClass_1 (by decide +kernel) ?_
  refine lv_aload_n hx hb dX7_isClass_2 rfl (lv_at hl 0 rfl) ?_
  refine tf_get (C := RX7) (T := TX7) (N := 35) hx hb hts hn_X7 hown hK hI 0 (tf_mat_0 ad cI cZ _) rfl 0 (by decide) hf_7 rfl rfl dX7_isClass_3 ?_
  refine lv_iconst (v := 1) hx hb dX7_isClass_6 (by decide +kernel) ?_
  refine lv_isub hx hb dX7_isClass_7 ?_
  obtain ⟨u1, q2, h⟩ := tf_gbind h
  refine tf_callS (rest := []) ⟨hx, hb, hml, hown, hts⟩ hK hN hI (kM_X7_isIn l D ad cI cZ _ _ _ _ _ q2) (va_cwS 3 hts gX7_isClass_X7_isIn rfl rfl rfl (by decide +kernel) ⟨Nat.le_of_ble_eq_true rfl, Nat.le_of_ble_eq_true rfl⟩) rfl hl.1 rfl (Nat.le_of_ble_eq_true rfl) dX7_isClass_8 (fun H locs hI => ?_)
  obtain ⟨b3, h⟩ := tf_gbz h
  exact tf_zret hx hb hr b3 hI h dX7_isClass_11 hlocks

set_option maxHeartbeats 4000000 in
set_option maxRecDepth 100000 in
theorem kM_X7_isType (l : Launch) (D : va_G) (ad : Nat → Nat) (cI cZ : ClassId) (σ : tf_S) (x1 : Int32) (z : Int32 × tf_S) (h : fX7_isType σ x1 = some z) : tf_C l D (tf_wm ad cI cZ) [(cI, .int), (cZ, .boolean)] [] yX7_isType wsX7_isType ({ frames := 1, cells := 0, slots := 0, locals := 22 }) [.ref (ad 0), .int x1] σ z := by
  intro sz
  refine Met.ofW (cc := cX7_isType) (maxL := 2) (ret := (some .boolean)) (by decide) rfl ?_
  intro p e s m args below meth c s₁ B hml hv
  obtain ⟨rfl, hsz, hP, hK, hN, hD0⟩ := hv
  have hx := B.exec
  have hb := B.bytes
  have hr := B.returns
  have hts := atoms_spec (ws := wsX7_isType) B.pre
  have hown : s.vm.findClass RX7 = some m.cls := findClass_of_methodNamed B.named
  have hlocks := B.notSynchronized
  subst hsz
  have hI := tf_start (D := D) (tf_m_ad ad cI cZ) hP hD0
  have hl := lv_entry ([.ref (ad 0), .int x1]) (n := 2) (Nat.le_of_ble_eq_true rfl)
  rw [lg_entry_eq]
  generalize (lg_sl ([.ref (ad 0), .int x1]) ++ List.replicate (2 - (lg_sl ([.ref (ad 0), .int x1])).length) Slot.unset).toArray = ls at hl ⊢
  have hl : lv_has ls 2 [(0, .ref (ad 0)), (1, .int x1)] := hl
  have hn_X7 : ∀ w ∈ u_ws RX7 TX7 35, w ∈ wsX7_isType := by decide +kernel
  have hf_20 := hts (.fieldLink RX7 20 "TypeFlowModel" "types" "I") (by decide +kernel)
  unfold fX7_isType at h
  refine lv_iload_n hx hb dX7_isType_0 rfl (lv_at hl 1 rfl) ?_
  refine lv_iconst (v := 0) hx hb dX7_isType_1 (by decide +kernel) ?_
  refine lv_aload_n hx hb dX7_isType_2 rfl (lv_at hl 0 rfl) ?_
  refine tf_get (C := RX7) (T := TX7) (N := 35) hx hb hts hn_X7 hown hK hI 0 (tf_mat_0 ad cI cZ _) rfl 3 (by decide) hf_20 rfl rfl dX7_isType_3 ?_
  refine lv_iconst (v := 1) hx hb dX7_isType_6 (by decide +kernel) ?_
  refine lv_isub hx hb dX7_isType_7 ?_
  obtain ⟨u1, q2, h⟩ := tf_gbind h
  refine tf_callS (rest := []) ⟨hx, hb, hml, hown, hts⟩ hK hN hI (kM_X7_isIn l D ad cI cZ _ _ _ _ _ q2) (va_cwS 3 hts gX7_isType_X7_isIn rfl rfl rfl (by decide +kernel) ⟨Nat.le_of_ble_eq_true rfl, Nat.le_of_ble_eq_true rfl⟩) rfl hl.1 rfl (Nat.le_of_ble_eq_true rfl) dX7_isType_8 (fun H locs hI => ?_)
  obtain ⟨b3, h⟩ := tf_gbz h
  exact tf_zret hx hb hr b3 hI h dX7_isType_11 hlocks

set_option maxHeartbeats 4000000 in
set_option maxRecDepth 100000 in
theorem kM_X7_isClosed (l : Launch) (D : va_G) (ad : Nat → Nat) (cI cZ : ClassId) (σ : tf_S) (x1 : Int32) (z : Int32 × tf_S) (h : fX7_isClosed σ x1 = some z) : tf_C l D (tf_wm ad cI cZ) [(cI, .int), (cZ, .boolean)] [] yX7_isClosed wsX7_isClosed ({ frames := 2, cells := 0, slots := 0, locals := 43 }) [.ref (ad 0), .int x1] σ z := by
  intro sz
  refine Met.ofW (cc := cX7_isClosed) (maxL := 2) (ret := (some .boolean)) (by decide) rfl ?_
  intro p e s m args below meth c s₁ B hml hv
  obtain ⟨rfl, hsz, hP, hK, hN, hD0⟩ := hv
  have hx := B.exec
  have hb := B.bytes
  have hr := B.returns
  have hts := atoms_spec (ws := wsX7_isClosed) B.pre
  have hown : s.vm.findClass RX7 = some m.cls := findClass_of_methodNamed B.named
  have hlocks := B.notSynchronized
  subst hsz
  have hI := tf_start (D := D) (tf_m_ad ad cI cZ) hP hD0
  have hl := lv_entry ([.ref (ad 0), .int x1]) (n := 2) (Nat.le_of_ble_eq_true rfl)
  rw [lg_entry_eq]
  generalize (lg_sl ([.ref (ad 0), .int x1]) ++ List.replicate (2 - (lg_sl ([.ref (ad 0), .int x1])).length) Slot.unset).toArray = ls at hl ⊢
  have hl : lv_has ls 2 [(0, .ref (ad 0)), (1, .int x1)] := hl
  have hn_X7 : ∀ w ∈ u_ws RX7 TX7 35, w ∈ wsX7_isClosed := by decide +kernel
  have hf_32 := hts (.fieldLink RX7 32 "TypeFlowModel" "free" "[I") (by decide +kernel)
  unfold fX7_isClosed at h
  refine lv_aload_n hx hb dX7_isClosed_0 rfl (lv_at hl 0 rfl) ?_
  refine lv_iload_n hx hb dX7_isClosed_1 rfl (lv_at hl 1 rfl) ?_
  obtain ⟨u1, q2, h⟩ := tf_gbind h
  refine tf_callV (rest := []) ⟨hx, hb, hml, hown, hts⟩ hK hN hI (kM_X7_isType l D ad cI cZ _ _ _ q2) (cwV 1 hts gX7_isClosed_X7_isType rfl rfl rfl (by decide +kernel) ⟨Nat.le_of_ble_eq_true rfl, Nat.le_of_ble_eq_true rfl⟩) 0 7 (tf_mat_0 ad cI cZ _) rfl rfl hl.1 rfl (Nat.le_of_ble_eq_true rfl) dX7_isClosed_2 (fun H locs hI => ?_)
  refine lv_if_eq (tgt := 21) hx hb dX7_isClosed_5 (by decide) (fun c3 => ?_) (fun c3 => ?_)
  · replace h := tf_pos c3 h
    refine lv_iconst (v := 0) hx hb dX7_isClosed_21 (by decide +kernel) ?_
    exact tf_zret hx hb hr (Or.inl rfl) hI h dX7_isClosed_22 hlocks
  replace h := tf_neg c3 h
  refine lv_aload_n hx hb dX7_isClosed_8 rfl (lv_at hl 0 rfl) ?_
  refine tf_get (C := RX7) (T := TX7) (N := 35) hx hb hts hn_X7 hown hK hI 0 (tf_mat_0 ad cI cZ _) rfl 7 (by decide) hf_32 rfl rfl dX7_isClosed_9 ?_
  refine lv_iload_n hx hb dX7_isClosed_12 rfl (lv_at hl 1 rfl) ?_
  obtain ⟨b4, h⟩ := tf_gin h
  refine va_iald hx hb hK hI.1 6 0 (tf_mat_6 ad cI cZ _) rfl b4 dX7_isClosed_13 ?_
  refine lv_if_ne (tgt := 21) hx hb dX7_isClosed_14 (by decide) (fun c5 => ?_) (fun c5 => ?_)
  · replace h := tf_neg c5 h
    refine lv_iconst (v := 0) hx hb dX7_isClosed_21 (by decide +kernel) ?_
    exact tf_zret hx hb hr (Or.inl rfl) hI h dX7_isClosed_22 hlocks
  replace h := tf_pos c5 h
  refine lv_iconst (v := 1) hx hb dX7_isClosed_17 (by decide +kernel) ?_
  refine lv_goto (tgt := 22) hx hb dX7_isClosed_18 (by decide) ?_
  exact tf_zret hx hb hr (Or.inr rfl) hI h dX7_isClosed_22 hlocks

set_option maxHeartbeats 4000000 in
set_option maxRecDepth 100000 in
theorem kM_X7_isClassType (l : Launch) (D : va_G) (ad : Nat → Nat) (cI cZ : ClassId) (σ : tf_S) (x1 : Int32) (z : Int32 × tf_S) (h : fX7_isClassType σ x1 = some z) : tf_C l D (tf_wm ad cI cZ) [(cI, .int), (cZ, .boolean)] [] yX7_isClassType wsX7_isClassType ({ frames := 1, cells := 0, slots := 0, locals := 22 }) [.ref (ad 0), .int x1] σ z := by
  intro sz
  refine Met.ofW (cc := cX7_isClassType) (maxL := 2) (ret := (some .boolean)) (by decide) rfl ?_
  intro p e s m args below meth c s₁ B hml hv
  obtain ⟨rfl, hsz, hP, hK, hN, hD0⟩ := hv
  have hx := B.exec
  have hb := B.bytes
  have hr := B.returns
  have hts := atoms_spec (ws := wsX7_isClassType) B.pre
  have hown : s.vm.findClass RX7 = some m.cls := findClass_of_methodNamed B.named
  have hlocks := B.notSynchronized
  subst hsz
  have hI := tf_start (D := D) (tf_m_ad ad cI cZ) hP hD0
  have hl := lv_entry ([.ref (ad 0), .int x1]) (n := 2) (Nat.le_of_ble_eq_true rfl)
  rw [lg_entry_eq]
  generalize (lg_sl ([.ref (ad 0), .int x1]) ++ List.replicate (2 - (lg_sl ([.ref (ad 0), .int x1])).length) Slot.unset).toArray = ls at hl ⊢
  have hl : lv_has ls 2 [(0, .ref (ad 0)), (1, .int x1)] := hl
  have hn_X7 : ∀ w ∈ u_ws RX7 TX7 35, w ∈ wsX7_isClassType := by decide +kernel
  have hf_20 := hts (.fieldLink RX7 20 "TypeFlowModel" "types" "I") (by decide +kernel)
  unfold fX7_isClassType at h
  refine lv_iload_n hx hb dX7_isClassType_0 rfl (lv_at hl 1 rfl) ?_
  refine lv_bipush (v := 6) hx hb dX7_isClassType_1 (by decide +kernel) ?_
  refine lv_aload_n hx hb dX7_isClassType_3 rfl (lv_at hl 0 rfl) ?_
  refine tf_get (C := RX7) (T := TX7) (N := 35) hx hb hts hn_X7 hown hK hI 0 (tf_mat_0 ad cI cZ _) rfl 3 (by decide) hf_20 rfl rfl dX7_isClassType_4 ?_
  refine lv_iconst (v := 1) hx hb dX7_isClassType_7 (by decide +kernel) ?_
  refine lv_isub hx hb dX7_isClassType_8 ?_
  obtain ⟨u1, q2, h⟩ := tf_gbind h
  refine tf_callS (rest := []) ⟨hx, hb, hml, hown, hts⟩ hK hN hI (kM_X7_isIn l D ad cI cZ _ _ _ _ _ q2) (va_cwS 3 hts gX7_isClassType_X7_isIn rfl rfl rfl (by decide +kernel) ⟨Nat.le_of_ble_eq_true rfl, Nat.le_of_ble_eq_true rfl⟩) rfl hl.1 rfl (Nat.le_of_ble_eq_true rfl) dX7_isClassType_9 (fun H locs hI => ?_)
  obtain ⟨b3, h⟩ := tf_gbz h
  exact tf_zret hx hb hr b3 hI h dX7_isClassType_12 hlocks

set_option maxHeartbeats 4000000 in
set_option maxRecDepth 100000 in
theorem kM_X7_isPrimitive (l : Launch) (D : va_G) (ad : Nat → Nat) (cI cZ : ClassId) (σ : tf_S) (x0 : Int32) (z : Int32 × tf_S) (h : fX7_isPrimitive σ x0 = some z) : tf_C l D (tf_wm ad cI cZ) [(cI, .int), (cZ, .boolean)] [] yX7_isPrimitive wsX7_isPrimitive ({ frames := 0, cells := 0, slots := 0, locals := 0 }) [.int x0] σ z := by
  intro sz
  refine Met.ofW (cc := cX7_isPrimitive) (maxL := 1) (ret := (some .boolean)) (by decide) rfl ?_
  intro p e s m args below meth c s₁ B hml hv
  obtain ⟨rfl, hsz, hP, hK, hN, hD0⟩ := hv
  have hx := B.exec
  have hb := B.bytes
  have hr := B.returns
  have hts := atoms_spec (ws := wsX7_isPrimitive) B.pre
  have hown : s.vm.findClass RX7 = some m.cls := findClass_of_methodNamed B.named
  have hlocks := B.notSynchronized
  subst hsz
  have hI := tf_start (D := D) (tf_m_ad ad cI cZ) hP hD0
  have hl := lv_entry ([.int x0]) (n := 1) (Nat.le_of_ble_eq_true rfl)
  rw [lg_entry_eq]
  generalize (lg_sl ([.int x0]) ++ List.replicate (1 - (lg_sl ([.int x0])).length) Slot.unset).toArray = ls at hl ⊢
  have hl : lv_has ls 1 [(0, .int x0)] := hl
  unfold fX7_isPrimitive at h
  refine lv_iload_n hx hb dX7_isPrimitive_0 rfl (lv_at hl 0 rfl) ?_
  refine lv_iconst (v := 4) hx hb dX7_isPrimitive_1 (by decide +kernel) ?_
  refine lv_icmp_ge (tgt := 9) hx hb dX7_isPrimitive_2 (by decide) (fun c1 => ?_) (fun c1 => ?_)
  · replace h := tf_pos c1 h
    refine lv_iconst (v := 0) hx hb dX7_isPrimitive_9 (by decide +kernel) ?_
    exact tf_zret hx hb hr (Or.inl rfl) hI h dX7_isPrimitive_10 hlocks
  replace h := tf_neg c1 h
  refine lv_iconst (v := 1) hx hb dX7_isPrimitive_5 (by decide +kernel) ?_
  refine lv_goto (tgt := 10) hx hb dX7_isPrimitive_6 (by decide) ?_
  exact tf_zret hx hb hr (Or.inr rfl) hI h dX7_isPrimitive_10 hlocks

set_option maxHeartbeats 4000000 in
set_option maxRecDepth 100000 in
theorem kM_X7_made (l : Launch) (D : va_G) (ad : Nat → Nat) (cI cZ : ClassId) (σ : tf_S) (x1 x2 x3 : Int32) (z : Int32 × tf_S) (h : fX7_made σ x1 x2 x3 = some z) : tf_C l D (tf_wm ad cI cZ) [(cI, .int), (cZ, .boolean)] [] yX7_made wsX7_made ({ frames := 0, cells := 0, slots := 0, locals := 0 }) [.ref (ad 0), .int x1, .int x2, .int x3] σ z := by
  intro sz
  refine Met.ofW (cc := cX7_made) (maxL := 5) (ret := (some .int)) (by decide) rfl ?_
  intro p e s m args below meth c s₁ B hml hv
  obtain ⟨rfl, hsz, hP, hK, hN, hD0⟩ := hv
  have hx := B.exec
  have hb := B.bytes
  have hr := B.returns
  have hts := atoms_spec (ws := wsX7_made) B.pre
  have hown : s.vm.findClass RX7 = some m.cls := findClass_of_methodNamed B.named
  have hlocks := B.notSynchronized
  subst hsz
  have hI := tf_start (D := D) (tf_m_ad ad cI cZ) hP hD0
  have hl := lv_entry ([.ref (ad 0), .int x1, .int x2, .int x3]) (n := 5) (Nat.le_of_ble_eq_true rfl)
  rw [lg_entry_eq]
  generalize (lg_sl ([.ref (ad 0), .int x1, .int x2, .int x3]) ++ List.replicate (5 - (lg_sl ([.ref (ad 0), .int x1, .int x2, .int x3])).length) Slot.unset).toArray = ls at hl ⊢
  have hl : lv_has ls 5 [(0, .ref (ad 0)), (1, .int x1), (2, .int x2), (3, .int x3)] := hl
  have hn_X7 : ∀ w ∈ u_ws RX7 TX7 35, w ∈ wsX7_made := by decide +kernel
  have hf_20 := hts (.fieldLink RX7 20 "TypeFlowModel" "types" "I") (by decide +kernel)
  have hf_23 := hts (.fieldLink RX7 23 "TypeFlowModel" "classes0" "[I") (by decide +kernel)
  have hf_26 := hts (.fieldLink RX7 26 "TypeFlowModel" "first" "[I") (by decide +kernel)
  have hf_29 := hts (.fieldLink RX7 29 "TypeFlowModel" "second" "[I") (by decide +kernel)
  have hf_32 := hts (.fieldLink RX7 32 "TypeFlowModel" "free" "[I") (by decide +kernel)
  have j119 : ∀ (σ : tf_S) (t0 t1 : Int32) (H : Heap) (locs : List Loc) (ls : Array Slot), fX7_made_119 x1 x2 x3 σ t0 t1 = some z → tf_I D (tf_wm ad cI cZ) s.heap σ H locs → lv_has ls 5 [(0, .ref (ad 0)), (3, .int x3)] → W p l e (headSpec wsX7_made ({ frames := 0, cells := 0, slots := 0, locals := 0 })).room s m ([.ref (ad 0), .int x1, .int x2, .int x3] : List Value).toArray below meth c H locs 0 0 (tf_Q below D (tf_wm ad cI cZ) z ([.ref (ad 0), .int x1, .int x2, .int x3] : List Value).toArray s) (F0 m 119 ls [.int t0, .int t1, .ref (ad 6)]) := by
    intro σ t0 t1 H locs ls h hI hl
    unfold fX7_made_119 at h
    refine lv_iload_n hx hb dX7_made_119 rfl (lv_at hl 1 rfl) ?_
    refine lv_if_ge (tgt := 127) hx hb dX7_made_120 (by decide) (fun c11 => ?_) (fun c11 => ?_)
    · replace h := tf_pos c11 h
      refine lv_aload_n hx hb dX7_made_127 rfl (lv_at hl 0 rfl) ?_
      refine tf_get (C := RX7) (T := TX7) (N := 35) hx hb hts hn_X7 hown hK hI 0 (tf_mat_0 ad cI cZ _) rfl 7 (by decide) hf_32 rfl rfl dX7_made_128 ?_
      refine lv_iload_n hx hb dX7_made_131 rfl (lv_at hl 1 rfl) ?_
      obtain ⟨b12, h⟩ := tf_gin h
      refine va_iald hx hb hK hI.1 6 0 (tf_mat_6 ad cI cZ _) rfl b12 dX7_made_132 ?_
      refine lv_ior hx hb dX7_made_133 ?_
      obtain ⟨b13, h⟩ := tf_gin h
      obtain ⟨s14, es14, h⟩ := tf_glet h
      refine tf_iast hx hb hK hI 6 0 (tf_mat_6 ad cI cZ _) (tf_mset_6 ad cI cZ _) rfl b13 es14 dX7_made_134 (fun H locs hI => ?_)
      refine lv_aload_n hx hb dX7_made_135 rfl (lv_at hl 0 rfl) ?_
      refine lv_dup hx hb dX7_made_136 rfl ?_
      refine tf_get (C := RX7) (T := TX7) (N := 35) hx hb hts hn_X7 hown hK hI 0 (tf_mat_0 ad cI cZ _) rfl 3 (by decide) hf_20 rfl rfl dX7_made_137 ?_
      refine lv_iconst (v := 1) hx hb dX7_made_140 (by decide +kernel) ?_
      refine lv_iadd hx hb dX7_made_141 ?_
      obtain ⟨s15, es15, h⟩ := tf_glet h
      refine tf_put (C := RX7) (T := TX7) (N := 35) (ty := .int) hx hb hts hn_X7 tyX7 tyX7_ok nmX7 hown hK hI 0 (tf_mat_0 ad cI cZ _) rfl 3 (by decide) hf_20 rfl rfl (by decide +kernel) rfl rfl (Nat.le_of_ble_eq_true rfl) (tf_mput_0_3 ad cI cZ _ _) es15 dX7_made_142 (fun H locs hI => ?_)
      refine lv_aload_n hx hb dX7_made_145 rfl (lv_at hl 0 rfl) ?_
      refine tf_get (C := RX7) (T := TX7) (N := 35) hx hb hts hn_X7 hown hK hI 0 (tf_mat_0 ad cI cZ _) rfl 3 (by decide) hf_20 rfl rfl dX7_made_146 ?_
      refine lv_iconst (v := 1) hx hb dX7_made_149 (by decide +kernel) ?_
      refine lv_isub hx hb dX7_made_150 ?_
      exact tf_iret hx hb hr hI h dX7_made_151 hlocks
    replace h := tf_neg c11 h
    refine lv_iconst (v := 0) hx hb dX7_made_123 (by decide +kernel) ?_
    refine lv_goto (tgt := 133) hx hb dX7_made_124 (by decide) ?_
    refine lv_ior hx hb dX7_made_133 ?_
    obtain ⟨b16, h⟩ := tf_gin h
    obtain ⟨s17, es17, h⟩ := tf_glet h
    refine tf_iast hx hb hK hI 6 0 (tf_mat_6 ad cI cZ _) (tf_mset_6 ad cI cZ _) rfl b16 es17 dX7_made_134 (fun H locs hI => ?_)
    refine lv_aload_n hx hb dX7_made_135 rfl (lv_at hl 0 rfl) ?_
    refine lv_dup hx hb dX7_made_136 rfl ?_
    refine tf_get (C := RX7) (T := TX7) (N := 35) hx hb hts hn_X7 hown hK hI 0 (tf_mat_0 ad cI cZ _) rfl 3 (by decide) hf_20 rfl rfl dX7_made_137 ?_
    refine lv_iconst (v := 1) hx hb dX7_made_140 (by decide +kernel) ?_
    refine lv_iadd hx hb dX7_made_141 ?_
    obtain ⟨s18, es18, h⟩ := tf_glet h
    refine tf_put (C := RX7) (T := TX7) (N := 35) (ty := .int) hx hb hts hn_X7 tyX7 tyX7_ok nmX7 hown hK hI 0 (tf_mat_0 ad cI cZ _) rfl 3 (by decide) hf_20 rfl rfl (by decide +kernel) rfl rfl (Nat.le_of_ble_eq_true rfl) (tf_mput_0_3 ad cI cZ _ _) es18 dX7_made_142 (fun H locs hI => ?_)
    refine lv_aload_n hx hb dX7_made_145 rfl (lv_at hl 0 rfl) ?_
    refine tf_get (C := RX7) (T := TX7) (N := 35) hx hb hts hn_X7 hown hK hI 0 (tf_mat_0 ad cI cZ _) rfl 3 (by decide) hf_20 rfl rfl dX7_made_146 ?_
    refine lv_iconst (v := 1) hx hb dX7_made_149 (by decide +kernel) ?_
    refine lv_isub hx hb dX7_made_150 ?_
    exact tf_iret hx hb hr hI h dX7_made_151 hlocks
  have j4 : ∀ n : Nat, ∀ (σ : tf_S) (y4 : Int32) (H : Heap) (locs : List Loc) (ls : Array Slot), fX7_made_4 x1 x2 x3 n σ y4 = some z → tf_I D (tf_wm ad cI cZ) s.heap σ H locs → lv_has ls 5 [(0, .ref (ad 0)), (1, .int x1), (2, .int x2), (3, .int x3), (4, .int y4)] → W p l e (headSpec wsX7_made ({ frames := 0, cells := 0, slots := 0, locals := 0 })).room s m ([.ref (ad 0), .int x1, .int x2, .int x3] : List Value).toArray below meth c H locs 0 0 (tf_Q below D (tf_wm ad cI cZ) z ([.ref (ad 0), .int x1, .int x2, .int x3] : List Value).toArray s) (F0 m 4 ls []) := by
    intro n
    induction n with
    | zero =>
      intro σ y4 H locs ls h
      rw [fX7_made_4] at h
      cases h
    | succ n ih =>
      intro σ y4 H locs ls h hI hl
      rw [fX7_made_4] at h
      refine lv_iload hx hb dX7_made_4 (lv_at hl 4 rfl) ?_
      refine lv_aload_n hx hb dX7_made_6 rfl (lv_at hl 0 rfl) ?_
      refine tf_get (C := RX7) (T := TX7) (N := 35) hx hb hts hn_X7 hown hK hI 0 (tf_mat_0 ad cI cZ _) rfl 3 (by decide) hf_20 rfl rfl dX7_made_7 ?_
      refine lv_icmp_ge (tgt := 55) hx hb dX7_made_10 (by decide) (fun c1 => ?_) (fun c1 => ?_)
      · replace h := tf_pos c1 h
        refine lv_aload_n hx hb dX7_made_55 rfl (lv_at hl 0 rfl) ?_
        refine tf_get (C := RX7) (T := TX7) (N := 35) hx hb hts hn_X7 hown hK hI 0 (tf_mat_0 ad cI cZ _) rfl 3 (by decide) hf_20 rfl rfl dX7_made_56 ?_
        refine lv_bipush (v := 80) hx hb dX7_made_59 (by decide +kernel) ?_
        refine lv_icmp_ne (tgt := 67) hx hb dX7_made_61 (by decide) (fun c2 => ?_) (fun c2 => ?_)
        · replace h := tf_neg c2 h
          refine lv_aload_n hx hb dX7_made_67 rfl (lv_at hl 0 rfl) ?_
          refine tf_get (C := RX7) (T := TX7) (N := 35) hx hb hts hn_X7 hown hK hI 0 (tf_mat_0 ad cI cZ _) rfl 4 (by decide) hf_23 rfl rfl dX7_made_68 ?_
          refine lv_aload_n hx hb dX7_made_71 rfl (lv_at hl 0 rfl) ?_
          refine tf_get (C := RX7) (T := TX7) (N := 35) hx hb hts hn_X7 hown hK hI 0 (tf_mat_0 ad cI cZ _) rfl 3 (by decide) hf_20 rfl rfl dX7_made_72 ?_
          refine lv_iload_n hx hb dX7_made_75 rfl (lv_at hl 1 rfl) ?_
          obtain ⟨b3, h⟩ := tf_gin h
          obtain ⟨s4, es4, h⟩ := tf_glet h
          refine tf_iast hx hb hK hI 3 0 (tf_mat_3 ad cI cZ _) (tf_mset_3 ad cI cZ _) rfl b3 es4 dX7_made_76 (fun H locs hI => ?_)
          refine lv_aload_n hx hb dX7_made_77 rfl (lv_at hl 0 rfl) ?_
          refine tf_get (C := RX7) (T := TX7) (N := 35) hx hb hts hn_X7 hown hK hI 0 (tf_mat_0 ad cI cZ _) rfl 5 (by decide) hf_26 rfl rfl dX7_made_78 ?_
          refine lv_aload_n hx hb dX7_made_81 rfl (lv_at hl 0 rfl) ?_
          refine tf_get (C := RX7) (T := TX7) (N := 35) hx hb hts hn_X7 hown hK hI 0 (tf_mat_0 ad cI cZ _) rfl 3 (by decide) hf_20 rfl rfl dX7_made_82 ?_
          refine lv_iload_n hx hb dX7_made_85 rfl (lv_at hl 2 rfl) ?_
          obtain ⟨b5, h⟩ := tf_gin h
          obtain ⟨s6, es6, h⟩ := tf_glet h
          refine tf_iast hx hb hK hI 4 0 (tf_mat_4 ad cI cZ _) (tf_mset_4 ad cI cZ _) rfl b5 es6 dX7_made_86 (fun H locs hI => ?_)
          refine lv_aload_n hx hb dX7_made_87 rfl (lv_at hl 0 rfl) ?_
          refine tf_get (C := RX7) (T := TX7) (N := 35) hx hb hts hn_X7 hown hK hI 0 (tf_mat_0 ad cI cZ _) rfl 6 (by decide) hf_29 rfl rfl dX7_made_88 ?_
          refine lv_aload_n hx hb dX7_made_91 rfl (lv_at hl 0 rfl) ?_
          refine tf_get (C := RX7) (T := TX7) (N := 35) hx hb hts hn_X7 hown hK hI 0 (tf_mat_0 ad cI cZ _) rfl 3 (by decide) hf_20 rfl rfl dX7_made_92 ?_
          refine lv_iload_n hx hb dX7_made_95 rfl (lv_at hl 3 rfl) ?_
          obtain ⟨b7, h⟩ := tf_gin h
          obtain ⟨s8, es8, h⟩ := tf_glet h
          refine tf_iast hx hb hK hI 5 0 (tf_mat_5 ad cI cZ _) (tf_mset_5 ad cI cZ _) rfl b7 es8 dX7_made_96 (fun H locs hI => ?_)
          refine lv_aload_n hx hb dX7_made_97 rfl (lv_at hl 0 rfl) ?_
          refine tf_get (C := RX7) (T := TX7) (N := 35) hx hb hts hn_X7 hown hK hI 0 (tf_mat_0 ad cI cZ _) rfl 7 (by decide) hf_32 rfl rfl dX7_made_98 ?_
          refine lv_aload_n hx hb dX7_made_101 rfl (lv_at hl 0 rfl) ?_
          refine tf_get (C := RX7) (T := TX7) (N := 35) hx hb hts hn_X7 hown hK hI 0 (tf_mat_0 ad cI cZ _) rfl 3 (by decide) hf_20 rfl rfl dX7_made_102 ?_
          refine lv_iload_n hx hb dX7_made_105 rfl (lv_at hl 2 rfl) ?_
          refine lv_if_ge (tgt := 113) hx hb dX7_made_106 (by decide) (fun c9 => ?_) (fun c9 => ?_)
          · replace h := tf_pos c9 h
            refine lv_aload_n hx hb dX7_made_113 rfl (lv_at hl 0 rfl) ?_
            refine tf_get (C := RX7) (T := TX7) (N := 35) hx hb hts hn_X7 hown hK hI 0 (tf_mat_0 ad cI cZ _) rfl 7 (by decide) hf_32 rfl rfl dX7_made_114 ?_
            refine lv_iload_n hx hb dX7_made_117 rfl (lv_at hl 2 rfl) ?_
            obtain ⟨b10, h⟩ := tf_gin h
            refine va_iald hx hb hK hI.1 6 0 (tf_mat_6 ad cI cZ _) rfl b10 dX7_made_118 ?_
            exact j119  _ _ _ _ _ _ h hI (lv_sub hl [0, 3] rfl)
          replace h := tf_neg c9 h
          refine lv_iconst (v := 0) hx hb dX7_made_109 (by decide +kernel) ?_
          refine lv_goto (tgt := 119) hx hb dX7_made_110 (by decide) ?_
          exact j119  _ _ _ _ _ _ h hI (lv_sub hl [0, 3] rfl)
        replace h := tf_pos c2 h
        refine lv_bipush (v := -3) hx hb dX7_made_64 (by decide +kernel) ?_
        exact tf_iret hx hb hr hI h dX7_made_66 hlocks
      replace h := tf_neg c1 h
      refine lv_aload_n hx hb dX7_made_13 rfl (lv_at hl 0 rfl) ?_
      refine tf_get (C := RX7) (T := TX7) (N := 35) hx hb hts hn_X7 hown hK hI 0 (tf_mat_0 ad cI cZ _) rfl 4 (by decide) hf_23 rfl rfl dX7_made_14 ?_
      refine lv_iload hx hb dX7_made_17 (lv_at hl 4 rfl) ?_
      obtain ⟨b19, h⟩ := tf_gin h
      refine va_iald hx hb hK hI.1 3 0 (tf_mat_3 ad cI cZ _) rfl b19 dX7_made_19 ?_
      refine lv_iload_n hx hb dX7_made_20 rfl (lv_at hl 1 rfl) ?_
      refine lv_icmp_ne (tgt := 49) hx hb dX7_made_21 (by decide) (fun c20 => ?_) (fun c20 => ?_)
      · replace h := tf_neg c20 h
        obtain ⟨v21, ev21, h⟩ := tf_glet h
        refine lv_iinc (v := v21) (lv' := [(4, .int v21), (0, .ref (ad 0)), (1, .int x1), (2, .int x2), (3, .int x3)]) hx hb dX7_made_49 hl (k := 4) rfl (by rw [ev21]; rfl) (by decide) rfl (fun ls hl => ?_)
        refine lv_goto (tgt := 4) hx hb dX7_made_52 (by decide) ?_
        exact ih _ _ _ _ _ h hI (lv_sub hl [1, 2, 3, 4, 0] rfl)
      replace h := tf_pos c20 h
      refine lv_aload_n hx hb dX7_made_24 rfl (lv_at hl 0 rfl) ?_
      refine tf_get (C := RX7) (T := TX7) (N := 35) hx hb hts hn_X7 hown hK hI 0 (tf_mat_0 ad cI cZ _) rfl 5 (by decide) hf_26 rfl rfl dX7_made_25 ?_
      refine lv_iload hx hb dX7_made_28 (lv_at hl 4 rfl) ?_
      obtain ⟨b22, h⟩ := tf_gin h
      refine va_iald hx hb hK hI.1 4 0 (tf_mat_4 ad cI cZ _) rfl b22 dX7_made_30 ?_
      refine lv_iload_n hx hb dX7_made_31 rfl (lv_at hl 2 rfl) ?_
      refine lv_icmp_ne (tgt := 49) hx hb dX7_made_32 (by decide) (fun c23 => ?_) (fun c23 => ?_)
      · replace h := tf_neg c23 h
        obtain ⟨v24, ev24, h⟩ := tf_glet h
        refine lv_iinc (v := v24) (lv' := [(4, .int v24), (0, .ref (ad 0)), (1, .int x1), (2, .int x2), (3, .int x3)]) hx hb dX7_made_49 hl (k := 4) rfl (by rw [ev24]; rfl) (by decide) rfl (fun ls hl => ?_)
        refine lv_goto (tgt := 4) hx hb dX7_made_52 (by decide) ?_
        exact ih _ _ _ _ _ h hI (lv_sub hl [1, 2, 3, 4, 0] rfl)
      replace h := tf_pos c23 h
      refine lv_aload_n hx hb dX7_made_35 rfl (lv_at hl 0 rfl) ?_
      refine tf_get (C := RX7) (T := TX7) (N := 35) hx hb hts hn_X7 hown hK hI 0 (tf_mat_0 ad cI cZ _) rfl 6 (by decide) hf_29 rfl rfl dX7_made_36 ?_
      refine lv_iload hx hb dX7_made_39 (lv_at hl 4 rfl) ?_
      obtain ⟨b25, h⟩ := tf_gin h
      refine va_iald hx hb hK hI.1 5 0 (tf_mat_5 ad cI cZ _) rfl b25 dX7_made_41 ?_
      refine lv_iload_n hx hb dX7_made_42 rfl (lv_at hl 3 rfl) ?_
      refine lv_icmp_ne (tgt := 49) hx hb dX7_made_43 (by decide) (fun c26 => ?_) (fun c26 => ?_)
      · replace h := tf_neg c26 h
        obtain ⟨v27, ev27, h⟩ := tf_glet h
        refine lv_iinc (v := v27) (lv' := [(4, .int v27), (0, .ref (ad 0)), (1, .int x1), (2, .int x2), (3, .int x3)]) hx hb dX7_made_49 hl (k := 4) rfl (by rw [ev27]; rfl) (by decide) rfl (fun ls hl => ?_)
        refine lv_goto (tgt := 4) hx hb dX7_made_52 (by decide) ?_
        exact ih _ _ _ _ _ h hI (lv_sub hl [1, 2, 3, 4, 0] rfl)
      replace h := tf_pos c26 h
      refine lv_iload hx hb dX7_made_46 (lv_at hl 4 rfl) ?_
      exact tf_iret hx hb hr hI h dX7_made_48 hlocks
  unfold fX7_made at h
  refine lv_bipush (v := 6) hx hb dX7_made_0 (by decide +kernel) ?_
  refine lv_istore (lv' := [(4, .int (6 : Int32)), (0, .ref (ad 0)), (1, .int x1), (2, .int x2), (3, .int x3)]) hx hb dX7_made_2 hl (by decide) rfl (fun ls hl => ?_)
  exact j4  _ _ _ _ _ _ h hI (lv_sub hl [1, 2, 3, 4, 0] rfl)

set_option maxHeartbeats 4000000 in
set_option maxRecDepth 100000 in
theorem kM_X7_classOf (l : Launch) (D : va_G) (ad : Nat → Nat) (cI cZ : ClassId) (σ : tf_S) (x1 x2 : Int32) (z : Int32 × tf_S) (h : fX7_classOf σ x1 x2 = some z) : tf_C l D (tf_wm ad cI cZ) [(cI, .int), (cZ, .boolean)] [] yX7_classOf wsX7_classOf ({ frames := 2, cells := 0, slots := 0, locals := 43 }) [.ref (ad 0), .int x1, .int x2] σ z := by
  intro sz
  refine Met.ofW (cc := cX7_classOf) (maxL := 3) (ret := (some .int)) (by decide) rfl ?_
  intro p e s m args below meth c s₁ B hml hv
  obtain ⟨rfl, hsz, hP, hK, hN, hD0⟩ := hv
  have hx := B.exec
  have hb := B.bytes
  have hr := B.returns
  have hts := atoms_spec (ws := wsX7_classOf) B.pre
  have hown : s.vm.findClass RX7 = some m.cls := findClass_of_methodNamed B.named
  have hlocks := B.notSynchronized
  subst hsz
  have hI := tf_start (D := D) (tf_m_ad ad cI cZ) hP hD0
  have hl := lv_entry ([.ref (ad 0), .int x1, .int x2]) (n := 3) (Nat.le_of_ble_eq_true rfl)
  rw [lg_entry_eq]
  generalize (lg_sl ([.ref (ad 0), .int x1, .int x2]) ++ List.replicate (3 - (lg_sl ([.ref (ad 0), .int x1, .int x2])).length) Slot.unset).toArray = ls at hl ⊢
  have hl : lv_has ls 3 [(0, .ref (ad 0)), (1, .int x1), (2, .int x2)] := hl
  have hn_X7 : ∀ w ∈ u_ws RX7 TX7 35, w ∈ wsX7_classOf := by decide +kernel
  have hf_7 := hts (.fieldLink RX7 7 "TypeFlowModel" "classes" "I") (by decide +kernel)
  have hf_13 := hts (.fieldLink RX7 13 "TypeFlowModel" "variables" "[I") (by decide +kernel)
  have hf_17 := hts (.fieldLink RX7 17 "TypeFlowModel" "parent" "[I") (by decide +kernel)
  have hf_32 := hts (.fieldLink RX7 32 "TypeFlowModel" "free" "[I") (by decide +kernel)
  unfold fX7_classOf at h
  refine lv_iload_n hx hb dX7_classOf_0 rfl (lv_at hl 1 rfl) ?_
  refine lv_iconst (v := 0) hx hb dX7_classOf_1 (by decide +kernel) ?_
  refine lv_iconst (v := 2) hx hb dX7_classOf_2 (by decide +kernel) ?_
  obtain ⟨u1, q2, h⟩ := tf_gbind h
  refine tf_callS (rest := []) ⟨hx, hb, hml, hown, hts⟩ hK hN hI (kM_X7_isIn l D ad cI cZ _ _ _ _ _ q2) (va_cwS 3 hts gX7_classOf_X7_isIn rfl rfl rfl (by decide +kernel) ⟨Nat.le_of_ble_eq_true rfl, Nat.le_of_ble_eq_true rfl⟩) rfl hl.1 rfl (Nat.le_of_ble_eq_true rfl) dX7_classOf_3 (fun H locs hI => ?_)
  refine lv_if_eq (tgt := 28) hx hb dX7_classOf_6 (by decide) (fun c3 => ?_) (fun c3 => ?_)
  · replace h := tf_pos c3 h
    refine lv_bipush (v := -2) hx hb dX7_classOf_28 (by decide +kernel) ?_
    exact tf_iret hx hb hr hI h dX7_classOf_30 hlocks
  replace h := tf_neg c3 h
  refine lv_aload_n hx hb dX7_classOf_9 rfl (lv_at hl 0 rfl) ?_
  refine lv_iload_n hx hb dX7_classOf_10 rfl (lv_at hl 2 rfl) ?_
  obtain ⟨u4, q5, h⟩ := tf_gbind h
  refine tf_callV (rest := []) ⟨hx, hb, hml, hown, hts⟩ hK hN hI (kM_X7_isClassType l D ad cI cZ _ _ _ q5) (cwV 1 hts gX7_classOf_X7_isClassType rfl rfl rfl (by decide +kernel) ⟨Nat.le_of_ble_eq_true rfl, Nat.le_of_ble_eq_true rfl⟩) 0 7 (tf_mat_0 ad cI cZ _) rfl rfl hl.1 rfl (Nat.le_of_ble_eq_true rfl) dX7_classOf_11 (fun H locs hI => ?_)
  refine lv_if_eq (tgt := 28) hx hb dX7_classOf_14 (by decide) (fun c6 => ?_) (fun c6 => ?_)
  · replace h := tf_pos c6 h
    refine lv_bipush (v := -2) hx hb dX7_classOf_28 (by decide +kernel) ?_
    exact tf_iret hx hb hr hI h dX7_classOf_30 hlocks
  replace h := tf_neg c6 h
  refine lv_aload_n hx hb dX7_classOf_17 rfl (lv_at hl 0 rfl) ?_
  refine tf_get (C := RX7) (T := TX7) (N := 35) hx hb hts hn_X7 hown hK hI 0 (tf_mat_0 ad cI cZ _) rfl 7 (by decide) hf_32 rfl rfl dX7_classOf_18 ?_
  refine lv_iload_n hx hb dX7_classOf_21 rfl (lv_at hl 2 rfl) ?_
  obtain ⟨b7, h⟩ := tf_gin h
  refine va_iald hx hb hK hI.1 6 0 (tf_mat_6 ad cI cZ _) rfl b7 dX7_classOf_22 ?_
  refine lv_iload_n hx hb dX7_classOf_23 rfl (lv_at hl 1 rfl) ?_
  refine lv_ishr hx hb dX7_classOf_24 ?_
  refine lv_if_eq (tgt := 31) hx hb dX7_classOf_25 (by decide) (fun c8 => ?_) (fun c8 => ?_)
  · replace h := tf_pos c8 h
    refine lv_aload_n hx hb dX7_classOf_31 rfl (lv_at hl 0 rfl) ?_
    refine tf_get (C := RX7) (T := TX7) (N := 35) hx hb hts hn_X7 hown hK hI 0 (tf_mat_0 ad cI cZ _) rfl 0 (by decide) hf_7 rfl rfl dX7_classOf_32 ?_
    refine lv_bipush (v := 12) hx hb dX7_classOf_35 (by decide +kernel) ?_
    refine lv_icmp_ne (tgt := 43) hx hb dX7_classOf_37 (by decide) (fun c9 => ?_) (fun c9 => ?_)
    · replace h := tf_neg c9 h
      refine lv_aload_n hx hb dX7_classOf_43 rfl (lv_at hl 0 rfl) ?_
      refine tf_get (C := RX7) (T := TX7) (N := 35) hx hb hts hn_X7 hown hK hI 0 (tf_mat_0 ad cI cZ _) rfl 1 (by decide) hf_13 rfl rfl dX7_classOf_44 ?_
      refine lv_aload_n hx hb dX7_classOf_47 rfl (lv_at hl 0 rfl) ?_
      refine tf_get (C := RX7) (T := TX7) (N := 35) hx hb hts hn_X7 hown hK hI 0 (tf_mat_0 ad cI cZ _) rfl 0 (by decide) hf_7 rfl rfl dX7_classOf_48 ?_
      refine lv_iload_n hx hb dX7_classOf_51 rfl (lv_at hl 1 rfl) ?_
      obtain ⟨b10, h⟩ := tf_gin h
      obtain ⟨s11, es11, h⟩ := tf_glet h
      refine tf_iast hx hb hK hI 1 0 (tf_mat_1 ad cI cZ _) (tf_mset_1 ad cI cZ _) rfl b10 es11 dX7_classOf_52 (fun H locs hI => ?_)
      refine lv_aload_n hx hb dX7_classOf_53 rfl (lv_at hl 0 rfl) ?_
      refine tf_get (C := RX7) (T := TX7) (N := 35) hx hb hts hn_X7 hown hK hI 0 (tf_mat_0 ad cI cZ _) rfl 2 (by decide) hf_17 rfl rfl dX7_classOf_54 ?_
      refine lv_aload_n hx hb dX7_classOf_57 rfl (lv_at hl 0 rfl) ?_
      refine tf_get (C := RX7) (T := TX7) (N := 35) hx hb hts hn_X7 hown hK hI 0 (tf_mat_0 ad cI cZ _) rfl 0 (by decide) hf_7 rfl rfl dX7_classOf_58 ?_
      refine lv_iload_n hx hb dX7_classOf_61 rfl (lv_at hl 2 rfl) ?_
      obtain ⟨b12, h⟩ := tf_gin h
      obtain ⟨s13, es13, h⟩ := tf_glet h
      refine tf_iast hx hb hK hI 2 0 (tf_mat_2 ad cI cZ _) (tf_mset_2 ad cI cZ _) rfl b12 es13 dX7_classOf_62 (fun H locs hI => ?_)
      refine lv_aload_n hx hb dX7_classOf_63 rfl (lv_at hl 0 rfl) ?_
      refine lv_dup hx hb dX7_classOf_64 rfl ?_
      refine tf_get (C := RX7) (T := TX7) (N := 35) hx hb hts hn_X7 hown hK hI 0 (tf_mat_0 ad cI cZ _) rfl 0 (by decide) hf_7 rfl rfl dX7_classOf_65 ?_
      refine lv_iconst (v := 1) hx hb dX7_classOf_68 (by decide +kernel) ?_
      refine lv_iadd hx hb dX7_classOf_69 ?_
      obtain ⟨s14, es14, h⟩ := tf_glet h
      refine tf_put (C := RX7) (T := TX7) (N := 35) (ty := .int) hx hb hts hn_X7 tyX7 tyX7_ok nmX7 hown hK hI 0 (tf_mat_0 ad cI cZ _) rfl 0 (by decide) hf_7 rfl rfl (by decide +kernel) rfl rfl (Nat.le_of_ble_eq_true rfl) (tf_mput_0_0 ad cI cZ _ _) es14 dX7_classOf_70 (fun H locs hI => ?_)
      refine lv_aload_n hx hb dX7_classOf_73 rfl (lv_at hl 0 rfl) ?_
      refine tf_get (C := RX7) (T := TX7) (N := 35) hx hb hts hn_X7 hown hK hI 0 (tf_mat_0 ad cI cZ _) rfl 0 (by decide) hf_7 rfl rfl dX7_classOf_74 ?_
      refine lv_iconst (v := 1) hx hb dX7_classOf_77 (by decide +kernel) ?_
      refine lv_isub hx hb dX7_classOf_78 ?_
      exact tf_iret hx hb hr hI h dX7_classOf_79 hlocks
    replace h := tf_pos c9 h
    refine lv_bipush (v := -3) hx hb dX7_classOf_40 (by decide +kernel) ?_
    exact tf_iret hx hb hr hI h dX7_classOf_42 hlocks
  replace h := tf_neg c8 h
  refine lv_bipush (v := -2) hx hb dX7_classOf_28 (by decide +kernel) ?_
  exact tf_iret hx hb hr hI h dX7_classOf_30 hlocks

set_option maxHeartbeats 4000000 in
set_option maxRecDepth 100000 in
theorem kM_X7_isArgument (l : Launch) (D : va_G) (ad : Nat → Nat) (cI cZ : ClassId) (σ : tf_S) (x1 : Int32) (z : Int32 × tf_S) (h : fX7_isArgument σ x1 = some z) : tf_C l D (tf_wm ad cI cZ) [(cI, .int), (cZ, .boolean)] [] yX7_isArgument wsX7_isArgument ({ frames := 2, cells := 0, slots := 0, locals := 43 }) [.ref (ad 0), .int x1] σ z := by
  intro sz
  refine Met.ofW (cc := cX7_isArgument) (maxL := 2) (ret := (some .boolean)) (by decide) rfl ?_
  intro p e s m args below meth c s₁ B hml hv
  obtain ⟨rfl, hsz, hP, hK, hN, hD0⟩ := hv
  have hx := B.exec
  have hb := B.bytes
  have hr := B.returns
  have hts := atoms_spec (ws := wsX7_isArgument) B.pre
  have hown : s.vm.findClass RX7 = some m.cls := findClass_of_methodNamed B.named
  have hlocks := B.notSynchronized
  subst hsz
  have hI := tf_start (D := D) (tf_m_ad ad cI cZ) hP hD0
  have hl := lv_entry ([.ref (ad 0), .int x1]) (n := 2) (Nat.le_of_ble_eq_true rfl)
  rw [lg_entry_eq]
  generalize (lg_sl ([.ref (ad 0), .int x1]) ++ List.replicate (2 - (lg_sl ([.ref (ad 0), .int x1])).length) Slot.unset).toArray = ls at hl ⊢
  have hl : lv_has ls 2 [(0, .ref (ad 0)), (1, .int x1)] := hl
  unfold fX7_isArgument at h
  refine lv_aload_n hx hb dX7_isArgument_0 rfl (lv_at hl 0 rfl) ?_
  refine lv_iload_n hx hb dX7_isArgument_1 rfl (lv_at hl 1 rfl) ?_
  obtain ⟨u1, q2, h⟩ := tf_gbind h
  refine tf_callV (rest := []) ⟨hx, hb, hml, hown, hts⟩ hK hN hI (kM_X7_isType l D ad cI cZ _ _ _ q2) (cwV 1 hts gX7_isArgument_X7_isType rfl rfl rfl (by decide +kernel) ⟨Nat.le_of_ble_eq_true rfl, Nat.le_of_ble_eq_true rfl⟩) 0 7 (tf_mat_0 ad cI cZ _) rfl rfl hl.1 rfl (Nat.le_of_ble_eq_true rfl) dX7_isArgument_2 (fun H locs hI => ?_)
  refine lv_if_eq (tgt := 19) hx hb dX7_isArgument_5 (by decide) (fun c3 => ?_) (fun c3 => ?_)
  · replace h := tf_pos c3 h
    refine lv_iconst (v := 0) hx hb dX7_isArgument_19 (by decide +kernel) ?_
    exact tf_zret hx hb hr (Or.inl rfl) hI h dX7_isArgument_20 hlocks
  replace h := tf_neg c3 h
  refine lv_iload_n hx hb dX7_isArgument_8 rfl (lv_at hl 1 rfl) ?_
  obtain ⟨u4, q5, h⟩ := tf_gbind h
  refine tf_callS (rest := []) ⟨hx, hb, hml, hown, hts⟩ hK hN hI (kM_X7_isPrimitive l D ad cI cZ _ _ _ q5) (va_cwS 1 hts gX7_isArgument_X7_isPrimitive rfl rfl rfl (by decide +kernel) ⟨Nat.le_of_ble_eq_true rfl, Nat.le_of_ble_eq_true rfl⟩) rfl hl.1 rfl (Nat.le_of_ble_eq_true rfl) dX7_isArgument_9 (fun H locs hI => ?_)
  refine lv_if_ne (tgt := 19) hx hb dX7_isArgument_12 (by decide) (fun c6 => ?_) (fun c6 => ?_)
  · replace h := tf_neg c6 h
    refine lv_iconst (v := 0) hx hb dX7_isArgument_19 (by decide +kernel) ?_
    exact tf_zret hx hb hr (Or.inl rfl) hI h dX7_isArgument_20 hlocks
  replace h := tf_pos c6 h
  refine lv_iconst (v := 1) hx hb dX7_isArgument_15 (by decide +kernel) ?_
  refine lv_goto (tgt := 20) hx hb dX7_isArgument_16 (by decide) ?_
  exact tf_zret hx hb hr (Or.inr rfl) hI h dX7_isArgument_20 hlocks

set_option maxHeartbeats 4000000 in
set_option maxRecDepth 100000 in
theorem kM_X7_type (l : Launch) (D : va_G) (ad : Nat → Nat) (cI cZ : ClassId) (σ : tf_S) (x1 x2 x3 : Int32) (z : Int32 × tf_S) (h : fX7_type σ x1 x2 x3 = some z) : tf_C l D (tf_wm ad cI cZ) [(cI, .int), (cZ, .boolean)] [] yX7_type wsX7_type ({ frames := 3, cells := 0, slots := 0, locals := 64 }) [.ref (ad 0), .int x1, .int x2, .int x3] σ z := by
  intro sz
  refine Met.ofW (cc := cX7_type) (maxL := 4) (ret := (some .int)) (by decide) rfl ?_
  intro p e s m args below meth c s₁ B hml hv
  obtain ⟨rfl, hsz, hP, hK, hN, hD0⟩ := hv
  have hx := B.exec
  have hb := B.bytes
  have hr := B.returns
  have hts := atoms_spec (ws := wsX7_type) B.pre
  have hown : s.vm.findClass RX7 = some m.cls := findClass_of_methodNamed B.named
  have hlocks := B.notSynchronized
  subst hsz
  have hI := tf_start (D := D) (tf_m_ad ad cI cZ) hP hD0
  have hl := lv_entry ([.ref (ad 0), .int x1, .int x2, .int x3]) (n := 4) (Nat.le_of_ble_eq_true rfl)
  rw [lg_entry_eq]
  generalize (lg_sl ([.ref (ad 0), .int x1, .int x2, .int x3]) ++ List.replicate (4 - (lg_sl ([.ref (ad 0), .int x1, .int x2, .int x3])).length) Slot.unset).toArray = ls at hl ⊢
  have hl : lv_has ls 4 [(0, .ref (ad 0)), (1, .int x1), (2, .int x2), (3, .int x3)] := hl
  have hn_X7 : ∀ w ∈ u_ws RX7 TX7 35, w ∈ wsX7_type := by decide +kernel
  have hf_13 := hts (.fieldLink RX7 13 "TypeFlowModel" "variables" "[I") (by decide +kernel)
  have j46 : ∀ (σ : tf_S) (H : Heap) (locs : List Loc) (ls : Array Slot), fX7_type_46 x1 x2 x3 σ = some z → tf_I D (tf_wm ad cI cZ) s.heap σ H locs → lv_has ls 4 [(0, .ref (ad 0)), (1, .int x1), (2, .int x2), (3, .int x3)] → W p l e (headSpec wsX7_type ({ frames := 3, cells := 0, slots := 0, locals := 64 })).room s m ([.ref (ad 0), .int x1, .int x2, .int x3] : List Value).toArray below meth c H locs 0 0 (tf_Q below D (tf_wm ad cI cZ) z ([.ref (ad 0), .int x1, .int x2, .int x3] : List Value).toArray s) (F0 m 46 ls []) := by
    intro σ H locs ls h hI hl
    unfold fX7_type_46 at h
    refine lv_aload_n hx hb dX7_type_46 rfl (lv_at hl 0 rfl) ?_
    refine lv_iload_n hx hb dX7_type_47 rfl (lv_at hl 1 rfl) ?_
    refine lv_aload_n hx hb dX7_type_48 rfl (lv_at hl 0 rfl) ?_
    refine tf_get (C := RX7) (T := TX7) (N := 35) hx hb hts hn_X7 hown hK hI 0 (tf_mat_0 ad cI cZ _) rfl 1 (by decide) hf_13 rfl rfl dX7_type_49 ?_
    refine lv_iload_n hx hb dX7_type_52 rfl (lv_at hl 1 rfl) ?_
    obtain ⟨b8, h⟩ := tf_gin h
    refine va_iald hx hb hK hI.1 1 0 (tf_mat_1 ad cI cZ _) rfl b8 dX7_type_53 ?_
    refine lv_if_le (tgt := 61) hx hb dX7_type_54 (by decide) (fun c9 => ?_) (fun c9 => ?_)
    · replace h := tf_pos c9 h
      refine lv_iconst (v := -1) hx hb dX7_type_61 (by decide +kernel) ?_
      refine lv_aload_n hx hb dX7_type_62 rfl (lv_at hl 0 rfl) ?_
      refine tf_get (C := RX7) (T := TX7) (N := 35) hx hb hts hn_X7 hown hK hI 0 (tf_mat_0 ad cI cZ _) rfl 1 (by decide) hf_13 rfl rfl dX7_type_63 ?_
      refine lv_iload_n hx hb dX7_type_66 rfl (lv_at hl 1 rfl) ?_
      obtain ⟨b10, h⟩ := tf_gin h
      refine va_iald hx hb hK hI.1 1 0 (tf_mat_1 ad cI cZ _) rfl b10 dX7_type_67 ?_
      refine lv_iconst (v := 1) hx hb dX7_type_68 (by decide +kernel) ?_
      refine lv_icmp_le (tgt := 76) hx hb dX7_type_69 (by decide) (fun c11 => ?_) (fun c11 => ?_)
      · replace h := tf_pos c11 h
        refine lv_iconst (v := -1) hx hb dX7_type_76 (by decide +kernel) ?_
        obtain ⟨u12, q13, h⟩ := tf_gbind h
        refine tf_callV (rest := []) ⟨hx, hb, hml, hown, hts⟩ hK hN hI (kM_X7_made l D ad cI cZ _ _ _ _ _ q13) (cwV 3 hts gX7_type_X7_made rfl rfl rfl (by decide +kernel) ⟨Nat.le_of_ble_eq_true rfl, Nat.le_of_ble_eq_true rfl⟩) 0 7 (tf_mat_0 ad cI cZ _) rfl rfl hl.1 rfl (Nat.le_of_ble_eq_true rfl) dX7_type_77 (fun H locs hI => ?_)
        exact tf_iret hx hb hr hI h dX7_type_80 hlocks
      replace h := tf_neg c11 h
      refine lv_iload_n hx hb dX7_type_72 rfl (lv_at hl 3 rfl) ?_
      refine lv_goto (tgt := 77) hx hb dX7_type_73 (by decide) ?_
      obtain ⟨u14, q15, h⟩ := tf_gbind h
      refine tf_callV (rest := []) ⟨hx, hb, hml, hown, hts⟩ hK hN hI (kM_X7_made l D ad cI cZ _ _ _ _ _ q15) (cwV 3 hts gX7_type_X7_made rfl rfl rfl (by decide +kernel) ⟨Nat.le_of_ble_eq_true rfl, Nat.le_of_ble_eq_true rfl⟩) 0 7 (tf_mat_0 ad cI cZ _) rfl rfl hl.1 rfl (Nat.le_of_ble_eq_true rfl) dX7_type_77 (fun H locs hI => ?_)
      exact tf_iret hx hb hr hI h dX7_type_80 hlocks
    replace h := tf_neg c9 h
    refine lv_iload_n hx hb dX7_type_57 rfl (lv_at hl 2 rfl) ?_
    refine lv_goto (tgt := 62) hx hb dX7_type_58 (by decide) ?_
    refine lv_aload_n hx hb dX7_type_62 rfl (lv_at hl 0 rfl) ?_
    refine tf_get (C := RX7) (T := TX7) (N := 35) hx hb hts hn_X7 hown hK hI 0 (tf_mat_0 ad cI cZ _) rfl 1 (by decide) hf_13 rfl rfl dX7_type_63 ?_
    refine lv_iload_n hx hb dX7_type_66 rfl (lv_at hl 1 rfl) ?_
    obtain ⟨b16, h⟩ := tf_gin h
    refine va_iald hx hb hK hI.1 1 0 (tf_mat_1 ad cI cZ _) rfl b16 dX7_type_67 ?_
    refine lv_iconst (v := 1) hx hb dX7_type_68 (by decide +kernel) ?_
    refine lv_icmp_le (tgt := 76) hx hb dX7_type_69 (by decide) (fun c17 => ?_) (fun c17 => ?_)
    · replace h := tf_pos c17 h
      refine lv_iconst (v := -1) hx hb dX7_type_76 (by decide +kernel) ?_
      obtain ⟨u18, q19, h⟩ := tf_gbind h
      refine tf_callV (rest := []) ⟨hx, hb, hml, hown, hts⟩ hK hN hI (kM_X7_made l D ad cI cZ _ _ _ _ _ q19) (cwV 3 hts gX7_type_X7_made rfl rfl rfl (by decide +kernel) ⟨Nat.le_of_ble_eq_true rfl, Nat.le_of_ble_eq_true rfl⟩) 0 7 (tf_mat_0 ad cI cZ _) rfl rfl hl.1 rfl (Nat.le_of_ble_eq_true rfl) dX7_type_77 (fun H locs hI => ?_)
      exact tf_iret hx hb hr hI h dX7_type_80 hlocks
    replace h := tf_neg c17 h
    refine lv_iload_n hx hb dX7_type_72 rfl (lv_at hl 3 rfl) ?_
    refine lv_goto (tgt := 77) hx hb dX7_type_73 (by decide) ?_
    obtain ⟨u20, q21, h⟩ := tf_gbind h
    refine tf_callV (rest := []) ⟨hx, hb, hml, hown, hts⟩ hK hN hI (kM_X7_made l D ad cI cZ _ _ _ _ _ q21) (cwV 3 hts gX7_type_X7_made rfl rfl rfl (by decide +kernel) ⟨Nat.le_of_ble_eq_true rfl, Nat.le_of_ble_eq_true rfl⟩) 0 7 (tf_mat_0 ad cI cZ _) rfl rfl hl.1 rfl (Nat.le_of_ble_eq_true rfl) dX7_type_77 (fun H locs hI => ?_)
    exact tf_iret hx hb hr hI h dX7_type_80 hlocks
  unfold fX7_type at h
  refine lv_aload_n hx hb dX7_type_0 rfl (lv_at hl 0 rfl) ?_
  refine lv_iload_n hx hb dX7_type_1 rfl (lv_at hl 1 rfl) ?_
  obtain ⟨u1, q2, h⟩ := tf_gbind h
  refine tf_callV (rest := []) ⟨hx, hb, hml, hown, hts⟩ hK hN hI (kM_X7_isClass l D ad cI cZ _ _ _ q2) (cwV 1 hts gX7_type_X7_isClass rfl rfl rfl (by decide +kernel) ⟨Nat.le_of_ble_eq_true rfl, Nat.le_of_ble_eq_true rfl⟩) 0 7 (tf_mat_0 ad cI cZ _) rfl rfl hl.1 rfl (Nat.le_of_ble_eq_true rfl) dX7_type_2 (fun H locs hI => ?_)
  refine lv_if_eq (tgt := 43) hx hb dX7_type_5 (by decide) (fun c3 => ?_) (fun c3 => ?_)
  · replace h := tf_pos c3 h
    refine lv_bipush (v := -2) hx hb dX7_type_43 (by decide +kernel) ?_
    exact tf_iret hx hb hr hI h dX7_type_45 hlocks
  replace h := tf_neg c3 h
  refine lv_aload_n hx hb dX7_type_8 rfl (lv_at hl 0 rfl) ?_
  refine tf_get (C := RX7) (T := TX7) (N := 35) hx hb hts hn_X7 hown hK hI 0 (tf_mat_0 ad cI cZ _) rfl 1 (by decide) hf_13 rfl rfl dX7_type_9 ?_
  refine lv_iload_n hx hb dX7_type_12 rfl (lv_at hl 1 rfl) ?_
  obtain ⟨b4, h⟩ := tf_gin h
  refine va_iald hx hb hK hI.1 1 0 (tf_mat_1 ad cI cZ _) rfl b4 dX7_type_13 ?_
  refine lv_if_le (tgt := 25) hx hb dX7_type_14 (by decide) (fun c5 => ?_) (fun c5 => ?_)
  · replace h := tf_pos c5 h
    refine lv_aload_n hx hb dX7_type_25 rfl (lv_at hl 0 rfl) ?_
    refine tf_get (C := RX7) (T := TX7) (N := 35) hx hb hts hn_X7 hown hK hI 0 (tf_mat_0 ad cI cZ _) rfl 1 (by decide) hf_13 rfl rfl dX7_type_26 ?_
    refine lv_iload_n hx hb dX7_type_29 rfl (lv_at hl 1 rfl) ?_
    obtain ⟨b6, h⟩ := tf_gin h
    refine va_iald hx hb hK hI.1 1 0 (tf_mat_1 ad cI cZ _) rfl b6 dX7_type_30 ?_
    refine lv_iconst (v := 1) hx hb dX7_type_31 (by decide +kernel) ?_
    refine lv_icmp_le (tgt := 46) hx hb dX7_type_32 (by decide) (fun c7 => ?_) (fun c7 => ?_)
    · replace h := tf_pos c7 h
      exact j46  _ _ _ _ h hI (lv_sub hl [0, 1, 2, 3] rfl)
    replace h := tf_neg c7 h
    refine lv_aload_n hx hb dX7_type_35 rfl (lv_at hl 0 rfl) ?_
    refine lv_iload_n hx hb dX7_type_36 rfl (lv_at hl 3 rfl) ?_
    obtain ⟨u22, q23, h⟩ := tf_gbind h
    refine tf_callV (rest := []) ⟨hx, hb, hml, hown, hts⟩ hK hN hI (kM_X7_isArgument l D ad cI cZ _ _ _ q23) (cwV 1 hts gX7_type_X7_isArgument rfl rfl rfl (by decide +kernel) ⟨Nat.le_of_ble_eq_true rfl, Nat.le_of_ble_eq_true rfl⟩) 0 7 (tf_mat_0 ad cI cZ _) rfl rfl hl.1 rfl (Nat.le_of_ble_eq_true rfl) dX7_type_37 (fun H locs hI => ?_)
    refine lv_if_ne (tgt := 46) hx hb dX7_type_40 (by decide) (fun c24 => ?_) (fun c24 => ?_)
    · replace h := tf_neg c24 h
      exact j46  _ _ _ _ h hI (lv_sub hl [0, 1, 2, 3] rfl)
    replace h := tf_pos c24 h
    refine lv_bipush (v := -2) hx hb dX7_type_43 (by decide +kernel) ?_
    exact tf_iret hx hb hr hI h dX7_type_45 hlocks
  replace h := tf_neg c5 h
  refine lv_aload_n hx hb dX7_type_17 rfl (lv_at hl 0 rfl) ?_
  refine lv_iload_n hx hb dX7_type_18 rfl (lv_at hl 2 rfl) ?_
  obtain ⟨u25, q26, h⟩ := tf_gbind h
  refine tf_callV (rest := []) ⟨hx, hb, hml, hown, hts⟩ hK hN hI (kM_X7_isArgument l D ad cI cZ _ _ _ q26) (cwV 1 hts gX7_type_X7_isArgument rfl rfl rfl (by decide +kernel) ⟨Nat.le_of_ble_eq_true rfl, Nat.le_of_ble_eq_true rfl⟩) 0 7 (tf_mat_0 ad cI cZ _) rfl rfl hl.1 rfl (Nat.le_of_ble_eq_true rfl) dX7_type_19 (fun H locs hI => ?_)
  refine lv_if_eq (tgt := 43) hx hb dX7_type_22 (by decide) (fun c27 => ?_) (fun c27 => ?_)
  · replace h := tf_pos c27 h
    refine lv_bipush (v := -2) hx hb dX7_type_43 (by decide +kernel) ?_
    exact tf_iret hx hb hr hI h dX7_type_45 hlocks
  replace h := tf_neg c27 h
  refine lv_aload_n hx hb dX7_type_25 rfl (lv_at hl 0 rfl) ?_
  refine tf_get (C := RX7) (T := TX7) (N := 35) hx hb hts hn_X7 hown hK hI 0 (tf_mat_0 ad cI cZ _) rfl 1 (by decide) hf_13 rfl rfl dX7_type_26 ?_
  refine lv_iload_n hx hb dX7_type_29 rfl (lv_at hl 1 rfl) ?_
  obtain ⟨b28, h⟩ := tf_gin h
  refine va_iald hx hb hK hI.1 1 0 (tf_mat_1 ad cI cZ _) rfl b28 dX7_type_30 ?_
  refine lv_iconst (v := 1) hx hb dX7_type_31 (by decide +kernel) ?_
  refine lv_icmp_le (tgt := 46) hx hb dX7_type_32 (by decide) (fun c29 => ?_) (fun c29 => ?_)
  · replace h := tf_pos c29 h
    exact j46  _ _ _ _ h hI (lv_sub hl [0, 1, 2, 3] rfl)
  replace h := tf_neg c29 h
  refine lv_aload_n hx hb dX7_type_35 rfl (lv_at hl 0 rfl) ?_
  refine lv_iload_n hx hb dX7_type_36 rfl (lv_at hl 3 rfl) ?_
  obtain ⟨u30, q31, h⟩ := tf_gbind h
  refine tf_callV (rest := []) ⟨hx, hb, hml, hown, hts⟩ hK hN hI (kM_X7_isArgument l D ad cI cZ _ _ _ q31) (cwV 1 hts gX7_type_X7_isArgument rfl rfl rfl (by decide +kernel) ⟨Nat.le_of_ble_eq_true rfl, Nat.le_of_ble_eq_true rfl⟩) 0 7 (tf_mat_0 ad cI cZ _) rfl rfl hl.1 rfl (Nat.le_of_ble_eq_true rfl) dX7_type_37 (fun H locs hI => ?_)
  refine lv_if_ne (tgt := 46) hx hb dX7_type_40 (by decide) (fun c32 => ?_) (fun c32 => ?_)
  · replace h := tf_neg c32 h
    exact j46  _ _ _ _ h hI (lv_sub hl [0, 1, 2, 3] rfl)
  replace h := tf_pos c32 h
  refine lv_bipush (v := -2) hx hb dX7_type_43 (by decide +kernel) ?_
  exact tf_iret hx hb hr hI h dX7_type_45 hlocks

set_option maxHeartbeats 4000000 in
set_option maxRecDepth 100000 in
theorem kM_X7_about (l : Launch) (D : va_G) (ad : Nat → Nat) (cI cZ : ClassId) (σ : tf_S) (x1 x2 : Int32) (z : Int32 × tf_S) (h : fX7_about σ x1 x2 = some z) : tf_C l D (tf_wm ad cI cZ) [(cI, .int), (cZ, .boolean)] [] yX7_about wsX7_about ({ frames := 2, cells := 0, slots := 0, locals := 43 }) [.ref (ad 0), .int x1, .int x2] σ z := by
  intro sz
  refine Met.ofW (cc := cX7_about) (maxL := 3) (ret := (some .int)) (by decide) rfl ?_
  intro p e s m args below meth c s₁ B hml hv
  obtain ⟨rfl, hsz, hP, hK, hN, hD0⟩ := hv
  have hx := B.exec
  have hb := B.bytes
  have hr := B.returns
  have hts := atoms_spec (ws := wsX7_about) B.pre
  have hown : s.vm.findClass RX7 = some m.cls := findClass_of_methodNamed B.named
  have hlocks := B.notSynchronized
  subst hsz
  have hI := tf_start (D := D) (tf_m_ad ad cI cZ) hP hD0
  have hl := lv_entry ([.ref (ad 0), .int x1, .int x2]) (n := 3) (Nat.le_of_ble_eq_true rfl)
  rw [lg_entry_eq]
  generalize (lg_sl ([.ref (ad 0), .int x1, .int x2]) ++ List.replicate (3 - (lg_sl ([.ref (ad 0), .int x1, .int x2])).length) Slot.unset).toArray = ls at hl ⊢
  have hl : lv_has ls 3 [(0, .ref (ad 0)), (1, .int x1), (2, .int x2)] := hl
  have hn_X7 : ∀ w ∈ u_ws RX7 TX7 35, w ∈ wsX7_about := by decide +kernel
  have hf_23 := hts (.fieldLink RX7 23 "TypeFlowModel" "classes0" "[I") (by decide +kernel)
  have hf_26 := hts (.fieldLink RX7 26 "TypeFlowModel" "first" "[I") (by decide +kernel)
  have hf_29 := hts (.fieldLink RX7 29 "TypeFlowModel" "second" "[I") (by decide +kernel)
  have hf_32 := hts (.fieldLink RX7 32 "TypeFlowModel" "free" "[I") (by decide +kernel)
  unfold fX7_about at h
  refine lv_aload_n hx hb dX7_about_0 rfl (lv_at hl 0 rfl) ?_
  refine lv_iload_n hx hb dX7_about_1 rfl (lv_at hl 1 rfl) ?_
  obtain ⟨u1, q2, h⟩ := tf_gbind h
  refine tf_callV (rest := []) ⟨hx, hb, hml, hown, hts⟩ hK hN hI (kM_X7_isType l D ad cI cZ _ _ _ q2) (cwV 1 hts gX7_about_X7_isType rfl rfl rfl (by decide +kernel) ⟨Nat.le_of_ble_eq_true rfl, Nat.le_of_ble_eq_true rfl⟩) 0 7 (tf_mat_0 ad cI cZ _) rfl rfl hl.1 rfl (Nat.le_of_ble_eq_true rfl) dX7_about_2 (fun H locs hI => ?_)
  refine lv_if_eq (tgt := 17) hx hb dX7_about_5 (by decide) (fun c3 => ?_) (fun c3 => ?_)
  · replace h := tf_pos c3 h
    refine lv_bipush (v := -2) hx hb dX7_about_17 (by decide +kernel) ?_
    exact tf_iret hx hb hr hI h dX7_about_19 hlocks
  replace h := tf_neg c3 h
  refine lv_iload_n hx hb dX7_about_8 rfl (lv_at hl 2 rfl) ?_
  refine lv_iconst (v := 0) hx hb dX7_about_9 (by decide +kernel) ?_
  refine lv_iconst (v := 3) hx hb dX7_about_10 (by decide +kernel) ?_
  obtain ⟨u4, q5, h⟩ := tf_gbind h
  refine tf_callS (rest := []) ⟨hx, hb, hml, hown, hts⟩ hK hN hI (kM_X7_isIn l D ad cI cZ _ _ _ _ _ q5) (va_cwS 3 hts gX7_about_X7_isIn rfl rfl rfl (by decide +kernel) ⟨Nat.le_of_ble_eq_true rfl, Nat.le_of_ble_eq_true rfl⟩) rfl hl.1 rfl (Nat.le_of_ble_eq_true rfl) dX7_about_11 (fun H locs hI => ?_)
  refine lv_if_ne (tgt := 20) hx hb dX7_about_14 (by decide) (fun c6 => ?_) (fun c6 => ?_)
  · replace h := tf_neg c6 h
    refine lv_iload_n hx hb dX7_about_20 rfl (lv_at hl 2 rfl) ?_
    refine lv_if_ne (tgt := 33) hx hb dX7_about_21 (by decide) (fun c7 => ?_) (fun c7 => ?_)
    · replace h := tf_neg c7 h
      refine lv_iload_n hx hb dX7_about_33 rfl (lv_at hl 2 rfl) ?_
      refine lv_iconst (v := 1) hx hb dX7_about_34 (by decide +kernel) ?_
      refine lv_icmp_ne (tgt := 47) hx hb dX7_about_35 (by decide) (fun c8 => ?_) (fun c8 => ?_)
      · replace h := tf_neg c8 h
        refine lv_iload_n hx hb dX7_about_47 rfl (lv_at hl 2 rfl) ?_
        refine lv_iconst (v := 2) hx hb dX7_about_48 (by decide +kernel) ?_
        refine lv_icmp_ne (tgt := 61) hx hb dX7_about_49 (by decide) (fun c9 => ?_) (fun c9 => ?_)
        · replace h := tf_neg c9 h
          refine lv_aload_n hx hb dX7_about_61 rfl (lv_at hl 0 rfl) ?_
          refine tf_get (C := RX7) (T := TX7) (N := 35) hx hb hts hn_X7 hown hK hI 0 (tf_mat_0 ad cI cZ _) rfl 7 (by decide) hf_32 rfl rfl dX7_about_62 ?_
          refine lv_iload_n hx hb dX7_about_65 rfl (lv_at hl 1 rfl) ?_
          obtain ⟨b10, h⟩ := tf_gin h
          refine va_iald hx hb hK hI.1 6 0 (tf_mat_6 ad cI cZ _) rfl b10 dX7_about_66 ?_
          refine lv_if_ne (tgt := 74) hx hb dX7_about_67 (by decide) (fun c11 => ?_) (fun c11 => ?_)
          · replace h := tf_neg c11 h
            refine lv_iconst (v := 0) hx hb dX7_about_74 (by decide +kernel) ?_
            exact tf_iret hx hb hr hI h dX7_about_75 hlocks
          replace h := tf_pos c11 h
          refine lv_iconst (v := 1) hx hb dX7_about_70 (by decide +kernel) ?_
          refine lv_goto (tgt := 75) hx hb dX7_about_71 (by decide) ?_
          exact tf_iret hx hb hr hI h dX7_about_75 hlocks
        replace h := tf_pos c9 h
        refine lv_aload_n hx hb dX7_about_52 rfl (lv_at hl 0 rfl) ?_
        refine tf_get (C := RX7) (T := TX7) (N := 35) hx hb hts hn_X7 hown hK hI 0 (tf_mat_0 ad cI cZ _) rfl 6 (by decide) hf_29 rfl rfl dX7_about_53 ?_
        refine lv_iload_n hx hb dX7_about_56 rfl (lv_at hl 1 rfl) ?_
        obtain ⟨b12, h⟩ := tf_gin h
        refine va_iald hx hb hK hI.1 5 0 (tf_mat_5 ad cI cZ _) rfl b12 dX7_about_57 ?_
        refine lv_goto (tgt := 75) hx hb dX7_about_58 (by decide) ?_
        exact tf_iret hx hb hr hI h dX7_about_75 hlocks
      replace h := tf_pos c8 h
      refine lv_aload_n hx hb dX7_about_38 rfl (lv_at hl 0 rfl) ?_
      refine tf_get (C := RX7) (T := TX7) (N := 35) hx hb hts hn_X7 hown hK hI 0 (tf_mat_0 ad cI cZ _) rfl 5 (by decide) hf_26 rfl rfl dX7_about_39 ?_
      refine lv_iload_n hx hb dX7_about_42 rfl (lv_at hl 1 rfl) ?_
      obtain ⟨b13, h⟩ := tf_gin h
      refine va_iald hx hb hK hI.1 4 0 (tf_mat_4 ad cI cZ _) rfl b13 dX7_about_43 ?_
      refine lv_goto (tgt := 75) hx hb dX7_about_44 (by decide) ?_
      exact tf_iret hx hb hr hI h dX7_about_75 hlocks
    replace h := tf_pos c7 h
    refine lv_aload_n hx hb dX7_about_24 rfl (lv_at hl 0 rfl) ?_
    refine tf_get (C := RX7) (T := TX7) (N := 35) hx hb hts hn_X7 hown hK hI 0 (tf_mat_0 ad cI cZ _) rfl 4 (by decide) hf_23 rfl rfl dX7_about_25 ?_
    refine lv_iload_n hx hb dX7_about_28 rfl (lv_at hl 1 rfl) ?_
    obtain ⟨b14, h⟩ := tf_gin h
    refine va_iald hx hb hK hI.1 3 0 (tf_mat_3 ad cI cZ _) rfl b14 dX7_about_29 ?_
    refine lv_goto (tgt := 75) hx hb dX7_about_30 (by decide) ?_
    exact tf_iret hx hb hr hI h dX7_about_75 hlocks
  replace h := tf_pos c6 h
  refine lv_bipush (v := -2) hx hb dX7_about_17 (by decide +kernel) ?_
  exact tf_iret hx hb hr hI h dX7_about_19 hlocks

set_option maxHeartbeats 4000000 in
set_option maxRecDepth 100000 in
theorem kM_X7_push (l : Launch) (D : va_G) (ad : Nat → Nat) (cI cZ : ClassId) (σ : tf_S) (x1 : Int32) (z : tf_S) (h : fX7_push σ x1 = some z) : tf_Cv l D (tf_wm ad cI cZ) [(cI, .int), (cZ, .boolean)] [] yX7_push wsX7_push ({ frames := 0, cells := 0, slots := 0, locals := 0 }) [.ref (ad 0), .int x1] σ z := by
  intro sz
  refine Met.ofW (cc := cX7_push) (maxL := 2) (ret := none) (by decide) rfl ?_
  intro p e s m args below meth c s₁ B hml hv
  obtain ⟨rfl, hsz, hP, hK, hN, hD0⟩ := hv
  have hx := B.exec
  have hb := B.bytes
  have hr := B.returns
  have hts := atoms_spec (ws := wsX7_push) B.pre
  have hown : s.vm.findClass RX7 = some m.cls := findClass_of_methodNamed B.named
  have hlocks := B.notSynchronized
  subst hsz
  have hI := tf_start (D := D) (tf_m_ad ad cI cZ) hP hD0
  have hl := lv_entry ([.ref (ad 0), .int x1]) (n := 2) (Nat.le_of_ble_eq_true rfl)
  rw [lg_entry_eq]
  generalize (lg_sl ([.ref (ad 0), .int x1]) ++ List.replicate (2 - (lg_sl ([.ref (ad 0), .int x1])).length) Slot.unset).toArray = ls at hl ⊢
  have hl : lv_has ls 2 [(0, .ref (ad 0)), (1, .int x1)] := hl
  have hn_X7 : ∀ w ∈ u_ws RX7 TX7 35, w ∈ wsX7_push := by decide +kernel
  have hf_38 := hts (.fieldLink RX7 38 "TypeFlowModel" "stack" "[I") (by decide +kernel)
  have hf_123 := hts (.fieldLink RX7 123 "TypeFlowModel" "high" "I") (by decide +kernel)
  unfold fX7_push at h
  refine lv_aload_n hx hb dX7_push_0 rfl (lv_at hl 0 rfl) ?_
  refine tf_get (C := RX7) (T := TX7) (N := 35) hx hb hts hn_X7 hown hK hI 0 (tf_mat_0 ad cI cZ _) rfl 9 (by decide) hf_38 rfl rfl dX7_push_1 ?_
  refine lv_aload_n hx hb dX7_push_4 rfl (lv_at hl 0 rfl) ?_
  refine tf_get (C := RX7) (T := TX7) (N := 35) hx hb hts hn_X7 hown hK hI 0 (tf_mat_0 ad cI cZ _) rfl 10 (by decide) hf_123 rfl rfl dX7_push_5 ?_
  refine lv_iload_n hx hb dX7_push_8 rfl (lv_at hl 1 rfl) ?_
  obtain ⟨b1, h⟩ := tf_gin h
  obtain ⟨s2, es2, h⟩ := tf_glet h
  refine tf_iast hx hb hK hI 8 0 (tf_mat_8 ad cI cZ _) (tf_mset_8 ad cI cZ _) rfl b1 es2 dX7_push_9 (fun H locs hI => ?_)
  refine lv_aload_n hx hb dX7_push_10 rfl (lv_at hl 0 rfl) ?_
  refine lv_dup hx hb dX7_push_11 rfl ?_
  refine tf_get (C := RX7) (T := TX7) (N := 35) hx hb hts hn_X7 hown hK hI 0 (tf_mat_0 ad cI cZ _) rfl 10 (by decide) hf_123 rfl rfl dX7_push_12 ?_
  refine lv_iconst (v := 1) hx hb dX7_push_15 (by decide +kernel) ?_
  refine lv_iadd hx hb dX7_push_16 ?_
  obtain ⟨s3, es3, h⟩ := tf_glet h
  refine tf_put (C := RX7) (T := TX7) (N := 35) (ty := .int) hx hb hts hn_X7 tyX7 tyX7_ok nmX7 hown hK hI 0 (tf_mat_0 ad cI cZ _) rfl 10 (by decide) hf_123 rfl rfl (by decide +kernel) rfl rfl (Nat.le_of_ble_eq_true rfl) (tf_mput_0_10 ad cI cZ _ _) es3 dX7_push_17 (fun H locs hI => ?_)
  exact tf_vret hx hb hr hI h dX7_push_20 hlocks

set_option maxHeartbeats 4000000 in
set_option maxRecDepth 100000 in
theorem kM_X7_isOpen (l : Launch) (D : va_G) (ad : Nat → Nat) (cI cZ : ClassId) (σ : tf_S) (x1 : Int32) (z : Int32 × tf_S) (h : fX7_isOpen σ x1 = some z) : tf_C l D (tf_wm ad cI cZ) [(cI, .int), (cZ, .boolean)] [] yX7_isOpen wsX7_isOpen ({ frames := 0, cells := 0, slots := 0, locals := 0 }) [.ref (ad 0), .int x1] σ z := by
  intro sz
  refine Met.ofW (cc := cX7_isOpen) (maxL := 2) (ret := (some .boolean)) (by decide) rfl ?_
  intro p e s m args below meth c s₁ B hml hv
  obtain ⟨rfl, hsz, hP, hK, hN, hD0⟩ := hv
  have hx := B.exec
  have hb := B.bytes
  have hr := B.returns
  have hts := atoms_spec (ws := wsX7_isOpen) B.pre
  have hown : s.vm.findClass RX7 = some m.cls := findClass_of_methodNamed B.named
  have hlocks := B.notSynchronized
  subst hsz
  have hI := tf_start (D := D) (tf_m_ad ad cI cZ) hP hD0
  have hl := lv_entry ([.ref (ad 0), .int x1]) (n := 2) (Nat.le_of_ble_eq_true rfl)
  rw [lg_entry_eq]
  generalize (lg_sl ([.ref (ad 0), .int x1]) ++ List.replicate (2 - (lg_sl ([.ref (ad 0), .int x1])).length) Slot.unset).toArray = ls at hl ⊢
  have hl : lv_has ls 2 [(0, .ref (ad 0)), (1, .int x1)] := hl
  have hn_X7 : ∀ w ∈ u_ws RX7 TX7 35, w ∈ wsX7_isOpen := by decide +kernel
  have hf_35 := hts (.fieldLink RX7 35 "TypeFlowModel" "came" "[I") (by decide +kernel)
  unfold fX7_isOpen at h
  refine lv_iload_n hx hb dX7_isOpen_0 rfl (lv_at hl 1 rfl) ?_
  refine lv_iconst (v := 5) hx hb dX7_isOpen_1 (by decide +kernel) ?_
  refine lv_icmp_le (tgt := 19) hx hb dX7_isOpen_2 (by decide) (fun c1 => ?_) (fun c1 => ?_)
  · replace h := tf_pos c1 h
    refine lv_iconst (v := 0) hx hb dX7_isOpen_19 (by decide +kernel) ?_
    exact tf_zret hx hb hr (Or.inl rfl) hI h dX7_isOpen_20 hlocks
  replace h := tf_neg c1 h
  refine lv_aload_n hx hb dX7_isOpen_5 rfl (lv_at hl 0 rfl) ?_
  refine tf_get (C := RX7) (T := TX7) (N := 35) hx hb hts hn_X7 hown hK hI 0 (tf_mat_0 ad cI cZ _) rfl 8 (by decide) hf_35 rfl rfl dX7_isOpen_6 ?_
  refine lv_iload_n hx hb dX7_isOpen_9 rfl (lv_at hl 1 rfl) ?_
  obtain ⟨b2, h⟩ := tf_gin h
  refine va_iald hx hb hK hI.1 7 0 (tf_mat_7 ad cI cZ _) rfl b2 dX7_isOpen_10 ?_
  refine lv_iconst (v := -1) hx hb dX7_isOpen_11 (by decide +kernel) ?_
  refine lv_icmp_ne (tgt := 19) hx hb dX7_isOpen_12 (by decide) (fun c3 => ?_) (fun c3 => ?_)
  · replace h := tf_neg c3 h
    refine lv_iconst (v := 0) hx hb dX7_isOpen_19 (by decide +kernel) ?_
    exact tf_zret hx hb hr (Or.inl rfl) hI h dX7_isOpen_20 hlocks
  replace h := tf_pos c3 h
  refine lv_iconst (v := 1) hx hb dX7_isOpen_15 (by decide +kernel) ?_
  refine lv_goto (tgt := 20) hx hb dX7_isOpen_16 (by decide) ?_
  exact tf_zret hx hb hr (Or.inr rfl) hI h dX7_isOpen_20 hlocks
