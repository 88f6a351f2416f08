set_option maxHeartbeats 4000000 in
set_option maxRecDepth 100000 in
theorem kc_X7_init (l : Launch) (D : va_G) (cI cZ : ClassId) (h0 sz : Nat) (z : tf_S) (h : fX7_init (tf_wr (tf_wr tf_0 0 0 1) 0 3 7) = some z) : Met l yX7_init wsX7_init ({ frames := 1, cells := 27, slots := 7818, locals := 20 }) (va_Pc [.ref h0] (fun U => U.heap.size = sz ∧ va_P D vwCl [(h0, .inr (7, [.int 0, .null, .null, .int 0, .null, .null, .null, .null, .null, .null, .int 0, .int 0, .null, .null, .int 0, .null, .null, .null, .null, .null, .int 0, .null, .null, .int 0, .int 0, .null, .null, .null, .null, .null, .null, .null, .null, .null, .null]))] U.heap ∧ va_K D vwCl [(cI, .int), (cZ, .boolean)] U ∧ tf_N tf_nest U ∧ va_D (fun _ => True) [(h0, .inr (7, [.int 0, .null, .null, .int 0, .null, .null, .null, .null, .null, .null, .int 0, .int 0, .null, .null, .int 0, .null, .null, .null, .null, .null, .int 0, .null, .null, .int 0, .int 0, .null, .null, .null, .null, .null, .null, .null, .null, .null, .null]))])) (va_Qv (fun (ad : Nat → Nat) => ad 0 = h0) (fun ad t => va_P D vwCl (tf_wm ad cI cZ z) t.heap ∧ va_D (va_A [(h0, .inr (7, [.int 0, .null, .null, .int 0, .null, .null, .null, .null, .null, .null, .int 0, .int 0, .null, .null, .int 0, .null, .null, .null, .null, .null, .int 0, .null, .null, .int 0, .int 0, .null, .null, .null, .null, .null, .null, .null, .null, .null, .null]))] sz) (tf_wm ad cI cZ z)) (va_A [(h0, .inr (7, [.int 0, .null, .null, .int 0, .null, .null, .null, .null, .null, .null, .int 0, .int 0, .null, .null, .int 0, .null, .null, .null, .null, .null, .int 0, .null, .null, .int 0, .int 0, .null, .null, .null, .null, .null, .null, .null, .null, .null, .null]))] sz)) 27 7818 (va_A [(h0, .inr (7, [.int 0, .null, .null, .int 0, .null, .null, .null, .null, .null, .null, .int 0, .int 0, .null, .null, .int 0, .null, .null, .null, .null, .null, .int 0, .null, .null, .int 0, .int 0, .null, .null, .null, .null, .null, .null, .null, .null, .null, .null]))] sz) := by
  refine Met.ofW (cc := cX7_init) (maxL := 2) (ret := none) (by decide) rfl ?_
  intro p e s m args below meth c s₁ B hml hv
  obtain ⟨rfl, hsz, hP, hK, hN, hD0⟩ := hv
  have hx := B.exec
  have hb := B.bytes
  have hr := B.returns
  have hts := atoms_spec (ws := wsX7_init) B.pre
  have hown : s.vm.findClass RX7 = some m.cls := findClass_of_methodNamed B.named
  have hlocks := B.notSynchronized
  have hin : meth.name = "<init>" := (name_of_methodNamed B.named B.method).1
  subst hsz
  have hD := hD0.self (sz := s.heap.size)
  generalize hAe : va_A [(h0, .inr (7, [.int 0, .null, .null, .int 0, .null, .null, .null, .null, .null, .null, .int 0, .int 0, .null, .null, .int 0, .null, .null, .null, .null, .null, .int 0, .null, .null, .int 0, .int 0, .null, .null, .null, .null, .null, .null, .null, .null, .null, .null]))] s.heap.size = A at hD ⊢
  have hA : ∀ q : Nat, s.heap.size ≤ q → A q := fun q h => by rw [← hAe]; exact Or.inr h
  have hS : va_S A s.heap s.heap [] := va_S.rf
  have hl := lv_entry ([.ref h0]) (n := 2) (Nat.le_of_ble_eq_true rfl)
  rw [lg_entry_eq]
  generalize (lg_sl ([.ref h0]) ++ List.replicate (2 - (lg_sl ([.ref h0])).length) Slot.unset).toArray = ls at hl ⊢
  have hl : lv_has ls 2 [(0, .ref h0)] := hl
  refine lv_aload_n hx hb dX7_init_0 rfl (lv_at hl 0 rfl) ?_
  refine W.objInit hx hb hown (hts (.methodLink RX7 1 objectInit) (by decide +kernel)) (hts (.instanceMethod objectInit) (by decide +kernel)) (hts (.code objectInit ⟨#[0xb1]⟩ 1 none) (List.mem_of_getElem? (i := 3) rfl)) rfl (by rw [hml]; exact hl.1) rfl dX7_init_1 (Nat.le_of_ble_eq_true rfl) (Nat.le_of_ble_eq_true rfl) ?_
  refine W.eq (g2 := F0 m 4 ls []) rfl ?_
  refine sg7_0 hx hb hts hown hin hK hA hl hP hD hS (fun q1 q2 q3 q4 H locs hP hD hS => ?_)
  refine sg7_1 hx hb hts hown hin hK hA hl hP hD hS (fun q5 q6 q7 q8 H locs hP hD hS => ?_)
  refine sg7_2 hx hb hts hown hin hK hA hl hP hD hS (fun q9 q10 q11 q12 H locs hP hD hS => ?_)
  refine sg7_3 hx hb hts hown hin hK hA hl hP hD hS (fun q13 q14 q15 q16 H locs hP hD hS => ?_)
  refine sg7_4 hx hb hts hown hin hK hA hl hP hD hS (fun q17 q18 q19 q20 H locs hP hD hS => ?_)
  refine sg7_5 hx hb hts hown hin hK hA hl hP hD hS (fun q21 q22 q23 q24 H locs hP hD hS => ?_)
  refine sg7_6 hx hb hts hown hin hK hA hl hP hD hS (fun q25 q26 q27 H locs hP hD hS => ?_)
  obtain ⟨ad, rfl, rfl, rfl, rfl, rfl, rfl, rfl, rfl, rfl, rfl, rfl, rfl, rfl, rfl, rfl, rfl, rfl, rfl, rfl, rfl, rfl, rfl, rfl, rfl, rfl, rfl, rfl, rfl⟩ : ∃ ad : Nat → Nat, ad 0 = h0 ∧ ad 1 = q1 ∧ ad 2 = q2 ∧ ad 3 = q3 ∧ ad 4 = q4 ∧ ad 5 = q5 ∧ ad 6 = q6 ∧ ad 7 = q7 ∧ ad 8 = q8 ∧ ad 9 = q9 ∧ ad 10 = q10 ∧ ad 11 = q11 ∧ ad 12 = q12 ∧ ad 13 = q13 ∧ ad 14 = q14 ∧ ad 15 = q15 ∧ ad 16 = q16 ∧ ad 17 = q17 ∧ ad 18 = q18 ∧ ad 19 = q19 ∧ ad 20 = q20 ∧ ad 21 = q21 ∧ ad 22 = q22 ∧ ad 23 = q23 ∧ ad 24 = q24 ∧ ad 25 = q25 ∧ ad 26 = q26 ∧ ad 27 = q27 := ⟨fun i => match i with | 0 => h0 | 1 => q1 | 2 => q2 | 3 => q3 | 4 => q4 | 5 => q5 | 6 => q6 | 7 => q7 | 8 => q8 | 9 => q9 | 10 => q10 | 11 => q11 | 12 => q12 | 13 => q13 | 14 => q14 | 15 => q15 | 16 => q16 | 17 => q17 | 18 => q18 | 19 => q19 | 20 => q20 | 21 => q21 | 22 => q22 | 23 => q23 | 24 => q24 | 25 => q25 | 26 => q26 | 27 => q27 | _ => 0, rfl, rfl, rfl, rfl, rfl, rfl, rfl, rfl, rfl, rfl, rfl, rfl, rfl, rfl, rfl, rfl, rfl, rfl, rfl, rfl, rfl, rfl, rfl, rfl, rfl, rfl, rfl, rfl⟩
  have hP9 : va_P D vwCl (tf_wm ad cI cZ (tf_wr (tf_wr tf_0 0 0 1) 0 3 7)) H := hP.sub [0, 1, 2, 3, 4, 5, 6, 7, 8, 9, 10, 11, 12, 13, 14, 15, 16, 17, 18, 19, 20, 21, 22, 23, 24, 25, 26, 27] rfl
  have hD9 : va_D A (tf_wm ad cI cZ (tf_wr (tf_wr tf_0 0 0 1) 0 3 7)) := hD.sub [0, 1, 2, 3, 4, 5, 6, 7, 8, 9, 10, 11, 12, 13, 14, 15, 16, 17, 18, 19, 20, 21, 22, 23, 24, 25, 26, 27] (by decide) rfl
  have hA2 : ∀ q, va_A (tf_wm ad cI cZ tf_0) s.heap.size q → A q := tf_A2 (tf_m_ad ad cI cZ) hD9 hA
  have hA1 : ∀ q, A q → va_A (tf_wm ad cI cZ tf_0) s.heap.size q := fun q h => tf_A1 (w := tf_wm ad cI cZ) (k := 0) rfl q (by rw [hAe]; exact h)
  have hI : tf_I D (tf_wm ad cI cZ) s.heap (tf_wr (tf_wr tf_0 0 0 1) 0 3 7) H locs := ⟨hP9, tf_D (tf_m_ad ad cI cZ) hD9 _, tf_Smono hA1 hS⟩
  have tf_D9 : ∀ {σ : tf_S} {H : Heap} {locs : List Loc}, tf_I D (tf_wm ad cI cZ) s.heap σ H locs → va_D A (tf_wm ad cI cZ σ) := fun hI => hI.2.1.weaken (fun _ _ _ h => hA2 _ h)
  clear hP9 hP
  generalize hσ0 : (tf_wr (tf_wr tf_0 0 0 1) 0 3 7) = σ at h hI
  unfold fX7_init at h
  refine lv_iconst (v := 0) hx hb dX7_init_233 (by decide +kernel) ?_
  refine lv_istore_n (lv' := [(1, .int (0 : Int32)), (0, .ref (ad 0))]) hx hb dX7_init_234 rfl hl (by decide) rfl (fun ls hl => ?_)
  exact sg7_loop (A := A) hx hb hts hown hin hK (fun H locs ls hI => by
    refine W.widen (k := 27) (n := 7818) (by decide) (by decide) ?_
    exact W.vret hx hb hr (fun t ht hW => ⟨⟨ad, rfl, rfl, by rw [ht]; exact hI.1, tf_D9 hI⟩, (tf_Smono hA2 hI.2.2).F ht⟩) (tf_Smono hA2 hI.2.2).2.2 dX7_init_310 hlocks) _ _ _ _ _ _ h hI (lv_sub hl [1, 0] rfl)
