/-! what constructors need: rows for a walk that has made cells -/
theorem tf_uI {s : State} {c1 c2 : ClassId} (h1 : va_RA s c1 .int) (h2 : va_RA s c2 .int) : c1 = c2 := Option.some.inj ((show s.vm.findClass ("[" ++ FieldType.int.toString) = some c1 from h1).symm.trans (show s.vm.findClass ("[" ++ FieldType.int.toString) = some c2 from h2))
theorem tf_uZ {s : State} {c1 c2 : ClassId} (h1 : va_RA s c1 .boolean) (h2 : va_RA s c2 .boolean) : c1 = c2 := Option.some.inj ((show s.vm.findClass ("[" ++ FieldType.boolean.toString) = some c1 from h1).symm.trans (show s.vm.findClass ("[" ++ FieldType.boolean.toString) = some c2 from h2))
theorem tf_A1 {w : tf_S → va_W} {a k sz : Nat} {e e' : va_E} (hk : (w tf_0)[k]? = some (a, e')) (q : Nat) (h : va_A [(a, e)] sz q) : va_A (w tf_0) sz q := by
  rcases h with ⟨j, x, hj⟩ | h
  · match j, hj with
    | 0, hj => cases hj; exact Or.inl ⟨k, e', hk⟩
    | j + 1, hj => cases hj
  · exact Or.inr h
theorem tf_A2 {w : tf_S → va_W} (hAd : tf_Ad w) {σ : tf_S} {A : Nat → Prop} {sz : Nat} (hD : va_D A (w σ)) (hA : ∀ q, sz ≤ q → A q) (q : Nat) (h : va_A (w tf_0) sz q) : A q := by
  rcases h with ⟨j, x, hj⟩ | h
  · have h1 : ((w tf_0).map Prod.fst)[j]? = some q := by rw [List.getElem?_map, hj]; rfl
    rw [hAd tf_0 σ, List.getElem?_map] at h1
    cases hq : (w σ)[j]? with
    | none => rw [hq] at h1; cases h1
    | some r =>
      rw [hq] at h1
      have e : r.1 = q := Option.some.inj h1
      rw [← e]
      exact hD.2 j r hq
  · exact hA q h
theorem tf_Smono {A B : Nat → Prop} {H0 H : Heap} {locs : List Loc} (h : ∀ q, A q → B q) (hS : va_S A H0 H locs) : va_S B H0 H locs := ⟨hS.1, fun q h1 h2 => hS.2.1 q h1 (fun hq => h2 (h q hq)), fun l hl => h _ (hS.2.2 l hl)⟩
section TFG
variable {p : Program} {l : Launch} {e : Env} {R : Room} {s : State} {m : MethodId} {args : Array Value} {below : List Frame} {meth : Method} {c : Code} {H H0 : Heap} {locs : List Loc} {cells slots : Nat} {Q : State → Prop}
variable {cc : ByteArray} {pc : Nat} {ls : Array Slot} {rest : List Value} {D : va_G} {w : tf_S → va_W} {σ σ1 : tf_S} {tys : List (ClassId × FieldType)} {Nw : List (String × Nat × MethodName × String)} {A : Nat → Prop} {ws : va_W}
theorem tf_newa (hx : p.tables.exec = Jvm.exec) (hb : c.code = cc) {atype : ArrayType} (harr : (Cond.arrayClass (newarray.typeOf atype)).before args s = true) {ty : FieldType} (hty : newarray.typeOf atype = ty) (hK : va_K D vwCl tys s) (hP : va_P D vwCl ws H) (hD : va_D A ws) (hS : va_S A H0 H locs) (hA : ∀ q, H0.size ≤ q → A q)
    (t0 : Nat) {cI : ClassId} (ht : tys[t0]? = some (cI, ty)) (hu : ∀ {c1 c2 : ClassId}, va_RA s c1 ty → va_RA s c2 ty → c1 = c2)
    {n : Int32} {N' : Nat} {a0 : vp_A} (ha : ∀ cA : ClassId, vp_cell cA a0 = arrV cA N' (fun _ => defaultValue ty)) (hn : ¬ n < 0) (hN : n.toNatClampNeg = N') (hbytes : N' * componentBytes ty ≤ 536870912) (hcells : cells + 1 ≤ R.cells) (hslots : slots + N' ≤ R.slots) (hdg : decode cc pc = .ok (.newarray atype, 2))
    (kk : ∀ (q : Nat) (H1 : Heap), va_P D vwCl (ws ++ [(q, .inl (cI, a0))]) H1 → va_D A (ws ++ [(q, .inl (cI, a0))]) → va_S A H0 H1 locs → W p l e R s m args below meth c H1 locs (cells + 1) (slots + N') Q (F0 m (pc + 2) ls (.ref q :: rest))) : W p l e R s m args below meth c H locs cells slots Q (F0 m pc ls (.int n :: rest)) := by
  refine va_newa hx hb harr hty hK hP hD hS hA ha hn hN hbytes hcells hslots hdg (fun q cA H1 hK2 h1 h2 h3 => ?_)
  have hc : va_RA s cA ty := (hK2.2 tys.length (cA, ty) (by simp)).2
  have e : cA = cI := hu hc (hK.2 t0 _ ht).2
  subst e
  exact kk q H1 h1 h2 h3
variable {Ts ws' : List Cond} {nL maxL index n : Nat} {own C : String} {y : MethodName} {bytes : ByteArray} {ret : Option FieldType} {rm : Room} {As : List Value} {z : Int32 × tf_S}
theorem tf_callVg (hf : cells + 0 ≤ R.cells ∧ slots + 0 ≤ R.slots) {b : Nat} (S : CallFix p m c cc nL s args Ts own) (hK : va_K D vwCl tys s) (hN : tf_N Nw s) (hI : tf_I D w s.heap σ H locs) (hC : tf_C l D w tys Nw y ws' rm (.ref b :: As) σ z) (cw : CallW R s args own C index y bytes maxL ret ws' rm 0 0 n)
    (q0 ci : Nat) {fs : List Value} {T : u_T} {N : Nat} (hq : (w σ)[q0]? = some (b, .inr (ci, fs))) (hc : vwCl[ci]? = some (C, T, N)) (hn : As.length = n) (hsize : ls.size = nL) {st : List Value} (hstack : st = As.reverse ++ .ref b :: rest) (hroom : (rest.map fun v => v.category).sum ≤ 8) (hdg : decode cc pc = .ok (.invokevirtual index, 3))
    (kk : ∀ (H1 : Heap) (locs1 : List Loc), tf_I D w s.heap z.2 H1 locs1 → W p l e R s m args below meth c H1 locs1 cells slots Q (F0 m (pc + 3) ls (.int z.1 :: rest))) : W p l e R s m args below meth c H locs cells slots Q (F0 m pc ls st) := by
  have hp := tf_pre (av := .ref b :: As) hK hN hI rfl
  refine va_calli (va_runV (As := As) (rest := rest) S (hC H.size) cw ⟨hp.1, va_recv hK hI.1 hc hq, hp.2⟩ rfl hn hsize hstack (lv_room (m := m) (pc := pc) (ls := ls) (rest := st) hroom) hdg hf) hI.2.2 (fun q _ h => tf_back hI q h) (tf_back hI) (fun r u t H1 locs1 ht hvm hw hB hz hk hS => ?_)
  obtain ⟨rfl, rfl⟩ := hw
  obtain ⟨hP1, hD1⟩ := hB
  rw [ht] at hP1
  exact kk H1 locs1 ⟨hP1, hD1.weaken (fun _ _ _ h => tf_back hI _ h), hS⟩
theorem tf_fillg (hf : cells + 0 ≤ R.cells ∧ slots + 0 ≤ R.slots)
    (S : CallFix p m c cc nL s args Ts own) (hK : va_K D vwCl tys s) (hI : tf_I D w s.heap σ H locs) (q0 t0 : Nat) {k a n : Nat} {cA : ClassId} {x : Int32} (ha : (w σ)[q0]? = some (a, .inl (cA, n, .inl (σ k))))
    (hs : ∀ f : Nat → Int32, (w σ).set q0 (a, .inl (cA, n, .inl f)) = w (tf_hs σ k f)) (ht0 : tys[t0]? = some (cA, .int)) (cw : CallB R s args own index yJ7_fill_53178 cJ7_fill_53178 4 none wsJ7_fill_53178 ({ frames := 0, cells := 0, slots := 0, locals := 0 }) 0 0 2 ∧ (Cond.static yJ7_fill_53178).before args s = true)
    (hsize : ls.size = nL) (hn : n < 2 ^ 31) (hroom : (rest.map fun v => v.category).sum ≤ 8) (e1 : σ1 = tf_hs σ k (tf_fl (σ k) n x)) (hdg : decode cc pc = .ok (.invokestatic index, 3))
    (kk : ∀ (H1 : Heap) (locs1 : List Loc), tf_I D w s.heap σ1 H1 locs1 → W p l e R s m args below meth c H1 locs1 cells slots Q (F0 m (pc + 3) ls rest)) : W p l e R s m args below meth c H locs cells slots Q (F0 m pc ls (.int x :: .ref a :: rest)) := by
  have hAa : va_A (w tf_0) s.heap.size a := hI.2.1.2 q0 _ ha
  have hAA : ∀ q, va_A [(a, .inl (cA, n, .inl (σ k)))] H.size q → va_A (w tf_0) s.heap.size q := by
    intro q hq
    rcases hq with ⟨j, e, hj⟩ | hq
    · have : q = a := by
        match j, hj with
        | 0, hj => cases hj; rfl
        | j + 1, hj => cases hj
      rw [this]; exact hAa
    · exact Or.inr (Nat.le_trans hI.2.2.1 hq)
  have hPc : va_P D vwCl [(a, .inl (cA, n, .inl (σ k)))] H := fun j q hj => by
    match j, hj with
    | 0, hj => cases hj; exact hI.1 q0 _ ha
    | j + 1, hj => cases hj
  have hKc : va_K D vwCl [(cA, .int)] s := by
    refine ⟨hK.1, fun j q hj => ?_⟩
    match j, hj with
    | 0, hj => cases hj; exact hK.2 t0 _ ht0
    | j + 1, hj => cases hj
  have hDc : va_D (fun _ => True) [(a, .inl (cA, n, .inl (σ k)))] := by
    refine ⟨fun i j x y hi hj _ => ?_, fun _ _ _ => trivial⟩
    match i, j, hi, hj with
    | 0, 0, _, _ => rfl
    | i + 1, _, hi, _ => cases hi
    | 0, j + 1, _, hj => cases hj
  refine va_callv (va_runS (As := [.ref a, .int x]) (rest := rest) S (tf_kfill l D a cA n (σ k) x hn H.size) cw ⟨fun b U g mk q => ?_, fun U hU hW => ?_⟩ rfl rfl hsize rfl (lv_room hroom) hdg hf) hI.2.2 (fun q _ h => hAA q h) hAA (fun u t H1 locs1 ht hvm hw hB hz hk hS => ?_)
  · obtain ⟨q0, q1, qP, qK, qD⟩ := q
    exact ⟨q0, q1, qP, va_K.moved (u := U) (U := U.calling g mk b) (Vm.Alike.refl U.vm) qK, qD⟩
  · exact ⟨rfl, by rw [hU], by rw [hU]; exact hPc, va_K.moved hW.alike hKc, hDc⟩
  · subst hw
    obtain ⟨hP1, hD1⟩ := hB
    rw [ht] at hP1
    have h1 : va_P D vwCl ((w σ).set q0 (a, .inl (cA, n, .inl (tf_fl (σ k) n x)))) H1 := by
      refine tf_Pset hI.1 hI.2.1 ha (hP1 0 _ rfl) (fun j q hj hne => hk q.1 (hI.1 j q hj).lt (fun hq => ?_))
      rcases hq with ⟨i, e, hi⟩ | hq
      · match i, hi with
        | 0, hi => cases hi; exact hne rfl
        | i + 1, hi => cases hi
      · exact absurd (hI.1 j q hj).lt (Nat.not_lt.mpr hq)
    have h2 : va_D (va_A (w tf_0) s.heap.size) ((w σ).set q0 (a, .inl (cA, n, .inl (tf_fl (σ k) n x)))) := hI.2.1.set ha
    rw [hs] at h1 h2
    subst e1
    exact kk H1 locs1 ⟨h1, h2, hS⟩
end TFG
