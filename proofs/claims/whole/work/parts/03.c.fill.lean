/-! Arrays.fill over one array -/
def tf_fl (f : Nat → Int32) (n : Nat) (x : Int32) : Nat → Int32 := fun j => if j < n then x else f j
theorem tf_fl_0 (f : Nat → Int32) (x : Int32) : tf_fl f 0 x = f := by
  funext j; simp [tf_fl]
theorem tf_fl_s (f : Nat → Int32) (n : Nat) (x : Int32) : upd (tf_fl f n x) n x = tf_fl f (n + 1) x := by
  funext j
  unfold upd tf_fl
  by_cases h : j = n
  · subst h; simp
  · rw [if_neg h]
    by_cases h2 : j < n
    · rw [if_pos h2, if_pos (by omega)]
    · rw [if_neg h2, if_neg (by omega)]
theorem tf_Pset {D : va_G} {cl : List vw_C} {A : Nat → Prop} {p : Nat} {ws : va_W} {a : Nat} {e0 e : va_E} {H H1 : Heap} (h : va_P D cl ws H) (hD : va_D A ws) (hp : ws[p]? = some (a, e0)) (he : va_at D cl (a, e) H1) (oq : ∀ (k : Nat) (q : Nat × va_E), ws[k]? = some q → q.1 ≠ a → H1[q.1]? = H[q.1]?) : va_P D cl (ws.set p (a, e)) H1 := by
  have hl := (List.getElem?_eq_some_iff.mp hp).1
  intro k q hk
  by_cases hkp : k = p
  · subst hkp
    rw [List.getElem?_set_self hl] at hk
    cases hk
    exact he
  · rw [List.getElem?_set_ne (Ne.symm hkp)] at hk
    exact (h k q hk).kept (oq k q hk (fun z => hkp (hD.1 k p q (a, e0) hk hp z)))
set_option maxHeartbeats 4000000 in
set_option maxRecDepth 100000 in
theorem tf_kfill (l : Launch) (D : va_G) (a : Nat) (cI : ClassId) (n : Nat) (f : Nat → Int32) (x : Int32) (hn : n < 2 ^ 31) (sz : Nat) : Met l yJ7_fill_53178 wsJ7_fill_53178 ({ frames := 0, cells := 0, slots := 0, locals := 0 }) (va_Pc [.ref a, .int x] (fun U => U.heap.size = sz ∧ va_P D vwCl [(a, .inl (cI, n, .inl f))] U.heap ∧ va_K D vwCl [(cI, .int)] U ∧ va_D (fun _ => True) [(a, .inl (cI, n, .inl f))])) (va_Qv (fun (g : Nat → Int32) => g = tf_fl f n x) (fun g t => va_P D vwCl [(a, .inl (cI, n, .inl g))] t.heap ∧ va_D (va_A [(a, .inl (cI, n, .inl f))] sz) [(a, .inl (cI, n, .inl g))]) (va_A [(a, .inl (cI, n, .inl f))] sz)) 0 0 (va_A [(a, .inl (cI, n, .inl f))] sz) := by
  refine Met.ofW (cc := cJ7_fill_53178) (maxL := 4) (ret := none) (by decide) rfl ?_
  intro p e s m args below meth c s₁ B hml hv
  obtain ⟨rfl, hsz, hP, hK, hD0⟩ := hv
  have hx := B.exec
  have hb := B.bytes
  have hr := B.returns
  have hlocks := B.notSynchronized
  subst hsz
  have hD := hD0.self (sz := s.heap.size)
  generalize hAe : va_A [(a, .inl (cI, n, .inl f))] s.heap.size = A at hD ⊢
  have hS : va_S A s.heap s.heap [] := va_S.rf
  have hl := lv_entry ([.ref a, .int x]) (n := 4) (Nat.le_of_ble_eq_true rfl)
  rw [lg_entry_eq]
  generalize (lg_sl ([.ref a, .int x]) ++ List.replicate (4 - (lg_sl ([.ref a, .int x])).length) Slot.unset).toArray = ls at hl ⊢
  have hl : lv_has ls 4 [(0, .ref a), (1, .int x)] := hl
  have loop : ∀ (k i : Nat) (g : Nat → Int32) (H : Heap) (locs : List Loc) (ls : Array Slot), i ≤ n → n + 1 ≤ i + k → g = tf_fl f i x → va_P D vwCl [(a, .inl (cI, n, .inl g))] H → va_D A [(a, .inl (cI, n, .inl g))] → va_S A s.heap H locs → lv_has ls 4 [(0, .ref a), (1, .int x), (2, .int (nI i)), (3, .int (nI n))] →
      W p l e (headSpec wsJ7_fill_53178 ({ frames := 0, cells := 0, slots := 0, locals := 0 })).room s m ([.ref a, .int x] : List Value).toArray below meth c H locs 0 0 (MQ below (va_Qv (fun (g : Nat → Int32) => g = tf_fl f n x) (fun g t => va_P D vwCl [(a, .inl (cI, n, .inl g))] t.heap ∧ va_D A [(a, .inl (cI, n, .inl g))]) A) ([.ref a, .int x] : List Value).toArray s 0 0 A) (F0 m 5 ls []) := by
    intro k
    induction k with
    | zero => intro i g H locs ls h1 h2; exact absurd h2 (by omega)
    | succ k ih =>
      intro i g H locs ls hi hk hg hP hD hS hl
      refine lv_iload_n hx hb dJ7_fill_53178_5 rfl (lv_at hl 2 rfl) ?_
      refine lv_iload_n hx hb dJ7_fill_53178_6 rfl (lv_at hl 3 rfl) ?_
      refine lv_icmp_ge (tgt := 20) hx hb dJ7_fill_53178_7 (by decide) (fun c1 => ?_) (fun c1 => ?_)
      · have hin : ¬ i < n := fun q => nI_ge q hn c1
        have e : i = n := by omega
        subst e
        exact W.vret hx hb hr (fun t ht hW => ⟨⟨g, rfl, hg, by rw [ht]; exact hP, hD⟩, hS.F ht⟩) hS.2.2 dJ7_fill_53178_20 hlocks
      · have hin : i < n := by
          rcases Nat.lt_or_ge i n with q | q
          · exact q
          · exact absurd (nI_le q (by omega)) c1
        refine lv_aload_n hx hb dJ7_fill_53178_10 rfl (lv_at hl 0 rfl) ?_
        refine lv_iload_n hx hb dJ7_fill_53178_11 rfl (lv_at hl 2 rfl) ?_
        refine lv_iload_n hx hb dJ7_fill_53178_12 rfl (lv_at hl 1 rfl) ?_
        refine va_iast hx hb hK hP hD hS 0 0 rfl rfl (vp_in_nI hin hn) dJ7_fill_53178_13 (fun H locs hP hD hS => ?_)
        rw [nI_clamp (by omega)] at hP hD
        obtain ⟨y, ey⟩ : ∃ y : Int32, y = nI i + 1 := ⟨_, rfl⟩
        refine lv_iinc (v := y) (lv' := [(2, .int y), (0, .ref a), (1, .int x), (3, .int (nI n))]) hx hb dJ7_fill_53178_14 hl (k := 2) rfl (by rw [ey]; rfl) (by decide) rfl (fun ls hl => ?_)
        refine lv_goto (tgt := 5) hx hb dJ7_fill_53178_17 (by decide) ?_
        rw [nI_1] at ey
        subst ey
        exact ih (i + 1) (upd g i x) _ _ _ hin (by omega) (by rw [hg, tf_fl_s]) hP hD hS (lv_sub hl [1, 2, 0, 3] rfl)
  refine lv_iconst (v := 0) hx hb dJ7_fill_53178_0 (by decide) ?_
  refine lv_istore_n (lv' := [(2, .int 0), (0, .ref a), (1, .int x)]) hx hb dJ7_fill_53178_1 rfl hl (by decide) rfl (fun ls hl => ?_)
  refine lv_aload_n hx hb dJ7_fill_53178_2 rfl (lv_at hl 1 rfl) ?_
  refine va_alen hx hb hK hP 0 0 rfl (ty := .int) rfl (v := nI n) rfl dJ7_fill_53178_3 ?_
  refine lv_istore_n (lv' := [(3, .int (nI n)), (2, .int 0), (0, .ref a), (1, .int x)]) hx hb dJ7_fill_53178_4 rfl hl (by decide) rfl (fun ls hl => ?_)
  exact loop (n + 1) 0 f _ _ _ (Nat.zero_le n) (by omega) (tf_fl_0 f x).symm hP hD hS (lv_sub hl [2, 3, 1, 0] rfl)
theorem tf_fill {p : Program} {l : Launch} {e : Env} {R : Room} {s : State} {m : MethodId} {args : Array Value} {below : List Frame} {meth : Method} {c : Code} {H : Heap} {locs : List Loc} {Q : State → Prop}
    {cc : ByteArray} {pc : Nat} {ls : Array Slot} {rest : List Value} {D : va_G} {w : tf_S → va_W} {σ σ1 : tf_S} {tys : List (ClassId × FieldType)} {Ts : List Cond} {own : String} {nL index : Nat}
    (S : CallFix p m c cc nL s args Ts own) (hK : va_K D vwCl tys s) (hI : tf_I D w s.heap σ H locs) (q0 t0 : Nat) {k a n : Nat} {cA : ClassId} {x : Int32} (ha : (w σ)[q0]? = some (a, .inl (cA, n, .inl (σ k))))
    (hs : ∀ f : Nat → Int32, (w σ).set q0 (a, .inl (cA, n, .inl f)) = w (tf_hs σ k f)) (ht0 : tys[t0]? = some (cA, .int)) (cw : CallB R s args own index yJ7_fill_53178 cJ7_fill_53178 4 none wsJ7_fill_53178 ({ frames := 0, cells := 0, slots := 0, locals := 0 }) 0 0 2 ∧ (Cond.static yJ7_fill_53178).before args s = true)
    (hsize : ls.size = nL) (hn : n < 2 ^ 31) (hroom : (rest.map fun v => v.category).sum ≤ 8) (e1 : σ1 = tf_hs σ k (tf_fl (σ k) n x)) (hdg : decode cc pc = .ok (.invokestatic index, 3))
    (kk : ∀ (H1 : Heap) (locs1 : List Loc), tf_I D w s.heap σ1 H1 locs1 → W p l e R s m args below meth c H1 locs1 0 0 Q (F0 m (pc + 3) ls rest)) : W p l e R s m args below meth c H locs 0 0 Q (F0 m pc ls (.int x :: .ref a :: rest)) := by
  have hAa : va_A (w tf_0) s.heap.size a := hI.2.1.2 q0 _ ha
  have hAA : ∀ q, va_A [(a, .inl (cA, n, .inl (σ k)))] H.size q → va_A (w tf_0) s.heap.size q := by
    intro q hq
    rcases hq with ⟨j, e, hj⟩ | hq
    · have : q = a := by
        match j, hj with
        | 0, hj => cases hj; rfl
        | j + 1, hj => cases hj
      rw [this]; exact hAa
    · exact Or.inr (Nat.le_trans hI.2.2.1 hq)
  have hPc : va_P D vwCl [(a, .inl (cA, n, .inl (σ k)))] H := fun j q hj => by
    match j, hj with
    | 0, hj => cases hj; exact hI.1 q0 _ ha
    | j + 1, hj => cases hj
  have hKc : va_K D vwCl [(cA, .int)] s := by
    refine ⟨hK.1, fun j q hj => ?_⟩
    match j, hj with
    | 0, hj => cases hj; exact hK.2 t0 _ ht0
    | j + 1, hj => cases hj
  have hDc : va_D (fun _ => True) [(a, .inl (cA, n, .inl (σ k)))] := by
    refine ⟨fun i j x y hi hj _ => ?_, fun _ _ _ => trivial⟩
    match i, j, hi, hj with
    | 0, 0, _, _ => rfl
    | i + 1, _, hi, _ => cases hi
    | 0, j + 1, _, hj => cases hj
  refine va_callv (va_runS (As := [.ref a, .int x]) (rest := rest) S (tf_kfill l D a cA n (σ k) x hn H.size) cw ⟨fun b U g mk q => ?_, fun U hU hW => ?_⟩ rfl rfl hsize rfl (lv_room hroom) hdg ⟨Nat.zero_le _, Nat.zero_le _⟩) hI.2.2 (fun q _ h => hAA q h) hAA (fun u t H1 locs1 ht hvm hw hB hz hk hS => ?_)
  · obtain ⟨q0, q1, qP, qK, qD⟩ := q
    exact ⟨q0, q1, qP, va_K.moved (u := U) (U := U.calling g mk b) (Vm.Alike.refl U.vm) qK, qD⟩
  · exact ⟨rfl, by rw [hU], by rw [hU]; exact hPc, va_K.moved hW.alike hKc, hDc⟩
  · subst hw
    obtain ⟨hP1, hD1⟩ := hB
    rw [ht] at hP1
    have h1 : va_P D vwCl ((w σ).set q0 (a, .inl (cA, n, .inl (tf_fl (σ k) n x)))) H1 := by
      refine tf_Pset hI.1 hI.2.1 ha (hP1 0 _ rfl) (fun j q hj hne => hk q.1 (hI.1 j q hj).lt (fun hq => ?_))
      rcases hq with ⟨i, e, hi⟩ | hq
      · match i, hi with
        | 0, hi => cases hi; exact hne rfl
        | i + 1, hi => cases hi
      · exact absurd (hI.1 j q hj).lt (Nat.not_lt.mpr hq)
    have h2 : va_D (va_A (w tf_0) s.heap.size) ((w σ).set q0 (a, .inl (cA, n, .inl (tf_fl (σ k) n x)))) := hI.2.1.set ha
    rw [hs] at h1 h2
    subst e1
    exact kk H1 locs1 ⟨h1, h2, hS⟩
