def tf_OK_classOf (R : tf_S → tf_S → Prop) : Prop := ∀ (σx σm : tf_S), R σx σm → ∀ (a1 a2 : Int32), ∃ (r : Int32) (σx2 σm2 : tf_S), fX6_classOf σx a1 a2 = some (r, σx2) ∧ fX7_classOf σm a1 a2 = some (r, σm2) ∧ R σx2 σm2
def tf_OK_type (R : tf_S → tf_S → Prop) : Prop := ∀ (σx σm : tf_S), R σx σm → ∀ (a1 a2 a3 : Int32), ∃ (r : Int32) (σx2 σm2 : tf_S), fX6_type σx a1 a2 a3 = some (r, σx2) ∧ fX7_type σm a1 a2 a3 = some (r, σm2) ∧ R σx2 σm2
def tf_OK_member (R : tf_S → tf_S → Prop) : Prop := ∀ (σx σm : tf_S), R σx σm → ∀ (a1 a2 : Int32), ∃ (r : Int32) (σx2 σm2 : tf_S), fX6_member σx a1 a2 = some (r, σx2) ∧ fX7_member σm a1 a2 = some (r, σm2) ∧ R σx2 σm2
def tf_OK_function (R : tf_S → tf_S → Prop) : Prop := ∀ (σx σm : tf_S), R σx σm → ∀ (a1 a2 a3 : Int32), ∃ (r : Int32) (σx2 σm2 : tf_S), fX6_function σx a1 a2 a3 = some (r, σx2) ∧ fX7_function σm a1 a2 a3 = some (r, σm2) ∧ R σx2 σm2
def tf_OK_bound (R : tf_S → tf_S → Prop) : Prop := ∀ (σx σm : tf_S), R σx σm → ∀ (a1 a2 a3 : Int32), ∃ (r : Int32) (σx2 σm2 : tf_S), fX6_bound σx a1 a2 a3 = some (r, σx2) ∧ fX7_bound σm a1 a2 a3 = some (r, σm2) ∧ R σx2 σm2
def tf_OK_operator (R : tf_S → tf_S → Prop) : Prop := ∀ (σx σm : tf_S), R σx σm → ∀ (a1 a2 a3 a4 a5 a6 : Int32), ∃ (r : Int32) (σx2 σm2 : tf_S), fX6_operator σx a1 a2 a3 a4 a5 a6 = some (r, σx2) ∧ fX7_operator σm a1 a2 a3 a4 a5 a6 = some (r, σm2) ∧ R σx2 σm2
def tf_OK_clear (R : tf_S → tf_S → Prop) : Prop := ∀ (σx σm : tf_S), R σx σm → ∀ _u : Unit, ∃ (r : Int32) (σx2 σm2 : tf_S), fX6_clear σx = some (r, σx2) ∧ fX7_clear σm = some (r, σm2) ∧ R σx2 σm2
def tf_OK_flow (R : tf_S → tf_S → Prop) : Prop := ∀ (σx σm : tf_S), R σx σm → ∀ _u : Unit, ∃ (r : Int32) (σx2 σm2 : tf_S), fX6_flow σx = some (r, σx2) ∧ fX7_flow σm = some (r, σm2) ∧ R σx2 σm2
def tf_OK_comes (R : tf_S → tf_S → Prop) : Prop := ∀ (σx σm : tf_S), R σx σm → ∀ (a1 : Int32), ∃ (r : Int32) (σx2 σm2 : tf_S), fX6_comes σx a1 = some (r, σx2) ∧ fX7_comes σm a1 = some (r, σm2) ∧ R σx2 σm2
def tf_OK_reason (R : tf_S → tf_S → Prop) : Prop := ∀ (σx σm : tf_S), R σx σm → ∀ (a1 : Int32), ∃ (r : Int32) (σx2 σm2 : tf_S), fX6_reason σx a1 = some (r, σx2) ∧ fX7_reason σm a1 = some (r, σm2) ∧ R σx2 σm2
def tf_OK_mayFail (R : tf_S → tf_S → Prop) : Prop := ∀ (σx σm : tf_S), R σx σm → ∀ (a1 : Int32), ∃ (r : Int32) (σx2 σm2 : tf_S), fX6_mayFail σx a1 = some (r, σx2) ∧ fX7_mayFail σm a1 = some (r, σm2) ∧ R σx2 σm2
def tf_OK_cast (R : tf_S → tf_S → Prop) : Prop := ∀ (σx σm : tf_S), R σx σm → ∀ (a1 : Int32), ∃ (r : Int32) (σx2 σm2 : tf_S), fX6_cast σx a1 = some (r, σx2) ∧ fX7_cast σm a1 = some (r, σm2) ∧ R σx2 σm2
def tf_OK_boundTo (R : tf_S → tf_S → Prop) : Prop := ∀ (σx σm : tf_S), R σx σm → ∀ (a1 a2 : Int32), ∃ (r : Int32) (σx2 σm2 : tf_S), fX6_boundTo σx a1 a2 = some (r, σx2) ∧ fX7_boundTo σm a1 a2 = some (r, σm2) ∧ R σx2 σm2
def tf_OK_goes (R : tf_S → tf_S → Prop) : Prop := ∀ (σx σm : tf_S), R σx σm → ∀ (a1 a2 : Int32), ∃ (r : Int32) (σx2 σm2 : tf_S), fX6_goes σx a1 a2 = some (r, σx2) ∧ fX7_goes σm a1 a2 = some (r, σm2) ∧ R σx2 σm2
def tf_OK_common (R : tf_S → tf_S → Prop) : Prop := ∀ (σx σm : tf_S), R σx σm → ∀ (a1 a2 : Int32), ∃ (r : Int32) (σx2 σm2 : tf_S), fX6_common σx a1 a2 = some (r, σx2) ∧ fX7_common σm a1 a2 = some (r, σm2) ∧ R σx2 σm2
def tf_OK_seen (R : tf_S → tf_S → Prop) : Prop := ∀ (σx σm : tf_S), R σx σm → ∀ (a1 a2 : Int32), ∃ (r : Int32) (σx2 σm2 : tf_S), fX6_seen σx a1 a2 = some (r, σx2) ∧ fX7_seen σm a1 a2 = some (r, σm2) ∧ R σx2 σm2
def tf_OK_about (R : tf_S → tf_S → Prop) : Prop := ∀ (σx σm : tf_S), R σx σm → ∀ (a1 a2 : Int32), ∃ (r : Int32) (σx2 σm2 : tf_S), fX6_about σx a1 a2 = some (r, σx2) ∧ fX7_about σm a1 a2 = some (r, σm2) ∧ R σx2 σm2
def tf_OK_count (R : tf_S → tf_S → Prop) : Prop := ∀ (σx σm : tf_S), R σx σm → ∀ (a1 : Int32), ∃ (r : Int32) (σx2 σm2 : tf_S), fX6_count σx a1 = some (r, σx2) ∧ fX7_count σm a1 = some (r, σm2) ∧ R σx2 σm2
def tf_OK (R : tf_S → tf_S → Prop) : Prop := tf_OK_classOf R ∧ tf_OK_type R ∧ tf_OK_member R ∧ tf_OK_function R ∧ tf_OK_bound R ∧ tf_OK_operator R ∧ tf_OK_clear R ∧ tf_OK_flow R ∧ tf_OK_comes R ∧ tf_OK_reason R ∧ tf_OK_mayFail R ∧ tf_OK_cast R ∧ tf_OK_boundTo R ∧ tf_OK_goes R ∧ tf_OK_common R ∧ tf_OK_seen R ∧ tf_OK_about R ∧ tf_OK_count R
/-! two worlds side by side: a call on one of them -/
theorem tf_Dad {A : Nat → Prop} {ws ws' : va_W} (h : va_D A ws) (e : ws'.map Prod.fst = ws.map Prod.fst) : va_D A ws' := by
  have key : ∀ (k : Nat) (q : Nat × va_E), ws'[k]? = some q → ∃ q0, ws[k]? = some q0 ∧ q0.1 = q.1 := by
    intro k q hk
    have h1 : (ws'.map Prod.fst)[k]? = some q.1 := by rw [List.getElem?_map, hk]; rfl
    rw [e, List.getElem?_map] at h1
    cases hq : ws[k]? with
    | none => rw [hq] at h1; cases h1
    | some r => rw [hq] at h1; exact ⟨r, rfl, Option.some.inj h1⟩
  refine ⟨fun i j x y hi hj hxy => ?_, fun k q hk => ?_⟩
  · obtain ⟨x0, h1, h2⟩ := key i x hi
    obtain ⟨y0, h3, h4⟩ := key j y hj
    exact h.1 i j x0 y0 h1 h3 (h2.trans (hxy.trans h4.symm))
  · obtain ⟨q0, h1, h2⟩ := key k q hk
    rw [← h2]
    exact h.2 k q0 h1
theorem tf_swapP {D : va_G} {a b : va_W} {H : Heap} (h : va_P D vwCl (a ++ b) H) : va_P D vwCl (b ++ a) H := by
  intro k q hk
  rcases List.mem_append.mp (List.mem_of_getElem? hk) with x | x
  · obtain ⟨i, hi⟩ := List.getElem?_of_mem (List.mem_append_right a x)
    exact h i q hi
  · obtain ⟨i, hi⟩ := List.getElem?_of_mem (List.mem_append_left b x)
    exact h i q hi
theorem tf_left {a b : va_W} {k : Nat} {q : Nat × va_E} (h : a[k]? = some q) : (a ++ b)[k]? = some q := by
  rw [List.getElem?_append_left (List.getElem?_eq_some_iff.mp h).1]; exact h
theorem tf_right {a b : va_W} {k : Nat} {q : Nat × va_E} (h : b[k]? = some q) : (a ++ b)[a.length + k]? = some q := by
  rw [List.getElem?_append_right (by omega)]
  rw [show a.length + k - a.length = k by omega]
  exact h
theorem tf_swapD {A : Nat → Prop} {a b : va_W} (h : va_D A (a ++ b)) : va_D A (b ++ a) := by
  have key : ∀ (k : Nat) (q : Nat × va_E), (b ++ a)[k]? = some q → ∃ k0, (a ++ b)[k0]? = some q ∧ (k < b.length → k0 = a.length + k) ∧ (b.length ≤ k → k = b.length + k0 ∧ k0 < a.length) := by
    intro k q hk
    by_cases hl : k < b.length
    · rw [List.getElem?_append_left hl] at hk
      exact ⟨a.length + k, tf_right hk, fun _ => rfl, fun h => absurd hl (by omega)⟩
    · rw [List.getElem?_append_right (by omega)] at hk
      exact ⟨k - b.length, tf_left hk, fun h => absurd h hl, fun _ => ⟨by omega, (List.getElem?_eq_some_iff.mp hk).1⟩⟩
  refine ⟨fun i j x y hi hj hxy => ?_, fun k q hk => ?_⟩
  · obtain ⟨i0, h1, h2, h3⟩ := key i x hi
    obtain ⟨j0, g1, g2, g3⟩ := key j y hj
    have e := h.1 i0 j0 x y h1 g1 hxy
    by_cases a1 : i < b.length <;> by_cases a2 : j < b.length
    · have := h2 a1; have := g2 a2; omega
    · have := h2 a1; have := g3 (by omega); omega
    · have := h3 (by omega); have := g2 a2; omega
    · have := h3 (by omega); have := g3 (by omega); omega
  · obtain ⟨k0, h1, -⟩ := key k q hk
    exact h.2 k0 q h1
section TFL
variable {p : Program} {l : Launch} {e : Env} {R : Room} {s : State} {m : MethodId} {args : Array Value} {below : List Frame} {meth : Method} {c : Code} {H H0 : Heap} {locs : List Loc} {cells slots : Nat} {Q : State → Prop}
variable {cc : ByteArray} {pc : Nat} {ls : Array Slot} {rest : List Value} {D : va_G} {w1 w2 : tf_S → va_W} {σ1 σ2 : tf_S} {tys : List (ClassId × FieldType)} {Nw : List (String × Nat × MethodName × String)} {A : Nat → Prop}
variable {Ts ws : List Cond} {nL maxL index n : Nat} {own C : String} {y : MethodName} {bytes : ByteArray} {ret : Option FieldType} {rm : Room} {As : List Value} {z : Int32 × tf_S}
theorem tf_law1 {b : Nat} (S : CallFix p m c cc nL s args Ts own) (hK : va_K D vwCl tys s) (hN : tf_N Nw s) (hw1 : tf_Ad w1) (hP : va_P D vwCl (w1 σ1 ++ w2 σ2) H) (hD : va_D A (w1 σ1 ++ w2 σ2)) (hS : va_S A H0 H locs) (hA : ∀ q, H0.size ≤ q → A q)
    (hC : tf_C l D w1 tys Nw y ws rm (.ref b :: As) σ1 z) (cw : CallW R s args own C index y bytes maxL ret ws rm 0 0 n)
    (q0 ci : Nat) {fs : List Value} {T : u_T} {N : Nat} (hq : (w1 σ1)[q0]? = some (b, .inr (ci, fs))) (hc : vwCl[ci]? = some (C, T, N)) (hn : As.length = n) (hsize : ls.size = nL) {st : List Value} (hstack : st = As.reverse ++ .ref b :: rest) (hroom : (rest.map fun v => v.category).sum ≤ 8) (hdg : decode cc pc = .ok (.invokevirtual index, 3)) (hf : cells + 0 ≤ R.cells ∧ slots + 0 ≤ R.slots)
    (kk : ∀ (H1 : Heap) (locs1 : List Loc), va_P D vwCl (w1 z.2 ++ w2 σ2) H1 → va_D A (w1 z.2 ++ w2 σ2) → va_S A H0 H1 locs1 → W p l e R s m args below meth c H1 locs1 cells slots Q (F0 m (pc + 3) ls (.int z.1 :: rest))) : W p l e R s m args below meth c H locs cells slots Q (F0 m pc ls st) := by
  have hP1 : va_P D vwCl (w1 σ1) H := fun k q hk => hP k q (tf_left hk)
  have hD1 : va_D A (w1 σ1) := ⟨fun i j x y hi hj h => hD.1 i j x y (tf_left hi) (tf_left hj) h, fun k q hk => hD.2 k q (tf_left hk)⟩
  have hAA : ∀ q, va_A (w1 tf_0) H.size q → A q := tf_A2 hw1 hD1 (fun q h => hA q (Nat.le_trans hS.1 h))
  refine va_calli (va_runV (As := As) (rest := rest) S (hC H.size) cw ⟨fun a U g mk q => ?_, va_recv hK hP1 hc hq, fun U hU hW => ?_⟩ rfl hn hsize hstack (lv_room (m := m) (pc := pc) (ls := ls) (rest := st) hroom) hdg hf) hS (fun q _ h => hAA q h) hAA (fun r u t H1 locs1 ht hvm hw hB hz hk hS => ?_)
  · obtain ⟨q0, q1, qP, qK, qN, qD⟩ := q
    exact ⟨q0, q1, qP, va_K.moved (u := U) (U := U.calling g mk a) (Vm.Alike.refl U.vm) qK, tf_N.same (U := U.calling g mk a) rfl qN, qD⟩
  · exact ⟨rfl, by rw [hU], by rw [hU]; exact hP1, va_K.moved hW.alike hK, tf_N.warm hW hN, hD1.weaken (fun _ _ _ _ => trivial)⟩
  · obtain ⟨rfl, rfl⟩ := hw
    obtain ⟨hP2, hD2⟩ := hB
    rw [ht] at hP2
    refine kk H1 locs1 (hP2.app (fun k q hk' => ?_)) (tf_Dad hD ?_) hS
    · have h0 := hP _ q (tf_right (a := w1 σ1) hk')
      refine h0.kept (hk q.1 h0.lt (fun hq => ?_))
      rcases hq with ⟨j, x, hj⟩ | hq
      · have h1 : ((w1 tf_0).map Prod.fst)[j]? = some q.1 := by rw [List.getElem?_map, hj]; rfl
        rw [hw1 tf_0 σ1, List.getElem?_map] at h1
        cases hr : (w1 σ1)[j]? with
        | none => rw [hr] at h1; cases h1
        | some r =>
          rw [hr] at h1
          have e : r.1 = q.1 := Option.some.inj h1
          have := hD.1 _ _ r q (tf_left hr) (tf_right (a := w1 σ1) hk') e
          have := (List.getElem?_eq_some_iff.mp hr).1
          omega
      · exact absurd h0.lt (Nat.not_lt.mpr hq)
    · rw [List.map_append, List.map_append, hw1 z.2 σ1]
theorem tf_law2 {b : Nat} (S : CallFix p m c cc nL s args Ts own) (hK : va_K D vwCl tys s) (hN : tf_N Nw s) (hw2 : tf_Ad w2) (hP : va_P D vwCl (w1 σ1 ++ w2 σ2) H) (hD : va_D A (w1 σ1 ++ w2 σ2)) (hS : va_S A H0 H locs) (hA : ∀ q, H0.size ≤ q → A q)
    (hC : tf_C l D w2 tys Nw y ws rm (.ref b :: As) σ2 z) (cw : CallW R s args own C index y bytes maxL ret ws rm 0 0 n)
    (q0 ci : Nat) {fs : List Value} {T : u_T} {N : Nat} (hq : (w2 σ2)[q0]? = some (b, .inr (ci, fs))) (hc : vwCl[ci]? = some (C, T, N)) (hn : As.length = n) (hsize : ls.size = nL) {st : List Value} (hstack : st = As.reverse ++ .ref b :: rest) (hroom : (rest.map fun v => v.category).sum ≤ 8) (hdg : decode cc pc = .ok (.invokevirtual index, 3)) (hf : cells + 0 ≤ R.cells ∧ slots + 0 ≤ R.slots)
    (kk : ∀ (H1 : Heap) (locs1 : List Loc), va_P D vwCl (w1 σ1 ++ w2 z.2) H1 → va_D A (w1 σ1 ++ w2 z.2) → va_S A H0 H1 locs1 → W p l e R s m args below meth c H1 locs1 cells slots Q (F0 m (pc + 3) ls (.int z.1 :: rest))) : W p l e R s m args below meth c H locs cells slots Q (F0 m pc ls st) :=
  tf_law1 (w1 := w2) (w2 := w1) S hK hN hw2 (tf_swapP hP) (tf_swapD hD) hS hA hC cw q0 ci hq hc hn hsize hstack hroom hdg hf (fun H1 locs1 h1 h2 h3 => kk H1 locs1 (tf_swapP h1) (tf_swapD h2) h3)
end TFL
