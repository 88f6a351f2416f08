/-! the words of decompiled methods: an abstract heap, partial functions over it, and the kit's rows bundled over a whole side's world -/
abbrev tf_S : Type := Nat → Nat → Int32
def tf_0 : tf_S := fun _ _ => 0
def tf_hs (σ : tf_S) (c : Nat) (f : Nat → Int32) : tf_S := fun c' => if c' = c then f else σ c'
def tf_wr (σ : tf_S) (c i : Nat) (x : Int32) : tf_S := tf_hs σ c (upd (σ c) i x)
def tf_inb (i : Int32) (n : Nat) : Bool := !(decide (i < 0) || decide (n ≤ i.toNatClampNeg))
def tf_bz (x : Int32) : Bool := decide (x = 0) || decide (x = 1)
def tf_gl {α β : Type} (v : α) (f : α → β) : β := f v
theorem tf_inb_in {i : Int32} {n : Nat} (h : tf_inb i n = true) : vp_in i n := by
  unfold tf_inb at h
  unfold vp_in
  intro q
  rcases q with q | q <;> simp [q] at h
theorem tf_gin {α : Type} {i : Int32} {n : Nat} {A : Option α} {z : α} (h : (if tf_inb i n = true then A else none) = some z) : vp_in i n ∧ A = some z := by
  by_cases c : tf_inb i n = true
  · rw [if_pos c] at h; exact ⟨tf_inb_in c, h⟩
  · rw [if_neg c] at h; cases h
theorem tf_gbz {α : Type} {x : Int32} {A : Option α} {z : α} (h : (if tf_bz x = true then A else none) = some z) : (x = 0 ∨ x = 1) ∧ A = some z := by
  by_cases c : tf_bz x = true
  · rw [if_pos c] at h
    refine ⟨?_, h⟩
    unfold tf_bz at c
    rcases Bool.or_eq_true_iff.mp c with c | c
    · exact Or.inl (of_decide_eq_true c)
    · exact Or.inr (of_decide_eq_true c)
  · rw [if_neg c] at h; cases h
theorem tf_glet {α β : Type} {v : α} {f : α → Option β} {z : β} (h : tf_gl v f = some z) : ∃ y, y = v ∧ f y = some z := ⟨v, rfl, h⟩
theorem tf_gbind {α β : Type} {o : Option α} {f : α → Option β} {z : β} (h : o.bind f = some z) : ∃ u, o = some u ∧ f u = some z := by
  cases o with
  | none => cases h
  | some u => exact ⟨u, rfl, h⟩
theorem tf_pos {α : Type} {c : Prop} {i : Decidable c} {A B z : α} (hc : c) (h : @ite α c i A B = z) : A = z := (if_pos hc).symm.trans h
theorem tf_neg {α : Type} {c : Prop} {i : Decidable c} {A B z : α} (hc : ¬ c) (h : @ite α c i A B = z) : B = z := (if_neg hc).symm.trans h
theorem tf_nb {x : Int32} (h : x = 0 ∨ x = 1) : narrow .boolean (.int x) = .int x := by
  rcases h with rfl | rfl <;> rfl
theorem tf_nz {x : Int32} (h : x = 0 ∨ x = 1) : vp_nar .boolean x = x := by
  rcases h with rfl | rfl <;> rfl
/-- the calls of a nest mate's private members -/
def tf_N (L : List (String × Nat × MethodName × String)) (U : State) : Prop := ∀ q ∈ L, va_Nw (.methodLinkNest q.1 q.2.1 q.2.2.1 q.2.2.2) U
theorem tf_N.warm {L : List (String × Nat × MethodName × String)} {s U : State} (hW : s.WarmedH U.vm) (h : tf_N L s) : tf_N L U := fun q hq => va_Nw.warmM hW (h q hq)
theorem tf_N.same {L : List (String × Nat × MethodName × String)} {s U : State} (e : s.vm = U.vm) (h : tf_N L s) : tf_N L U := fun q hq => va_Nw.same rfl e (h q hq)
/-- the world of a side, as it stands in a walk that began at heap H0 -/
def tf_I (D : va_G) (w : tf_S → va_W) (H0 : Heap) (σ : tf_S) (H : Heap) (locs : List Loc) : Prop :=
  va_P D vwCl (w σ) H ∧ va_D (va_A (w tf_0) H0.size) (w σ) ∧ va_S (va_A (w tf_0) H0.size) H0 H locs
/-- the addresses of a world don't hang on what it holds -/
def tf_Ad (w : tf_S → va_W) : Prop := ∀ σ σ' : tf_S, (w σ).map Prod.fst = (w σ').map Prod.fst
theorem tf_Ad.in {w : tf_S → va_W} (h : tf_Ad w) {σ : tf_S} {k : Nat} {q : Nat × va_E} (hk : (w σ)[k]? = some q) (sz : Nat) : va_A (w tf_0) sz q.1 := by
  have h1 : ((w σ).map Prod.fst)[k]? = some q.1 := by rw [List.getElem?_map, hk]; rfl
  rw [h σ tf_0, List.getElem?_map] at h1
  cases hq : (w tf_0)[k]? with
  | none => rw [hq] at h1; cases h1
  | some r =>
    rw [hq] at h1
    obtain ⟨r1, r2⟩ := r
    have e : r1 = q.1 := Option.some.inj h1
    subst e
    exact Or.inl ⟨k, r2, hq⟩
theorem tf_D {w : tf_S → va_W} (h : tf_Ad w) {A : Nat → Prop} {σ : tf_S} (hD : va_D A (w σ)) (sz : Nat) : va_D (va_A (w tf_0) sz) (w σ) :=
  hD.weaken (fun _ _ hk _ => h.in hk sz)
theorem tf_mono {w : tf_S → va_W} {a b : Nat} (h : a ≤ b) (q : Nat) (hq : va_A (w tf_0) b q) : va_A (w tf_0) a q := by
  rcases hq with hq | hq
  · exact Or.inl hq
  · exact Or.inr (Nat.le_trans h hq)
theorem tf_start {D : va_G} {w : tf_S → va_W} {s : State} {σ : tf_S} (h : tf_Ad w) (hP : va_P D vwCl (w σ) s.heap) (hD : va_D (fun _ => True) (w σ)) : tf_I D w s.heap σ s.heap [] := ⟨hP, tf_D h hD _, va_S.rf⟩
/-- a method's contract: it answers z.1 and leaves the world z.2 -/
def tf_C (l : Launch) (D : va_G) (w : tf_S → va_W) (tys : List (ClassId × FieldType)) (Nw : List (String × Nat × MethodName × String)) (y : MethodName) (ws : List Cond) (rm : Room) (av : List Value) (σ : tf_S) (z : Int32 × tf_S) : Prop :=
  ∀ sz : Nat, Met l y ws rm (va_Pc av (fun U => U.heap.size = sz ∧ va_P D vwCl (w σ) U.heap ∧ va_K D vwCl tys U ∧ tf_N Nw U ∧ va_D (fun _ => True) (w σ)))
    (va_Qi (fun (r : Int32) (σ2 : tf_S) => r = z.1 ∧ σ2 = z.2) (fun σ2 t => va_P D vwCl (w σ2) t.heap ∧ va_D (va_A (w tf_0) sz) (w σ2)) (va_A (w tf_0) sz)) 0 0 (va_A (w tf_0) sz)
def tf_Cv (l : Launch) (D : va_G) (w : tf_S → va_W) (tys : List (ClassId × FieldType)) (Nw : List (String × Nat × MethodName × String)) (y : MethodName) (ws : List Cond) (rm : Room) (av : List Value) (σ : tf_S) (z : tf_S) : Prop :=
  ∀ sz : Nat, Met l y ws rm (va_Pc av (fun U => U.heap.size = sz ∧ va_P D vwCl (w σ) U.heap ∧ va_K D vwCl tys U ∧ tf_N Nw U ∧ va_D (fun _ => True) (w σ)))
    (va_Qv (fun (σ2 : tf_S) => σ2 = z) (fun σ2 t => va_P D vwCl (w σ2) t.heap ∧ va_D (va_A (w tf_0) sz) (w σ2)) (va_A (w tf_0) sz)) 0 0 (va_A (w tf_0) sz)
abbrev tf_Q (below : List Frame) (D : va_G) (w : tf_S → va_W) (z : Int32 × tf_S) (args : Array Value) (s : State) : State → Prop :=
  MQ below (va_Qi (fun (r : Int32) (σ2 : tf_S) => r = z.1 ∧ σ2 = z.2) (fun σ2 t => va_P D vwCl (w σ2) t.heap ∧ va_D (va_A (w tf_0) s.heap.size) (w σ2)) (va_A (w tf_0) s.heap.size)) args s 0 0 (va_A (w tf_0) s.heap.size)
abbrev tf_Qv (below : List Frame) (D : va_G) (w : tf_S → va_W) (z : tf_S) (args : Array Value) (s : State) : State → Prop :=
  MQ below (va_Qv (fun (σ2 : tf_S) => σ2 = z) (fun σ2 t => va_P D vwCl (w σ2) t.heap ∧ va_D (va_A (w tf_0) s.heap.size) (w σ2)) (va_A (w tf_0) s.heap.size)) args s 0 0 (va_A (w tf_0) s.heap.size)
section TFW
variable {p : Program} {l : Launch} {e : Env} {R : Room} {s : State} {m : MethodId} {args : Array Value} {below : List Frame} {meth : Method} {c : Code} {H : Heap} {locs : List Loc} {cells slots : Nat} {Q : State → Prop}
variable {cc : ByteArray} {pc : Nat} {ls : Array Slot} {rest : List Value} {D : va_G} {w : tf_S → va_W} {σ σ1 : tf_S} {tys : List (ClassId × FieldType)} {Nw : List (String × Nat × MethodName × String)}
theorem tf_top {x y : Int32} (h : y = x) (k : W p l e R s m args below meth c H locs cells slots Q (F0 m pc ls (.int y :: rest))) : W p l e R s m args below meth c H locs cells slots Q (F0 m pc ls (.int x :: rest)) := h ▸ k
theorem tf_iret {v : Int32} {z : Int32 × tf_S} (hx : p.tables.exec = Jvm.exec) (hb : c.code = cc) (hr : meth.sig.returnType = some .int) (hI : tf_I D w s.heap σ H locs) (h : some (v, σ) = some z) (hdg : decode cc pc = .ok (.ireturn, 1)) (hlocks : meth.locks = false) :
    W p l e R s m args below meth c H locs 0 0 (tf_Q below D w z args s) (F0 m pc ls [.int v]) := by
  cases h
  exact W.iret (v := v) hx hb hr (fun t ht hW => ⟨⟨v, σ, rfl, ⟨rfl, rfl⟩, by rw [ht]; exact hI.1, hI.2.1⟩, hI.2.2.F ht⟩) hI.2.2.2.2 hdg hlocks
theorem tf_zret {v : Int32} {z : Int32 × tf_S} (hx : p.tables.exec = Jvm.exec) (hb : c.code = cc) (hr : meth.sig.returnType = some .boolean) (hv : v = 0 ∨ v = 1) (hI : tf_I D w s.heap σ H locs) (h : some (v, σ) = some z) (hdg : decode cc pc = .ok (.ireturn, 1)) (hlocks : meth.locks = false) :
    W p l e R s m args below meth c H locs 0 0 (tf_Q below D w z args s) (F0 m pc ls [.int v]) := by
  cases h
  exact W.zret (v := v) hx hb hr (tf_nb hv) (fun t ht hW => ⟨⟨v, σ, rfl, ⟨rfl, rfl⟩, by rw [ht]; exact hI.1, hI.2.1⟩, hI.2.2.F ht⟩) hI.2.2.2.2 hdg hlocks
theorem tf_vret {z : tf_S} (hx : p.tables.exec = Jvm.exec) (hb : c.code = cc) (hr : meth.sig.returnType = none) (hI : tf_I D w s.heap σ H locs) (h : some σ = some z) (hdg : decode cc pc = .ok (.return_, 1)) (hlocks : meth.locks = false) :
    W p l e R s m args below meth c H locs 0 0 (tf_Qv below D w z args s) (F0 m pc ls []) := by
  cases h
  exact W.vret hx hb hr (fun t ht hW => ⟨⟨σ, rfl, rfl, by rw [ht]; exact hI.1, hI.2.1⟩, hI.2.2.F ht⟩) hI.2.2.2.2 hdg hlocks
theorem tf_iast (hx : p.tables.exec = Jvm.exec) (hb : c.code = cc) (hK : va_K D vwCl tys s) (hI : tf_I D w s.heap σ H locs) (q0 t0 : Nat) {k a : Nat} {cA : ClassId} {n : Nat} (ha : (w σ)[q0]? = some (a, .inl (cA, n, .inl (σ k))))
    (hs : ∀ f : Nat → Int32, (w σ).set q0 (a, .inl (cA, n, .inl f)) = w (tf_hs σ k f)) (ht : tys[t0]? = some (cA, .int)) {i x : Int32} (hin : vp_in i n) (e1 : σ1 = tf_wr σ k i.toNatClampNeg x) (hdg : decode cc pc = .ok (.iastore, 1))
    (kk : ∀ (H1 : Heap) (locs1 : List Loc), tf_I D w s.heap σ1 H1 locs1 → W p l e R s m args below meth c H1 locs1 cells slots Q (F0 m (pc + 1) ls rest)) : W p l e R s m args below meth c H locs cells slots Q (F0 m pc ls (.int x :: .int i :: .ref a :: rest)) := by
  refine va_iast hx hb hK hI.1 hI.2.1 hI.2.2 q0 t0 ha ht hin hdg (fun H1 locs1 h1 h2 h3 => ?_)
  rw [hs] at h1 h2
  subst e1
  exact kk H1 locs1 ⟨h1, h2, h3⟩
theorem tf_zast (hx : p.tables.exec = Jvm.exec) (hb : c.code = cc) (hK : va_K D vwCl tys s) (hI : tf_I D w s.heap σ H locs) (q0 t0 : Nat) {k a : Nat} {cA : ClassId} {n : Nat} (ha : (w σ)[q0]? = some (a, .inl (cA, n, .inl (σ k))))
    (hs : ∀ f : Nat → Int32, (w σ).set q0 (a, .inl (cA, n, .inl f)) = w (tf_hs σ k f)) (ht : tys[t0]? = some (cA, .boolean)) {i x : Int32} (hin : vp_in i n) (hz : x = 0 ∨ x = 1) (e1 : σ1 = tf_wr σ k i.toNatClampNeg x) (hdg : decode cc pc = .ok (.bastore, 1))
    (kk : ∀ (H1 : Heap) (locs1 : List Loc), tf_I D w s.heap σ1 H1 locs1 → W p l e R s m args below meth c H1 locs1 cells slots Q (F0 m (pc + 1) ls rest)) : W p l e R s m args below meth c H locs cells slots Q (F0 m pc ls (.int x :: .int i :: .ref a :: rest)) := by
  refine va_zast hx hb hK hI.1 hI.2.1 hI.2.2 q0 t0 ha ht hin hdg (fun H1 locs1 h1 h2 h3 => ?_)
  rw [tf_nz hz, hs] at h1 h2
  subst e1
  exact kk H1 locs1 ⟨h1, h2, h3⟩
theorem tf_put (hx : p.tables.exec = Jvm.exec) (hb : c.code = cc) {own C : String} {T : u_T} {N ci index : Nat} {Ts : List Cond} (hts : ∀ w ∈ Ts, w.before args s = true) (hin : ∀ w ∈ u_ws C T N, w ∈ Ts) (ty0 : Nat → FieldType) (hty : ∀ k, k < N → parseFieldDescriptor (T k).2.2.1 = some (ty0 k)) (hnm : ∀ a, a < N → ∀ b, b < N → a ≠ b → (T a).2.1 ≠ (T b).2.1) (hown : s.vm.findClass own = some m.cls) (hK : va_K D vwCl tys s) (hI : tf_I D w s.heap σ H locs)
    (q0 : Nat) {a id : Nat} {fs : List Value} (he : (w σ)[q0]? = some (a, .inr (ci, fs))) (hc : vwCl[ci]? = some (C, T, N)) (k : Nat) (hk : k < N) (hlink : (Cond.fieldLink own index C (T k).2.1 (T k).2.2.1).before args s = true) (hsame : (T k).1 = C) (hfin : (T k).2.2.2 = false) {ty : FieldType} {x : Int32} (hd : parseFieldDescriptor (T k).2.2.1 = some ty) (hn : narrow ty (.int x) = .int x) (hfit : fits ty (.int x) = true) (hl : k < fs.length)
    (hs : (w σ).set q0 (a, .inr (ci, fs.set k (.int x))) = w (tf_wr σ id k x)) (e1 : σ1 = tf_wr σ id k x) (hdg : decode cc pc = .ok (.putfield index, 3))
    (kk : ∀ (H1 : Heap) (locs1 : List Loc), tf_I D w s.heap σ1 H1 locs1 → W p l e R s m args below meth c H1 locs1 cells slots Q (F0 m (pc + 3) ls rest)) : W p l e R s m args below meth c H locs cells slots Q (F0 m pc ls (.int x :: .ref a :: rest)) := by
  refine va_put hx hb hts hin ty0 hty hnm hown hK hI.1 hI.2.1 hI.2.2 q0 he hc k hk hlink (fun y hy => by rw [hsame] at hy; exact hy) hfin hd hn hfit hl hdg (fun H1 locs1 h1 h2 h3 => ?_)
  rw [hs] at h1 h2
  subst e1
  exact kk H1 locs1 ⟨h1, h2, h3⟩
theorem tf_get (hx : p.tables.exec = Jvm.exec) (hb : c.code = cc) {own C : String} {T : u_T} {N ci index : Nat} {Ts : List Cond} (hts : ∀ w ∈ Ts, w.before args s = true) (hin : ∀ w ∈ u_ws C T N, w ∈ Ts) (hown : s.vm.findClass own = some m.cls) (hK : va_K D vwCl tys s) (hI : tf_I D w s.heap σ H locs)
    (q0 : Nat) {a : Nat} {fs : List Value} (he : (w σ)[q0]? = some (a, .inr (ci, fs))) (hc : vwCl[ci]? = some (C, T, N)) (k : Nat) (hk : k < N) (hlink : (Cond.fieldLink own index C (T k).2.1 (T k).2.2.1).before args s = true) (hsame : (T k).1 = C) {v : Value} (hv : fs[k]? = some v) (hdg : decode cc pc = .ok (.getfield index, 3))
    (kk : W p l e R s m args below meth c H locs cells slots Q (F0 m (pc + 3) ls (v :: rest))) : W p l e R s m args below meth c H locs cells slots Q (F0 m pc ls (.ref a :: rest)) :=
  va_get hx hb hts hin hown hK hI.1 q0 he hc k hk hlink (fun y hy => by rw [hsame] at hy; exact hy) hv hdg kk
theorem tf_pre {av : List Value} {z : Nat} (hK : va_K D vwCl tys s) (hN : tf_N Nw s) (hI : tf_I D w s.heap σ H locs) (hz : H.size = z) :
    FrameBlind (va_Pc av (fun U => U.heap.size = z ∧ va_P D vwCl (w σ) U.heap ∧ va_K D vwCl tys U ∧ tf_N Nw U ∧ va_D (fun _ => True) (w σ))) ∧ ∀ U : State, U.heap = H → s.WarmedH U.vm → va_Pc av (fun U => U.heap.size = z ∧ va_P D vwCl (w σ) U.heap ∧ va_K D vwCl tys U ∧ tf_N Nw U ∧ va_D (fun _ => True) (w σ)) av.toArray U := by
  refine ⟨fun a U g mk q => ?_, fun U hU hW => ?_⟩
  · obtain ⟨q0, q1, qP, qK, qN, qD⟩ := q
    exact ⟨q0, q1, qP, va_K.moved (u := U) (U := U.calling g mk a) (Vm.Alike.refl U.vm) qK, tf_N.same (U := U.calling g mk a) rfl qN, qD⟩
  · exact ⟨rfl, by rw [hU]; exact hz, by rw [hU]; exact hI.1, va_K.moved hW.alike hK, tf_N.warm hW hN, hI.2.1.weaken (fun _ _ _ _ => trivial)⟩
variable {Ts ws : List Cond} {nL maxL index n : Nat} {own C : String} {y : MethodName} {bytes : ByteArray} {ret : Option FieldType} {rm : Room} {As : List Value} {z : Int32 × tf_S} {zv : tf_S}
theorem tf_back (hI : tf_I D w s.heap σ H locs) : ∀ q, va_A (w tf_0) H.size q → va_A (w tf_0) s.heap.size q := fun q h => tf_mono hI.2.2.1 q h
theorem tf_runi {st : List Value} {av : Array Value} (hI : tf_I D w s.heap σ H locs)
    (hr : va_Run p l e R s m args below meth c H locs 0 0 0 0 (F0 m pc ls st) rest (va_Qi (fun (r : Int32) (σ2 : tf_S) => r = z.1 ∧ σ2 = z.2) (fun σ2 t => va_P D vwCl (w σ2) t.heap ∧ va_D (va_A (w tf_0) H.size) (w σ2)) (va_A (w tf_0) H.size) av) (va_A (w tf_0) H.size))
    (kk : ∀ (H1 : Heap) (locs1 : List Loc), tf_I D w s.heap z.2 H1 locs1 → W p l e R s m args below meth c H1 locs1 0 0 Q (F0 m (pc + 3) ls (.int z.1 :: rest))) : W p l e R s m args below meth c H locs 0 0 Q (F0 m pc ls st) := by
  refine va_calli hr hI.2.2 (fun q _ h => tf_back hI q h) (tf_back hI) (fun r u t H1 locs1 ht hvm hw hB hz hk hS => ?_)
  obtain ⟨rfl, rfl⟩ := hw
  obtain ⟨hP1, hD1⟩ := hB
  rw [ht] at hP1
  exact kk H1 locs1 ⟨hP1, hD1.weaken (fun _ _ _ h => tf_back hI _ h), hS⟩
theorem tf_runv {st : List Value} {av : Array Value} (hI : tf_I D w s.heap σ H locs)
    (hr : va_Run p l e R s m args below meth c H locs 0 0 0 0 (F0 m pc ls st) rest (va_Qv (fun (σ2 : tf_S) => σ2 = zv) (fun σ2 t => va_P D vwCl (w σ2) t.heap ∧ va_D (va_A (w tf_0) H.size) (w σ2)) (va_A (w tf_0) H.size) av) (va_A (w tf_0) H.size))
    (kk : ∀ (H1 : Heap) (locs1 : List Loc), tf_I D w s.heap zv H1 locs1 → W p l e R s m args below meth c H1 locs1 0 0 Q (F0 m (pc + 3) ls rest)) : W p l e R s m args below meth c H locs 0 0 Q (F0 m pc ls st) := by
  refine va_callv hr hI.2.2 (fun q _ h => tf_back hI q h) (tf_back hI) (fun u t H1 locs1 ht hvm hw hB hz hk hS => ?_)
  subst hw
  obtain ⟨hP1, hD1⟩ := hB
  rw [ht] at hP1
  exact kk H1 locs1 ⟨hP1, hD1.weaken (fun _ _ _ h => tf_back hI _ h), hS⟩
theorem tf_callV {b : Nat} (S : CallFix p m c cc nL s args Ts own) (hK : va_K D vwCl tys s) (hN : tf_N Nw s) (hI : tf_I D w s.heap σ H locs) (hC : tf_C l D w tys Nw y ws rm (.ref b :: As) σ z) (cw : CallW R s args own C index y bytes maxL ret ws rm 0 0 n)
    (q0 ci : Nat) {fs : List Value} {T : u_T} {N : Nat} (hq : (w σ)[q0]? = some (b, .inr (ci, fs))) (hc : vwCl[ci]? = some (C, T, N)) (hn : As.length = n) (hsize : ls.size = nL) {st : List Value} (hstack : st = As.reverse ++ .ref b :: rest) (hroom : (rest.map fun v => v.category).sum ≤ 8) (hdg : decode cc pc = .ok (.invokevirtual index, 3))
    (kk : ∀ (H1 : Heap) (locs1 : List Loc), tf_I D w s.heap z.2 H1 locs1 → W p l e R s m args below meth c H1 locs1 0 0 Q (F0 m (pc + 3) ls (.int z.1 :: rest))) : W p l e R s m args below meth c H locs 0 0 Q (F0 m pc ls st) := by
  have hp := tf_pre (av := .ref b :: As) hK hN hI rfl
  exact tf_runi hI (va_runV (As := As) (rest := rest) S (hC H.size) cw ⟨hp.1, va_recv hK hI.1 hc hq, hp.2⟩ rfl hn hsize hstack (lv_room (m := m) (pc := pc) (ls := ls) (rest := st) hroom) hdg ⟨Nat.zero_le _, Nat.zero_le _⟩) kk
theorem tf_callVv {b : Nat} (S : CallFix p m c cc nL s args Ts own) (hK : va_K D vwCl tys s) (hN : tf_N Nw s) (hI : tf_I D w s.heap σ H locs) (hC : tf_Cv l D w tys Nw y ws rm (.ref b :: As) σ zv) (cw : CallW R s args own C index y bytes maxL ret ws rm 0 0 n)
    (q0 ci : Nat) {fs : List Value} {T : u_T} {N : Nat} (hq : (w σ)[q0]? = some (b, .inr (ci, fs))) (hc : vwCl[ci]? = some (C, T, N)) (hn : As.length = n) (hsize : ls.size = nL) {st : List Value} (hstack : st = As.reverse ++ .ref b :: rest) (hroom : (rest.map fun v => v.category).sum ≤ 8) (hdg : decode cc pc = .ok (.invokevirtual index, 3))
    (kk : ∀ (H1 : Heap) (locs1 : List Loc), tf_I D w s.heap zv H1 locs1 → W p l e R s m args below meth c H1 locs1 0 0 Q (F0 m (pc + 3) ls rest)) : W p l e R s m args below meth c H locs 0 0 Q (F0 m pc ls st) := by
  have hp := tf_pre (av := .ref b :: As) hK hN hI rfl
  exact tf_runv hI (va_runV (As := As) (rest := rest) S (hC H.size) cw ⟨hp.1, va_recv hK hI.1 hc hq, hp.2⟩ rfl hn hsize hstack (lv_room (m := m) (pc := pc) (ls := ls) (rest := st) hroom) hdg ⟨Nat.zero_le _, Nat.zero_le _⟩) kk
theorem tf_callS (S : CallFix p m c cc nL s args Ts own) (hK : va_K D vwCl tys s) (hN : tf_N Nw s) (hI : tf_I D w s.heap σ H locs) (hC : tf_C l D w tys Nw y ws rm As σ z) (cw : CallB R s args own index y bytes maxL ret ws rm 0 0 n ∧ (Cond.static y).before args s = true)
    (hn : As.length = n) (hsize : ls.size = nL) {st : List Value} (hstack : st = As.reverse ++ rest) (hroom : (rest.map fun v => v.category).sum ≤ 8) (hdg : decode cc pc = .ok (.invokestatic index, 3))
    (kk : ∀ (H1 : Heap) (locs1 : List Loc), tf_I D w s.heap z.2 H1 locs1 → W p l e R s m args below meth c H1 locs1 0 0 Q (F0 m (pc + 3) ls (.int z.1 :: rest))) : W p l e R s m args below meth c H locs 0 0 Q (F0 m pc ls st) :=
  tf_runi hI (va_runS (As := As) (rest := rest) S (hC H.size) cw (tf_pre hK hN hI rfl) rfl hn hsize hstack (lv_room (m := m) (pc := pc) (ls := ls) (rest := st) hroom) hdg ⟨Nat.zero_le _, Nat.zero_le _⟩) kk
theorem tf_callSN {host : String} (S : CallFix p m c cc nL s args Ts own) (hK : va_K D vwCl tys s) (hN : tf_N Nw s) (hI : tf_I D w s.heap σ H locs) (hC : tf_C l D w tys Nw y ws rm As σ z) (cw : va_CN R s args own index y host bytes maxL ret ws rm 0 0 n ∧ (Cond.static y).before args s = true ∧ True)
    (hn : As.length = n) (hsize : ls.size = nL) {st : List Value} (hstack : st = As.reverse ++ rest) (hroom : (rest.map fun v => v.category).sum ≤ 8) (hdg : decode cc pc = .ok (.invokestatic index, 3))
    (kk : ∀ (H1 : Heap) (locs1 : List Loc), tf_I D w s.heap z.2 H1 locs1 → W p l e R s m args below meth c H1 locs1 0 0 Q (F0 m (pc + 3) ls (.int z.1 :: rest))) : W p l e R s m args below meth c H locs 0 0 Q (F0 m pc ls st) :=
  tf_runi hI (va_runSN (As := As) (rest := rest) S (hC H.size) cw (tf_pre hK hN hI rfl) rfl hn hsize hstack (lv_room (m := m) (pc := pc) (ls := ls) (rest := st) hroom) hdg ⟨Nat.zero_le _, Nat.zero_le _⟩) kk
end TFW
