/-! pure part 1: numbers, reads and writes, scanning loops, the tables' good form, make -/
theorem tf_inb_nI {k n : Nat} (hk : k < 2 ^ 31) : tf_inb (nI k) n = decide (k < n) := by
  have h0 : ¬ nI k < 0 := nI_pos hk
  unfold tf_inb
  rw [nI_clamp hk]
  by_cases h : k < n
  · have h2 : ¬ n ≤ k := by omega
    simp [h, h2, h0]
  · have h2 : n ≤ k := by omega
    simp [h, h2, h0]
theorem tf_ib {k n : Nat} (h : k < n) (hn : n < 2 ^ 31) : tf_inb (nI k) n = true := by
  rw [tf_inb_nI (by omega)]; exact decide_eq_true h
theorem tf_wr_s (σ : tf_S) (c i : Nat) (x : Int32) : tf_wr σ c i x c = upd (σ c) i x := by
  unfold tf_wr tf_hs; rw [if_pos rfl]
theorem tf_wr_o (σ : tf_S) {c c' : Nat} (i : Nat) (x : Int32) (h : c' ≠ c) : tf_wr σ c i x c' = σ c' := by
  unfold tf_wr tf_hs; rw [if_neg h]
theorem tf_hs_s (σ : tf_S) (c : Nat) (f : Nat → Int32) : tf_hs σ c f c = f := by unfold tf_hs; rw [if_pos rfl]
theorem tf_hs_o (σ : tf_S) {c c' : Nat} (f : Nat → Int32) (h : c' ≠ c) : tf_hs σ c f c' = σ c' := by unfold tf_hs; rw [if_neg h]
theorem tf_iter {S α : Type} (F : Nat → S → Int32 → α) (st : Nat → S) (a b : Nat) (hab : a ≤ b) (hs : ∀ k m, a ≤ k → k < b → F (m + 1) (st k) (nI k) = F m (st (k + 1)) (nI (k + 1))) (m : Nat) : F (m + (b - a)) (st a) (nI a) = F m (st b) (nI b) := by
  obtain ⟨d, rfl⟩ : ∃ d, b = a + d := ⟨b - a, by omega⟩
  clear hab
  rw [show a + d - a = d by omega]
  induction d generalizing m with
  | zero => rfl
  | succ d ih =>
    have h1 := ih (m + 1) (fun k m h1 h2 => hs k m h1 (by omega))
    rw [show m + (d + 1) = m + 1 + d by omega, h1]
    exact hs (a + d) m (by omega) (by omega)
/-- the fuel of a loop that was begun, cut at what it needs -/
theorem tf_fuel {d n : Nat} (h : d ≤ n) : n = (n - d) + d := by omega
def tf_AR (σ : tf_S) (c : Nat) (x y : Int32) (n : Nat) : Prop :=
  (σ 7 c = 0 ∧ x = -1 ∧ y = -1) ∨ (σ 7 c = 1 ∧ (∃ a, 4 ≤ a ∧ a < n ∧ x = nI a) ∧ y = -1) ∨ (σ 7 c = 2 ∧ (∃ a, 4 ≤ a ∧ a < n ∧ x = nI a) ∧ ∃ b, 4 ≤ b ∧ b < n ∧ y = nI b)
def tf_wi (σ : tf_S) (x : Int32) : Int32 := if 0 ≤ x then σ 12 x.toNatClampNeg else 0
def tf_w4 (x : Int32) : Prop := x = 0 ∨ x = 1 ∨ x = 2 ∨ x = 3
def tf_TY (σ : tf_S) (nC t : Nat) : Prop := ∃ c, c < nC ∧ σ 9 t = nI c ∧ tf_AR σ c (σ 10 t) (σ 11 t) t ∧ σ 12 t = tf_wi σ (σ 10 t) ||| tf_wi σ (σ 11 t)
def tf_CL (σ : tf_S) (nT c : Nat) : Prop := (σ 7 c = 0 ∨ σ 7 c = 1 ∨ σ 7 c = 2) ∧ ∃ p c', 6 ≤ p ∧ p < nT ∧ c' < c ∧ σ 8 c = nI p ∧ σ 9 p = nI c' ∧ σ 12 p >>> (σ 7 c &&& 31) = 0
/-- the tables of the class are of good form: nC classes, nT types -/
def tf_WF (σ : tf_S) (nC nT : Nat) : Prop :=
  (σ 1 0 = nI nC ∧ σ 1 3 = nI nT ∧ 1 ≤ nC ∧ nC ≤ 12 ∧ 7 ≤ nT ∧ nT ≤ 80) ∧
  (∀ t, t < 6 → σ 9 t = -1 ∧ σ 10 t = -1 ∧ σ 11 t = -1) ∧
  (σ 12 0 = 0 ∧ σ 12 1 = 0 ∧ σ 12 2 = 0 ∧ σ 12 3 = 0 ∧ σ 12 4 = 1 ∧ σ 12 5 = 2) ∧
  (σ 9 6 = 0 ∧ σ 10 6 = -1 ∧ σ 11 6 = -1) ∧
  (∀ t, t < nT → tf_w4 (σ 12 t)) ∧
  (∀ t, 6 ≤ t → t < nT → tf_TY σ nC t) ∧
  (∀ t t', 6 ≤ t → t < nT → 6 ≤ t' → t' < nT → σ 9 t = σ 9 t' → σ 10 t = σ 10 t' → σ 11 t = σ 11 t' → t = t') ∧
  (σ 7 0 = 0 ∧ σ 8 0 = -1) ∧ (∀ c, 1 ≤ c → c < nC → tf_CL σ nT c)
/-- the reference's tables are the class's -/
def tf_TM (σx σm : tf_S) (nC nT : Nat) : Prop :=
  σm 0 0 = nI nC ∧ σm 0 3 = nI nT ∧ (∀ c, c < nC → σm 1 c = σx 7 c ∧ σm 2 c = σx 8 c) ∧ (∀ t, t < nT → σm 3 t = σx 9 t ∧ σm 4 t = σx 10 t ∧ σm 5 t = σx 11 t ∧ σm 6 t = σx 12 t)
/-- what making types leaves as it was, in the class -/
def tf_Fx (σ σ' : tf_S) (nT : Nat) : Prop :=
  (∀ c, c ≠ 1 → c ≠ 9 → c ≠ 10 → c ≠ 11 → c ≠ 12 → c ≠ 13 → c ≠ 14 → σ' c = σ c) ∧ σ' 1 0 = σ 1 0 ∧ ∀ t, t < nT → σ' 9 t = σ 9 t ∧ σ' 10 t = σ 10 t ∧ σ' 11 t = σ 11 t ∧ σ' 12 t = σ 12 t
/-- and in the reference -/
def tf_Fm (σ σ' : tf_S) : Prop := (∀ c, c ≠ 0 → c ≠ 3 → c ≠ 4 → c ≠ 5 → c ≠ 6 → c ≠ 7 → c ≠ 8 → σ' c = σ c) ∧ ∀ j, j ≠ 3 → j ≠ 10 → σ' 0 j = σ 0 j
theorem tf_Fx.rf {σ : tf_S} {nT : Nat} : tf_Fx σ σ nT := ⟨fun _ _ _ _ _ _ _ _ => rfl, rfl, fun _ _ => ⟨rfl, rfl, rfl, rfl⟩⟩
theorem tf_Fx.tr {a b c : tf_S} {n m : Nat} (h1 : tf_Fx a b n) (h2 : tf_Fx b c m) (h : n ≤ m) : tf_Fx a c n := by
  refine ⟨fun k q1 q2 q3 q4 q5 q6 q7 => (h2.1 k q1 q2 q3 q4 q5 q6 q7).trans (h1.1 k q1 q2 q3 q4 q5 q6 q7), h2.2.1.trans h1.2.1, fun t ht => ?_⟩
  obtain ⟨a1, a2, a3, a4⟩ := h1.2.2 t ht
  obtain ⟨b1, b2, b3, b4⟩ := h2.2.2 t (by omega)
  exact ⟨b1.trans a1, b2.trans a2, b3.trans a3, b4.trans a4⟩
theorem tf_Fm.rf {σ : tf_S} : tf_Fm σ σ := ⟨fun _ _ _ _ _ _ _ _ => rfl, fun _ _ _ => rfl⟩
theorem tf_Fm.tr {a b c : tf_S} (h1 : tf_Fm a b) (h2 : tf_Fm b c) : tf_Fm a c :=
  ⟨fun k q1 q2 q3 q4 q5 q6 q7 => (h2.1 k q1 q2 q3 q4 q5 q6 q7).trans (h1.1 k q1 q2 q3 q4 q5 q6 q7), fun j q1 q2 => (h2.2 j q1 q2).trans (h1.2 j q1 q2)⟩
theorem tf_AR.to {σ σ' : tf_S} {c : Nat} {x y : Int32} {n m : Nat} (h : tf_AR σ c x y n) (e : σ' 7 c = σ 7 c) (hnm : n ≤ m) : tf_AR σ' c x y m := by
  rcases h with ⟨h1, h2, h3⟩ | ⟨h1, ⟨a, a1, a2, a3⟩, h3⟩ | ⟨h1, ⟨a, a1, a2, a3⟩, b, b1, b2, b3⟩
  · exact Or.inl ⟨e.trans h1, h2, h3⟩
  · exact Or.inr (Or.inl ⟨e.trans h1, ⟨a, a1, by omega, a3⟩, h3⟩)
  · exact Or.inr (Or.inr ⟨e.trans h1, ⟨a, a1, by omega, a3⟩, b, b1, by omega, b3⟩)
theorem tf_neg1 : ¬ (0 : Int32) ≤ -1 := by decide
theorem tf_wi_n (σ : tf_S) : tf_wi σ (-1) = 0 := by unfold tf_wi; rw [if_neg tf_neg1]
theorem tf_wi_I (σ : tf_S) {a : Nat} (h : a < 2 ^ 31) : tf_wi σ (nI a) = σ 12 a := by
  unfold tf_wi; rw [if_pos (nI_pos' h), nI_clamp h]
theorem tf_w4_or {x y : Int32} (hx : tf_w4 x) (hy : tf_w4 y) : tf_w4 (x ||| y) := by
  rcases hx with rfl | rfl | rfl | rfl <;> rcases hy with rfl | rfl | rfl | rfl <;> (unfold tf_w4; decide)
/-- an argument of a type's row: none, or a number below n -/
theorem tf_AR.args {σ : tf_S} {c : Nat} {x y : Int32} {n : Nat} (h : tf_AR σ c x y n) : (x = -1 ∨ ∃ a, 4 ≤ a ∧ a < n ∧ x = nI a) ∧ (y = -1 ∨ ∃ a, 4 ≤ a ∧ a < n ∧ y = nI a) := by
  rcases h with ⟨h1, h2, h3⟩ | ⟨h1, h2, h3⟩ | ⟨h1, h2, h3⟩
  · exact ⟨Or.inl h2, Or.inl h3⟩
  · exact ⟨Or.inr h2, Or.inl h3⟩
  · exact ⟨Or.inr h2, Or.inr h3⟩
theorem makeX_step {σ : tf_S} {x1 x2 x3 : Int32} {k nT : Nat} (hT : σ 1 3 = nI nT) (hk : k < nT) (hn : nT ≤ 80) (m : Nat) :
    fX4_make_4 x1 x2 x3 (m + 1) σ (nI k) = if σ 9 k = x1 ∧ σ 10 k = x2 ∧ σ 11 k = x3 then some (nI k, σ) else fX4_make_4 x1 x2 x3 m σ (nI (k + 1)) := by
  rw [fX4_make_4, hT, if_neg (by rw [nI_leI (by omega) (by omega)]; omega)]
  simp only [tf_ib (n := 80) (k := k) (by omega) (by decide), if_true, nI_clamp (show k < 2 ^ 31 by omega), tf_gl, nI_1]
  by_cases c1 : σ 9 k = x1 <;> by_cases c2 : σ 10 k = x2 <;> by_cases c3 : σ 11 k = x3 <;> simp [c1, c2, c3]
theorem madeM_step {σ : tf_S} {x1 x2 x3 : Int32} {k nT : Nat} (hT : σ 0 3 = nI nT) (hk : k < nT) (hn : nT ≤ 80) (m : Nat) :
    fX7_made_4 x1 x2 x3 (m + 1) σ (nI k) = if σ 3 k = x1 ∧ σ 4 k = x2 ∧ σ 5 k = x3 then some (nI k, σ) else fX7_made_4 x1 x2 x3 m σ (nI (k + 1)) := by
  rw [fX7_made_4, hT, if_neg (by rw [nI_leI (by omega) (by omega)]; omega)]
  simp only [tf_ib (n := 80) (k := k) (by omega) (by decide), if_true, nI_clamp (show k < 2 ^ 31 by omega), tf_gl, nI_1]
  by_cases c1 : σ 3 k = x1 <;> by_cases c2 : σ 4 k = x2 <;> by_cases c3 : σ 5 k = x3 <;> simp [c1, c2, c3]
theorem makeX_hit {σ : tf_S} {x1 x2 x3 : Int32} {t nT : Nat} (hT : σ 1 3 = nI nT) (h6 : 6 ≤ t) (ht : t < nT) (hn : nT ≤ 80) (hp : σ 9 t = x1 ∧ σ 10 t = x2 ∧ σ 11 t = x3) (hm : ∀ j, 6 ≤ j → j < t → ¬ (σ 9 j = x1 ∧ σ 10 j = x2 ∧ σ 11 j = x3)) : fX4_make σ x1 x2 x3 = some (nI t, σ) := by
  unfold fX4_make
  rw [tf_fuel (d := t - 6) (n := 100000) (by omega)]
  have h := tf_iter (fun n (s : tf_S) y => fX4_make_4 x1 x2 x3 n s y) (fun _ => σ) 6 t h6 (fun k m h1 h2 => by
    show fX4_make_4 x1 x2 x3 (m + 1) σ (nI k) = _
    rw [makeX_step hT (by omega) hn, if_neg (hm k h1 h2)]) (100000 - (t - 6))
  rw [show (6 : Int32) = nI 6 from rfl]
  refine h.trans ?_
  obtain ⟨m, hm'⟩ : ∃ m, 100000 - (t - 6) = m + 1 := ⟨100000 - (t - 6) - 1, by omega⟩
  show fX4_make_4 x1 x2 x3 (100000 - (t - 6)) σ (nI t) = _
  rw [hm', makeX_step hT ht hn, if_pos hp]
theorem makeX_miss {σ : tf_S} {x1 x2 x3 : Int32} {nT : Nat} (hT : σ 1 3 = nI nT) (h7 : 6 ≤ nT) (hn : nT ≤ 80) (hm : ∀ j, 6 ≤ j → j < nT → ¬ (σ 9 j = x1 ∧ σ 10 j = x2 ∧ σ 11 j = x3)) : ∃ m, fX4_make σ x1 x2 x3 = fX4_make_4 x1 x2 x3 (m + 1) σ (nI nT) := by
  unfold fX4_make
  refine ⟨100000 - (nT - 6) - 1, ?_⟩
  rw [show 100000 - (nT - 6) - 1 + 1 = 100000 - (nT - 6) by omega]
  have h := tf_iter (fun n (s : tf_S) y => fX4_make_4 x1 x2 x3 n s y) (fun _ => σ) 6 nT h7 (fun k m h1 h2 => by
    show fX4_make_4 x1 x2 x3 (m + 1) σ (nI k) = _
    rw [makeX_step hT (by omega) hn, if_neg (hm k h1 h2)]) (100000 - (nT - 6))
  rw [show (6 : Int32) = nI 6 from rfl]
  refine Eq.trans ?_ h
  show fX4_make_4 x1 x2 x3 100000 σ (nI 6) = fX4_make_4 x1 x2 x3 (100000 - (nT - 6) + (nT - 6)) σ (nI 6)
  rw [← tf_fuel (d := nT - 6) (n := 100000) (by omega)]
theorem madeM_hit {σ : tf_S} {x1 x2 x3 : Int32} {t nT : Nat} (hT : σ 0 3 = nI nT) (h6 : 6 ≤ t) (ht : t < nT) (hn : nT ≤ 80) (hp : σ 3 t = x1 ∧ σ 4 t = x2 ∧ σ 5 t = x3) (hm : ∀ j, 6 ≤ j → j < t → ¬ (σ 3 j = x1 ∧ σ 4 j = x2 ∧ σ 5 j = x3)) : fX7_made σ x1 x2 x3 = some (nI t, σ) := by
  unfold fX7_made
  rw [tf_fuel (d := t - 6) (n := 100000) (by omega)]
  have h := tf_iter (fun n (s : tf_S) y => fX7_made_4 x1 x2 x3 n s y) (fun _ => σ) 6 t h6 (fun k m h1 h2 => by
    show fX7_made_4 x1 x2 x3 (m + 1) σ (nI k) = _
    rw [madeM_step hT (by omega) hn, if_neg (hm k h1 h2)]) (100000 - (t - 6))
  rw [show (6 : Int32) = nI 6 from rfl]
  refine h.trans ?_
  obtain ⟨m, hm'⟩ : ∃ m, 100000 - (t - 6) = m + 1 := ⟨100000 - (t - 6) - 1, by omega⟩
  show fX7_made_4 x1 x2 x3 (100000 - (t - 6)) σ (nI t) = _
  rw [hm', madeM_step hT ht hn, if_pos hp]
theorem madeM_miss {σ : tf_S} {x1 x2 x3 : Int32} {nT : Nat} (hT : σ 0 3 = nI nT) (h7 : 6 ≤ nT) (hn : nT ≤ 80) (hm : ∀ j, 6 ≤ j → j < nT → ¬ (σ 3 j = x1 ∧ σ 4 j = x2 ∧ σ 5 j = x3)) : ∃ m, fX7_made σ x1 x2 x3 = fX7_made_4 x1 x2 x3 (m + 1) σ (nI nT) := by
  unfold fX7_made
  refine ⟨100000 - (nT - 6) - 1, ?_⟩
  rw [show 100000 - (nT - 6) - 1 + 1 = 100000 - (nT - 6) by omega]
  have h := tf_iter (fun n (s : tf_S) y => fX7_made_4 x1 x2 x3 n s y) (fun _ => σ) 6 nT h7 (fun k m h1 h2 => by
    show fX7_made_4 x1 x2 x3 (m + 1) σ (nI k) = _
    rw [madeM_step hT (by omega) hn, if_neg (hm k h1 h2)]) (100000 - (nT - 6))
  rw [show (6 : Int32) = nI 6 from rfl]
  refine Eq.trans ?_ h
  show fX7_made_4 x1 x2 x3 100000 σ (nI 6) = fX7_made_4 x1 x2 x3 (100000 - (nT - 6) + (nT - 6)) σ (nI 6)
  rw [← tf_fuel (d := nT - 6) (n := 100000) (by omega)]
/-- the row that a new type is -/
def tf_nwX (σ : tf_S) (nT : Nat) (x1 x2 x3 : Int32) : tf_S := tf_wr (tf_wr (tf_wr (tf_wr (tf_wr σ 9 nT x1) 10 nT x2) 11 nT x3) 12 nT (tf_wi σ x2 ||| tf_wi σ x3)) 1 3 (nI (nT + 1))
def tf_nwM (σ : tf_S) (nT : Nat) (x1 x2 x3 w : Int32) : tf_S := tf_wr (tf_wr (tf_wr (tf_wr (tf_wr σ 3 nT x1) 4 nT x2) 5 nT x3) 6 nT w) 0 3 (nI (nT + 1))
def tf_ok80 (x : Int32) : Prop := x = -1 ∨ ∃ a, a < 80 ∧ x = nI a
theorem tf_wiX {σ : tf_S} {x : Int32} (h : tf_ok80 x) : (0 ≤ x → tf_inb x 80 = true) := by
  intro h0
  rcases h with rfl | ⟨a, ha, rfl⟩
  · exact absurd h0 tf_neg1
  · exact tf_ib ha (by decide)
theorem makeX_add {σ : tf_S} {x1 x2 x3 : Int32} {nT : Nat} (hT : σ 1 3 = nI nT) (hn : nT < 80) (h2 : tf_ok80 x2) (h3 : tf_ok80 x3) (m : Nat) : fX4_make_4 x1 x2 x3 (m + 1) σ (nI nT) = some (nI nT, tf_nwX σ nT x1 x2 x3) := by
  rw [fX4_make_4, hT, if_pos (nI_le (Nat.le_refl _) (by omega)), if_pos (show nI nT < (80 : Int32) from nI_lt (b := 80) (by omega) (by decide))]
  simp only [tf_ib (n := 80) (k := nT) (by omega) (by decide), if_true, nI_clamp (show nT < 2 ^ 31 by omega), tf_gl, fX4_make_119, tf_wr_o, ne_eq, Nat.reduceEqDiff, not_false_eq_true, hT, nI_1]
  unfold tf_nwX tf_wi
  by_cases c2 : 0 ≤ x2 <;> by_cases c3 : 0 ≤ x3 <;> simp [c2, c3, tf_wiX (σ := σ) h2, tf_wiX (σ := σ) h3]
theorem madeM_add {σ : tf_S} {x1 x2 x3 w2 w3 : Int32} {nT : Nat} (hT : σ 0 3 = nI nT) (hn : nT < 80) (h2 : tf_ok80 x2) (h3 : tf_ok80 x3) (e2 : (if 0 ≤ x2 then σ 6 x2.toNatClampNeg else 0) = w2) (e3 : (if 0 ≤ x3 then σ 6 x3.toNatClampNeg else 0) = w3) (m : Nat) : fX7_made_4 x1 x2 x3 (m + 1) σ (nI nT) = some (nI nT, tf_nwM σ nT x1 x2 x3 (w2 ||| w3)) := by
  subst e2 e3
  rw [fX7_made_4, hT, if_pos (nI_le (Nat.le_refl _) (by omega)), if_neg (show ¬ nI nT = (80 : Int32) from fun h => by
    have := (nI_eq (a := nT) (b := 80) (by omega) (by decide)).mp h
    omega)]
  simp only [tf_ib (n := 80) (k := nT) (by omega) (by decide), if_true, nI_clamp (show nT < 2 ^ 31 by omega), tf_gl, fX7_made_119, tf_wr_o, tf_wr_s, pk_us, ne_eq, Nat.reduceEqDiff, not_false_eq_true, hT, nI_1, nI_pred]
  unfold tf_nwM
  by_cases c2 : 0 ≤ x2 <;> by_cases c3 : 0 ≤ x3 <;> simp [c2, c3, tf_wiX (σ := σ) h2, tf_wiX (σ := σ) h3]
theorem tf_nwX_Fx (σ : tf_S) (nT : Nat) (x1 x2 x3 : Int32) : tf_Fx σ (tf_nwX σ nT x1 x2 x3) nT := by
  unfold tf_nwX
  refine ⟨fun c h1 h9 h10 h11 h12 _ _ => ?_, ?_, fun t ht => ?_⟩
  · rw [tf_wr_o _ _ _ h1, tf_wr_o _ _ _ h12, tf_wr_o _ _ _ h11, tf_wr_o _ _ _ h10, tf_wr_o _ _ _ h9]
  · rw [tf_wr_s, pk_un (by decide)]
    rw [tf_wr_o _ _ _ (by decide), tf_wr_o _ _ _ (by decide), tf_wr_o _ _ _ (by decide), tf_wr_o _ _ _ (by decide)]
  · have hne : t ≠ nT := by omega
    simp [tf_wr_s, tf_wr_o, pk_un hne]
theorem tf_nwM_Fm (σ : tf_S) (nT : Nat) (x1 x2 x3 w : Int32) : tf_Fm σ (tf_nwM σ nT x1 x2 x3 w) := by
  unfold tf_nwM
  refine ⟨fun c h0 h3 h4 h5 h6 _ _ => ?_, fun j hj _ => ?_⟩
  · rw [tf_wr_o _ _ _ h0, tf_wr_o _ _ _ h6, tf_wr_o _ _ _ h5, tf_wr_o _ _ _ h4, tf_wr_o _ _ _ h3]
  · rw [tf_wr_s, pk_un hj]
    rw [tf_wr_o _ _ _ (by decide), tf_wr_o _ _ _ (by decide), tf_wr_o _ _ _ (by decide), tf_wr_o _ _ _ (by decide)]
/-- good form is kept by a new row -/
theorem tf_WF_nw {σ : tf_S} {nC nT c : Nat} {x2 x3 : Int32} (h : tf_WF σ nC nT) (hn : nT < 80) (hc : c < nC) (ha : tf_AR σ c x2 x3 nT) (hm : ∀ j, 6 ≤ j → j < nT → ¬ (σ 9 j = nI c ∧ σ 10 j = x2 ∧ σ 11 j = x3)) : tf_WF (tf_nwX σ nT (nI c) x2 x3) nC (nT + 1) := by
  have F := tf_nwX_Fx σ nT (nI c) x2 x3
  have r9 : tf_nwX σ nT (nI c) x2 x3 9 nT = nI c := by unfold tf_nwX; simp [tf_wr_s, tf_wr_o, pk_us]
  have r10 : tf_nwX σ nT (nI c) x2 x3 10 nT = x2 := by unfold tf_nwX; simp [tf_wr_s, tf_wr_o, pk_us]
  have r11 : tf_nwX σ nT (nI c) x2 x3 11 nT = x3 := by unfold tf_nwX; simp [tf_wr_s, tf_wr_o, pk_us]
  have r12 : tf_nwX σ nT (nI c) x2 x3 12 nT = tf_wi σ x2 ||| tf_wi σ x3 := by unfold tf_nwX; simp [tf_wr_s, tf_wr_o, pk_us]
  have r13 : tf_nwX σ nT (nI c) x2 x3 1 3 = nI (nT + 1) := by unfold tf_nwX; simp [tf_wr_s, pk_us]
  generalize tf_nwX σ nT (nI c) x2 x3 = σ' at F r9 r10 r11 r12 r13 ⊢
  obtain ⟨⟨a1, a2, a3, a4, a5, a6⟩, b, w, s6, h4, ty, un, ⟨c0, c1⟩, cl⟩ := h
  obtain ⟨f1, f2, f3⟩ := F
  have e7 : σ' 7 = σ 7 := f1 7 (by decide) (by decide) (by decide) (by decide) (by decide) (by decide) (by decide)
  have e8 : σ' 8 = σ 8 := f1 8 (by decide) (by decide) (by decide) (by decide) (by decide) (by decide) (by decide)
  have wi : ∀ x : Int32, (x = -1 ∨ ∃ a, 4 ≤ a ∧ a < nT ∧ x = nI a) → tf_wi σ' x = tf_wi σ x := by
    intro x hx
    rcases hx with rfl | ⟨a, h4a, ha, rfl⟩
    · rw [tf_wi_n, tf_wi_n]
    · rw [tf_wi_I _ (by omega), tf_wi_I _ (by omega), (f3 a ha).2.2.2]
  have wi4 : ∀ x : Int32, (x = -1 ∨ ∃ a, 4 ≤ a ∧ a < nT ∧ x = nI a) → tf_w4 (tf_wi σ x) := by
    intro x hx
    rcases hx with rfl | ⟨a, h4a, ha, rfl⟩
    · rw [tf_wi_n]; exact Or.inl rfl
    · rw [tf_wi_I _ (by omega)]; exact h4 a ha
  refine ⟨⟨f2.trans a1, r13, a3, a4, by omega, by omega⟩, fun t ht => ?_, ?_, ?_, fun t ht => ?_, fun t h6 ht => ?_, fun t t' g1 g2 g3 g4 q1 q2 q3 => ?_, ⟨by rw [e7]; exact c0, by rw [e8]; exact c1⟩, fun k k1 k2 => ?_⟩
  · obtain ⟨q1, q2, q3, -⟩ := f3 t (by omega)
    rw [q1, q2, q3]; exact b t ht
  · rw [(f3 0 (by omega)).2.2.2, (f3 1 (by omega)).2.2.2, (f3 2 (by omega)).2.2.2, (f3 3 (by omega)).2.2.2, (f3 4 (by omega)).2.2.2, (f3 5 (by omega)).2.2.2]; exact w
  · obtain ⟨q1, q2, q3, -⟩ := f3 6 (by omega)
    rw [q1, q2, q3]; exact s6
  · rcases Nat.lt_or_ge t nT with q | q
    · rw [(f3 t q).2.2.2]; exact h4 t q
    · have e : t = nT := by omega
      subst e
      rw [r12]; exact tf_w4_or (wi4 _ ha.args.1) (wi4 _ ha.args.2)
  · rcases Nat.lt_or_ge t nT with q | q
    · obtain ⟨k, k1, k2, k3, k4⟩ := ty t h6 q
      obtain ⟨q1, q2, q3, q4⟩ := f3 t q
      have ka := k3.args
      refine ⟨k, k1, by rw [q1]; exact k2, by rw [q2, q3]; exact k3.to (by rw [e7]) (Nat.le_refl _), ?_⟩
      rw [q2, q3, q4, wi _ (ka.1.imp id (fun ⟨a, u1, u2, u3⟩ => ⟨a, u1, by omega, u3⟩)), wi _ (ka.2.imp id (fun ⟨a, u1, u2, u3⟩ => ⟨a, u1, by omega, u3⟩))]
      exact k4
    · have e : t = nT := by omega
      subst e
      refine ⟨c, hc, r9, by rw [r10, r11]; exact ha.to (by rw [e7]) (Nat.le_refl _), ?_⟩
      rw [r10, r11, r12, wi _ ha.args.1, wi _ ha.args.2]
  · rcases Nat.lt_or_ge t nT with u | u <;> rcases Nat.lt_or_ge t' nT with v | v
    · rw [(f3 t u).1, (f3 t' v).1] at q1
      rw [(f3 t u).2.1, (f3 t' v).2.1] at q2
      rw [(f3 t u).2.2.1, (f3 t' v).2.2.1] at q3
      exact un t t' g1 u g3 v q1 q2 q3
    · have e : t' = nT := by omega
      subst e
      rw [(f3 t u).1, r9] at q1
      rw [(f3 t u).2.1, r10] at q2
      rw [(f3 t u).2.2.1, r11] at q3
      exact absurd ⟨q1, q2, q3⟩ (hm t g1 u)
    · have e : t = nT := by omega
      subst e
      rw [(f3 t' v).1, r9] at q1
      rw [(f3 t' v).2.1, r10] at q2
      rw [(f3 t' v).2.2.1, r11] at q3
      exact absurd ⟨q1.symm, q2.symm, q3.symm⟩ (hm t' g3 v)
    · omega
  · obtain ⟨l1, p, c', l2, l3, l4, l5, l6, l7⟩ := cl k k1 k2
    refine ⟨by rw [e7]; exact l1, p, c', l2, by omega, l4, by rw [e8]; exact l5, by rw [(f3 p l3).1]; exact l6, by rw [(f3 p l3).2.2.2, e7]; exact l7⟩
theorem tf_ok80_of {x : Int32} {n : Nat} (h : x = -1 ∨ ∃ a, 4 ≤ a ∧ a < n ∧ x = nI a) (hn : n ≤ 80) : tf_ok80 x := h.imp id (fun ⟨a, _, h2, h3⟩ => ⟨a, by omega, h3⟩)
/-- MAKE, on both sides -/
theorem tf_make_sim {σx σm : tf_S} {nC nT c : Nat} {x2 x3 : Int32} (h : tf_WF σx nC nT) (hM : tf_TM σx σm nC nT) (hc : c < nC) (ha : tf_AR σx c x2 x3 nT) :
    ∃ (r : Int32) (σx' σm' : tf_S) (nT' : Nat), fX4_make σx (nI c) x2 x3 = some (r, σx') ∧ fX7_made σm (nI c) x2 x3 = some (r, σm') ∧ tf_WF σx' nC nT' ∧ tf_TM σx' σm' nC nT' ∧ nT ≤ nT' ∧ tf_Fx σx σx' nT ∧ tf_Fm σm σm' ∧ σx' 13 = σx 13 ∧ σx' 14 = σx 14 ∧ σm' 7 = σm 7 ∧ σm' 8 = σm 8 ∧ σm' 0 10 = σm 0 10 ∧
      (r = -3 ∨ ∃ t, 6 ≤ t ∧ t < nT' ∧ r = nI t ∧ σx' 9 t = nI c ∧ σx' 10 t = x2 ∧ σx' 11 t = x3) := by
  have hT := h.1.2.1
  have hn := h.1.2.2.2.2.2
  have h7 := h.1.2.2.2.2.1
  obtain ⟨m1, m2, m3, m4⟩ := hM
  by_cases hit : ∃ t, 6 ≤ t ∧ t < nT ∧ σx 9 t = nI c ∧ σx 10 t = x2 ∧ σx 11 t = x3
  · obtain ⟨t, t1, t2, t3, t4, t5⟩ := hit
    have hmiss : ∀ j, 6 ≤ j → j < t → ¬ (σx 9 j = nI c ∧ σx 10 j = x2 ∧ σx 11 j = x3) := fun j j1 j2 ⟨g1, g2, g3⟩ => by
      have := h.2.2.2.2.2.2.1 j t j1 (by omega) t1 t2 (g1.trans t3.symm) (g2.trans t4.symm) (g3.trans t5.symm)
      omega
    refine ⟨nI t, σx, σm, nT, makeX_hit hT t1 t2 hn ⟨t3, t4, t5⟩ hmiss, madeM_hit m2 t1 t2 hn ?_ ?_, h, ⟨m1, m2, m3, m4⟩, Nat.le_refl _, tf_Fx.rf, tf_Fm.rf, rfl, rfl, rfl, rfl, rfl, Or.inr ⟨t, t1, t2, rfl, t3, t4, t5⟩⟩
    · obtain ⟨q1, q2, q3, -⟩ := m4 t t2
      rw [q1, q2, q3]; exact ⟨t3, t4, t5⟩
    · intro j j1 j2
      obtain ⟨q1, q2, q3, -⟩ := m4 j (by omega)
      rw [q1, q2, q3]; exact hmiss j j1 j2
  · have hmiss : ∀ j, 6 ≤ j → j < nT → ¬ (σx 9 j = nI c ∧ σx 10 j = x2 ∧ σx 11 j = x3) := fun j j1 j2 g => hit ⟨j, j1, j2, g⟩
    have hmissM : ∀ j, 6 ≤ j → j < nT → ¬ (σm 3 j = nI c ∧ σm 4 j = x2 ∧ σm 5 j = x3) := fun j j1 j2 => by
      obtain ⟨q1, q2, q3, -⟩ := m4 j j2
      rw [q1, q2, q3]; exact hmiss j j1 j2
    obtain ⟨ix, ex⟩ := makeX_miss hT (by omega) hn hmiss
    obtain ⟨im, em⟩ := madeM_miss m2 (by omega) hn hmissM
    rcases Nat.lt_or_ge nT 80 with hl | hl
    · have o2 := tf_ok80_of ha.args.1 hn
      have o3 := tf_ok80_of ha.args.2 hn
      have wm : ∀ x : Int32, (x = -1 ∨ ∃ a, 4 ≤ a ∧ a < nT ∧ x = nI a) → (if 0 ≤ x then σm 6 x.toNatClampNeg else 0) = tf_wi σx x := by
        intro x hx
        unfold tf_wi
        rcases hx with rfl | ⟨a, h4a, ha, rfl⟩
        · rw [if_neg tf_neg1, if_neg tf_neg1]
        · rw [nI_clamp (by omega), (m4 a ha).2.2.2]
      refine ⟨nI nT, tf_nwX σx nT (nI c) x2 x3, tf_nwM σm nT (nI c) x2 x3 (tf_wi σx x2 ||| tf_wi σx x3), nT + 1, ex.trans (makeX_add hT hl o2 o3 ix), em.trans (madeM_add m2 hl o2 o3 (wm _ ha.args.1) (wm _ ha.args.2) im), tf_WF_nw h hl hc ha hmiss, ?_, by omega, tf_nwX_Fx _ _ _ _ _, tf_nwM_Fm _ _ _ _ _ _, ?_, ?_, ?_, ?_, ?_, Or.inr ⟨nT, by omega, by omega, rfl, ?_, ?_, ?_⟩⟩
      · have Fx := tf_nwX_Fx σx nT (nI c) x2 x3
        have Fm := tf_nwM_Fm σm nT (nI c) x2 x3 (tf_wi σx x2 ||| tf_wi σx x3)
        refine ⟨(Fm.2 0 (by decide) (by decide)).trans m1, ?_, fun k hk => ?_, fun t ht => ?_⟩
        · unfold tf_nwM; simp [tf_wr_s, pk_us]
        · rw [Fm.1 1 (by decide) (by decide) (by decide) (by decide) (by decide) (by decide) (by decide), Fm.1 2 (by decide) (by decide) (by decide) (by decide) (by decide) (by decide) (by decide), Fx.1 7 (by decide) (by decide) (by decide) (by decide) (by decide) (by decide) (by decide), Fx.1 8 (by decide) (by decide) (by decide) (by decide) (by decide) (by decide) (by decide)]
          exact m3 k hk
        · rcases Nat.lt_or_ge t nT with q | q
          · obtain ⟨q1, q2, q3, q4⟩ := Fx.2.2 t q
            rw [q1, q2, q3, q4]
            have hne : t ≠ nT := by omega
            have e : tf_nwM σm nT (nI c) x2 x3 (tf_wi σx x2 ||| tf_wi σx x3) 3 t = σm 3 t ∧ tf_nwM σm nT (nI c) x2 x3 (tf_wi σx x2 ||| tf_wi σx x3) 4 t = σm 4 t ∧ tf_nwM σm nT (nI c) x2 x3 (tf_wi σx x2 ||| tf_wi σx x3) 5 t = σm 5 t ∧ tf_nwM σm nT (nI c) x2 x3 (tf_wi σx x2 ||| tf_wi σx x3) 6 t = σm 6 t := by
              unfold tf_nwM; simp [tf_wr_s, tf_wr_o, pk_un hne]
            rw [e.1, e.2.1, e.2.2.1, e.2.2.2]
            exact m4 t q
          · have e : t = nT := by omega
            subst e
            unfold tf_nwM tf_nwX; simp [tf_wr_s, tf_wr_o, pk_us]
      all_goals first
        | (unfold tf_nwX; simp [tf_wr_s, tf_wr_o, pk_us]; done)
        | (unfold tf_nwM; simp [tf_wr_s, tf_wr_o, pk_us, pk_un]; done)
    · have e80 : nT = 80 := by omega
      subst e80
      refine ⟨-3, σx, σm, 80, ex.trans ?_, em.trans ?_, h, ⟨m1, m2, m3, m4⟩, Nat.le_refl _, tf_Fx.rf, tf_Fm.rf, rfl, rfl, rfl, rfl, rfl, Or.inl rfl⟩
      · rw [fX4_make_4, hT, if_pos (nI_le (Nat.le_refl _) (by omega)), if_neg (show ¬ nI 80 < (80 : Int32) by decide +kernel)]
      · rw [fX7_made_4, m2, if_pos (nI_le (Nat.le_refl _) (by omega)), if_pos (show nI 80 = (80 : Int32) from rfl)]
