/-! pure part 25: the guards, both sides -/
def tf_G (A B : Option (Int32 × tf_S)) (σx σm : tf_S) (P : Prop) : Prop := (A = some (0, σx) ∧ B = some (0, σm)) ∨ (P ∧ A = some (1, σx) ∧ B = some (1, σm))
def tf_isR (x : Int32) (lo n : Nat) : Prop := ∃ j, lo ≤ j ∧ j < n ∧ x = nI j
theorem tf_isR_iff {x : Int32} {lo n : Nat} (hn : n < 2 ^ 30) : tf_isR x lo n ↔ (lo : Int) ≤ x.toInt ∧ x.toInt < (n : Int) := by
  constructor
  · rintro ⟨j, h1, h2, rfl⟩
    rw [nI_toInt (by omega)]
    omega
  · rintro ⟨h1, h2⟩
    have h0 : ¬ x < 0 := fun h => by
      have := Int32.lt_iff_toInt_lt.mp h
      have e : (0 : Int32).toInt = 0 := by decide
      omega
    obtain ⟨j, hj, rfl⟩ := nI_of h0
    rw [nI_toInt hj] at h1 h2
    exact ⟨j, by omega, by omega, rfl⟩
theorem tf_10 {σ τ : tf_S} (h : some ((1 : Int32), σ) = some (0, τ)) : False := absurd (show (1 : Int32) = 0 from congrArg Prod.fst (Option.some.inj h)) (by decide)
theorem tf_01 {σ τ : tf_S} (h : some ((0 : Int32), σ) = some (1, τ)) : False := absurd (show (0 : Int32) = 1 from congrArg Prod.fst (Option.some.inj h)) (by decide)
theorem tf_gdX {σ : tf_S} {x : Int32} {lo n : Nat} (hlo : lo < 2 ^ 30) (hn : n < 2 ^ 30) : (tf_isR x lo n → (if x < nI lo then some ((0 : Int32), σ) else if nI n ≤ x then some ((0 : Int32), σ) else some ((1 : Int32), σ)) = some (1, σ)) ∧ (¬ tf_isR x lo n → (if x < nI lo then some ((0 : Int32), σ) else if nI n ≤ x then some ((0 : Int32), σ) else some ((1 : Int32), σ)) = some (0, σ)) := by
  have A : x < nI lo ↔ x.toInt < (lo : Int) := by rw [Int32.lt_iff_toInt_lt, nI_toInt (show lo < 2 ^ 31 by omega)]
  have B : nI n ≤ x ↔ (n : Int) ≤ x.toInt := by rw [Int32.le_iff_toInt_le, nI_toInt (show n < 2 ^ 31 by omega)]
  rw [tf_isR_iff hn]
  refine ⟨fun h => ?_, fun h => ?_⟩
  · rw [if_neg (fun q => by have := A.mp q; omega), if_neg (fun q => by have := B.mp q; omega)]
  · by_cases c : x < nI lo
    · rw [if_pos c]
    · have c' : ¬ x.toInt < (lo : Int) := fun q => c (A.mpr q)
      rw [if_neg c, if_pos (B.mpr (by omega))]
theorem tf_gdM {σ : tf_S} {x : Int32} {lo n : Nat} (hlo : lo < 2 ^ 30) (hn : n < 2 ^ 30) : (tf_isR x lo n → fX7_isIn σ x (nI lo) (nI n - 1) = some (1, σ)) ∧ (¬ tf_isR x lo n → fX7_isIn σ x (nI lo) (nI n - 1) = some (0, σ)) := by
  unfold fX7_isIn
  have e : (nI n - 1).toInt = (n : Int) - 1 := pk_sub_toInt (b := 1) hn (by decide)
  have A : x < nI lo ↔ x.toInt < (lo : Int) := by rw [Int32.lt_iff_toInt_lt, nI_toInt (show lo < 2 ^ 31 by omega)]
  have B : nI n - 1 < x ↔ (n : Int) - 1 < x.toInt := by rw [Int32.lt_iff_toInt_lt, e]
  rw [tf_isR_iff hn]
  refine ⟨fun h => ?_, fun h => ?_⟩
  · rw [if_neg (fun q => by have := A.mp q; omega), if_neg (fun q => by have := B.mp q; omega)]
  · by_cases c : x < nI lo
    · rw [if_pos c]
    · have c' : ¬ x.toInt < (lo : Int) := fun q => c (A.mpr q)
      rw [if_neg c, if_pos (B.mpr (by omega))]
theorem tf_G.mk {A B : Option (Int32 × tf_S)} {σx σm : tf_S} {P : Prop} (a : (P → A = some (1, σx)) ∧ (¬ P → A = some (0, σx))) (b : (P → B = some (1, σm)) ∧ (¬ P → B = some (0, σm))) : tf_G A B σx σm P := by
  by_cases h : P
  · exact Or.inr ⟨h, a.1 h, b.1 h⟩
  · exact Or.inl ⟨a.2 h, b.2 h⟩
theorem tf_bzw {o : Option (Int32 × tf_S)} {b : Int32} {σ : tf_S} (h : o = some (b, σ)) (hb : b = 0 ∨ b = 1) : (o.bind fun u1 => if tf_bz u1.1 = true then some (u1.1, u1.2) else none) = some (b, σ) := by
  rw [h, tf_bse]
  dsimp only
  rw [if_pos (tf_bz2 hb)]
theorem tf_gdW {σ : tf_S} {x : Int32} {lo n : Nat} (hlo : lo < 2 ^ 30) (hn : n < 2 ^ 30) : (tf_isR x lo n → ((fX7_isIn σ x (nI lo) (nI n - 1)).bind fun u1 => if tf_bz u1.1 = true then some (u1.1, u1.2) else none) = some (1, σ)) ∧ (¬ tf_isR x lo n → ((fX7_isIn σ x (nI lo) (nI n - 1)).bind fun u1 => if tf_bz u1.1 = true then some (u1.1, u1.2) else none) = some (0, σ)) :=
  ⟨fun h => tf_bzw ((tf_gdM hlo hn).1 h) (Or.inr rfl), fun h => tf_bzw ((tf_gdM hlo hn).2 h) (Or.inl rfl)⟩
theorem gd_class {σx σm : tf_S} {nC nT : Nat} (W : tf_WF σx nC nT) (T : tf_TM σx σm nC nT) (x : Int32) : tf_G (fX4_isClass σx x) (fX7_isClass σm x) σx σm (tf_isR x 0 nC) := by
  have h := W.1.2.2.2.1
  unfold fX4_isClass fX7_isClass
  rw [W.1.1, T.1]
  exact tf_G.mk (tf_gdX (lo := 0) (by decide) (by omega)) (tf_gdW (lo := 0) (by decide) (by omega))
theorem gd_type {σx σm : tf_S} {nC nT : Nat} (W : tf_WF σx nC nT) (T : tf_TM σx σm nC nT) (x : Int32) : tf_G (fX4_isType σx x) (fX7_isType σm x) σx σm (tf_isR x 0 nT) := by
  have h := W.1.2.2.2.2.2
  unfold fX4_isType fX7_isType
  rw [W.1.2.1, T.2.1]
  exact tf_G.mk (tf_gdX (lo := 0) (by decide) (by omega)) (tf_gdW (lo := 0) (by decide) (by omega))
theorem gd_ctype {σx σm : tf_S} {nC nT : Nat} (W : tf_WF σx nC nT) (T : tf_TM σx σm nC nT) (x : Int32) : tf_G (fX4_isClassType σx x) (fX7_isClassType σm x) σx σm (tf_isR x 6 nT) := by
  have h := W.1.2.2.2.2.2
  unfold fX4_isClassType fX7_isClassType
  rw [W.1.2.1, T.2.1]
  exact tf_G.mk (tf_gdX (lo := 6) (by decide) (by omega)) (tf_gdW (lo := 6) (by decide) (by omega))
theorem gd_arg {σx σm : tf_S} {nC nT : Nat} (W : tf_WF σx nC nT) (T : tf_TM σx σm nC nT) (x : Int32) : tf_G (fX4_isArgument σx x) (fX7_isArgument σm x) σx σm (tf_isR x 4 nT) := by
  have h := W.1.2.2.2.2.2
  have A := tf_gdX (σ := σx) (x := x) (lo := 4) (n := nT) (by decide) (by omega)
  have E : fX4_isArgument σx x = if x < nI 4 then some ((0 : Int32), σx) else if nI nT ≤ x then some ((0 : Int32), σx) else some ((1 : Int32), σx) := by
    unfold fX4_isArgument
    rw [W.1.2.1]
    rfl
  rw [E]
  unfold fX7_isArgument
  rcases gd_type W T x with ⟨-, q⟩ | ⟨⟨j, -, hj, rfl⟩, -, q⟩
  · by_cases c : tf_isR x 4 nT
    · obtain ⟨j, j1, j2, rfl⟩ := c
      rcases gd_type W T (nI j) with ⟨a, b⟩ | ⟨a, b, c⟩
      · exfalso
        unfold fX4_isType at a
        rw [W.1.2.1, if_neg (nI_pos (by omega)), if_neg (nI_ge j2 (by omega))] at a
        exact tf_10 a
      · rw [c] at q
        exact (tf_10 q).elim
    · refine Or.inl ⟨A.2 c, ?_⟩
      rw [q, tf_bse]
      dsimp only
      rw [if_pos rfl]
  · rw [q, tf_bse]
    dsimp only
    rw [if_neg (show ¬ (1 : Int32) = 0 by decide), primM_eq _ (show j < 2 ^ 31 by omega), tf_bse]
    by_cases c : j < 4
    · refine Or.inl ⟨A.2 (fun ⟨i, i1, i2, i3⟩ => ?_), ?_⟩
      · have := (nI_eq (by omega) (by omega)).mp i3
        omega
      · simp only [c, if_true]
        rw [if_neg (show ¬ (1 : Int32) = 0 by decide)]
    · refine Or.inr ⟨⟨j, by omega, hj, rfl⟩, A.1 ⟨j, by omega, hj, rfl⟩, ?_⟩
      simp only [c, if_false, if_true]
def tf_cls (σ : tf_S) (x : Int32) (nT : Nat) : Prop := ∃ j, j < nT ∧ x = nI j ∧ σ 12 j = 0
theorem gd_closed {σx σm : tf_S} {nC nT : Nat} (W : tf_WF σx nC nT) (T : tf_TM σx σm nC nT) (x : Int32) : tf_G (fX4_isClosed σx x) (fX7_isClosed σm x) σx σm (tf_cls σx x nT) := by
  have h := W.1.2.2.2.2.2
  unfold fX4_isClosed fX7_isClosed
  rcases gd_type W T x with ⟨a, b⟩ | ⟨⟨j, -, hj, rfl⟩, a, b⟩
  · rw [a, b, tf_bse, tf_bse]
    dsimp only
    rw [if_pos rfl, if_pos rfl]
    exact Or.inl ⟨rfl, rfl⟩
  · rw [a, b, tf_bse, tf_bse]
    dsimp only
    rw [if_neg (show ¬ (1 : Int32) = 0 by decide), if_neg (show ¬ (1 : Int32) = 0 by decide), if_pos (tf_ib (show j < 80 by omega) (by decide)), if_pos (tf_ib (show j < 80 by omega) (by decide)), nI_clamp (show j < 2 ^ 31 by omega)]
    have c6 := (T.2.2.2 j hj).2.2.2
    by_cases c : σx 12 j = 0
    · rw [if_pos c, if_pos (c6.trans c)]
      exact Or.inr ⟨⟨j, hj, rfl, c⟩, rfl, rfl⟩
    · rw [if_neg c, if_neg (show ¬ σm 6 j = 0 from fun q => c (c6.symm.trans q))]
      exact Or.inl ⟨rfl, rfl⟩
theorem gd_mem {σx σm : tf_S} {n : Nat} (hn : n ≤ 24) (a : σx 2 0 = nI n) (b : σm 0 11 = nI n) (x : Int32) : tf_G (fX1_has σx x) (fX7_isIn σm x (0 : Int32) ((σm 0 11) - (1 : Int32))) σx σm (tf_isR x 0 n) := by
  unfold fX1_has
  rw [a, b]
  exact tf_G.mk (tf_gdX (lo := 0) (by decide) (by omega)) (tf_gdM (lo := 0) (by decide) (by omega))
theorem gd_fun {σx σm : tf_S} {n : Nat} (hn : n ≤ 16) (a : σx 3 0 = nI n) (b : σm 0 14 = nI n) (x : Int32) : tf_G (fX0_has σx x) (fX7_isIn σm x (0 : Int32) ((σm 0 14) - (1 : Int32))) σx σm (tf_isR x 0 n) := by
  unfold fX0_has
  rw [a, b]
  exact tf_G.mk (tf_gdX (lo := 0) (by decide) (by omega)) (tf_gdM (lo := 0) (by decide) (by omega))
theorem gd_opi {σx σm : tf_S} {n : Nat} (hn : n ≤ 24) (a : σx 4 0 = nI n) (b : σm 0 24 = nI n) (x : Int32) : tf_G (fX2_has σx x) (fX7_isIn σm x (0 : Int32) ((σm 0 24) - (1 : Int32))) σx σm (tf_isR x 0 n) := by
  unfold fX2_has
  rw [a, b]
  exact tf_G.mk (tf_gdX (lo := 0) (by decide) (by omega)) (tf_gdM (lo := 0) (by decide) (by omega))
theorem gd_op {σx σm : tf_S} {n : Nat} (hn : n ≤ 24) (a : σx 4 0 = nI n) (b : σm 0 24 = nI n) (x : Int32) : tf_G (fX2_has σx x) (fX7_isOperator σm x) σx σm (tf_isR x 0 n) := by
  unfold fX2_has fX7_isOperator
  rw [a, b]
  exact tf_G.mk (tf_gdX (lo := 0) (by decide) (by omega)) (tf_gdW (lo := 0) (by decide) (by omega))
theorem gd_var (σx σm : tf_S) (x : Int32) : tf_G (fX6_isVariableNumber σx x) (fX7_isIn σm x (0 : Int32) (1 : Int32)) σx σm (tf_isR x 0 2) := by
  unfold fX6_isVariableNumber
  exact tf_G.mk (tf_gdX (lo := 0) (n := 2) (by decide) (by decide)) (tf_gdM (lo := 0) (n := 2) (by decide) (by decide))
def tf_Rel (σx σm : tf_S) : Prop := ∃ nC nT nM nF nO, tf_Rl σx σm nC nT nM nF nO
/-- types made on the way: the relation stays -/
theorem tf_Rl.up {σx σm σx' σm' : tf_S} {nC nT nT' nM nF nO : Nat} (L : tf_Rl σx σm nC nT nM nF nO) (W' : tf_WF σx' nC nT') (T' : tf_TM σx' σm' nC nT') (l : nT ≤ nT') (H : tf_Hx σx σx' nT) (G : tf_Gm σm σm') : tf_Rl σx' σm' nC nT' nM nF nO := by
  obtain ⟨W, T, ⟨x2, m11, hM⟩, Mv, ⟨x3, m14, hF⟩, Fv, ⟨x4, m24, hO⟩, O, R⟩ := L
  refine ⟨W', T', ⟨?_, ?_, hM⟩, fun m hm => (Mv m hm).up H G l, ⟨?_, ?_, hF⟩, fun f hf => (Fv f hf).up H G l, ⟨?_, ?_, hO⟩, fun k hk => (O k hk).up H (G.K (k := 0)) l, fun k hk => (R k hk).up H (G.K (k := k + 1)) (by omega) l⟩
  · rw [H.k (by omega)]; exact x2
  · rw [G.2 11 (by decide) (by decide) (by decide) (by decide)]; exact m11
  · rw [H.k (by omega)]; exact x3
  · rw [G.2 14 (by decide) (by decide) (by decide) (by decide)]; exact m14
  · rw [H.k (by omega)]; exact x4
  · rw [G.2 24 (by decide) (by decide) (by decide) (by decide)]; exact m24
