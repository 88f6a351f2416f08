/-! pure part 30: operators told -/
def tf_noX (σ : tf_S) (n : Nat) (x1 x2 x3 x4 x5 x6 : Int32) : tf_S := tf_wr (tf_kx (tf_wr (tf_wr (tf_wr (tf_wr (tf_wr (tf_wr σ 21 n x1) 22 n x2) 23 n x3) 24 n x4) 25 n x5) 26 n x6) n (-1) 0 0 (-1) (-1)) 4 0 (nI (n + 1))
def tf_noM (σ : tf_S) (n : Nat) (x1 x2 x3 x4 x5 x6 : Int32) : tf_S := tf_wr (tf_wr (tf_wr (tf_wr (tf_wr (tf_wr (tf_wr (tf_wr (tf_wr (tf_wr (tf_wr (tf_wr σ 18 n x1) 19 n x2) 20 n x3) 21 n x4) 22 n x5) 23 n x6) 24 n (-1)) 25 n 0) 26 n 0) 27 (2 * n) (-1)) 27 (2 * n + 1) (-1)) 0 24 (nI (n + 1))
theorem add2_eq {σ : tf_S} {n : Nat} {x1 x2 x3 x4 x5 x6 : Int32} (h : σ 4 0 = nI n) (hn : n < 24) : fX2_add σ x1 x2 x3 x4 x5 x6 = some (nI n, tf_noX σ n x1 x2 x3 x4 x5 x6) := by
  have fl := tf_full hn (by decide)
  have im : tf_inb (nI n) 24 = true := tf_ib hn (by decide)
  have cm : (nI n).toNatClampNeg = n := nI_clamp (by omega)
  have o : ∀ (s : tf_S) (c : Nat) (x : Int32), 4 ≠ c → s 4 0 = nI n → tf_wr s c n x 4 0 = nI n := fun s c x hc hs => by rw [tf_wr_o _ _ _ hc]; exact hs
  unfold fX2_add
  have h1 := o σ 21 x1 (by decide) h
  have h2 := o _ 22 x2 (by decide) h1
  have h3 := o _ 23 x3 (by decide) h2
  have h4 := o _ 24 x4 (by decide) h3
  have h5 := o _ 25 x5 (by decide) h4
  have h6 := o _ 26 x6 (by decide) h5
  rw [h, if_pos (show nI n < (24 : Int32) from fl.1), if_pos im, cm, tf_gle, h1, if_pos im, cm, tf_gle, h2, if_pos im, cm, tf_gle, h3, if_pos im, cm, tf_gle, h4, if_pos im, cm, tf_gle, h5, if_pos im, cm, tf_gle, h6]
  unfold tf_noX tf_kx
  generalize tf_wr (tf_wr (tf_wr (tf_wr (tf_wr (tf_wr σ 21 n x1) 22 n x2) 23 n x3) 24 n x4) 25 n x5) 26 n x6 = s at h6 ⊢
  rw [tell_eq hn (Or.inl rfl), tf_bse]
  have h7 := o _ 29 0 (by decide) (o _ 28 0 (by decide) (o _ 27 (-1) (by decide) h6))
  rw [h7, bindXX_eq hn, tf_bse]
  have h8 : tf_wr (tf_wr (tf_wr (tf_wr (tf_wr s 27 n (-1)) 28 n 0) 29 n 0) 30 (2 * n) (-1)) 30 (2 * n + 1) (-1) 4 0 = nI n := by rw [tf_wr_o _ _ _ (by decide), tf_wr_o _ _ _ (by decide)]; exact h7
  rw [h8, tf_gle, nI_1]
section OPS
variable {σ : tf_S} {n kd : Nat} {x1 x2 x3 x4 x5 x6 y7 t0 : Int32}
theorem op55_r (h : ¬ tf_isR x1 0 8) : fX7_operator_55 x1 x2 x3 x4 x5 x6 σ y7 t0 = some (-2, σ) := by
  unfold fX7_operator_55
  have e : fX7_isIn σ x1 0 7 = some (0, σ) := (tf_gdM (lo := 0) (n := 8) (by decide) (by decide)).2 h
  rw [e, tf_bse]
  dsimp only
  rw [if_pos rfl]
theorem op55_i (h : kd < 8) : fX7_isIn σ (nI kd) 0 7 = some (1, σ) := (tf_gdM (lo := 0) (n := 8) (by decide) (by decide)).1 ⟨kd, by omega, h, rfl⟩
theorem op55_1 (h : kd < 8) : fX7_operator_55 (nI kd) x2 x3 x4 x5 x6 σ 0 t0 = some (-2, σ) := by
  unfold fX7_operator_55
  rw [op55_i h, tf_bse]
  dsimp only
  rw [if_neg tf_n10, if_pos rfl]
theorem op55_2 (h : kd < 8) : fX7_operator_55 (nI kd) x2 x3 x4 x5 x6 σ 1 0 = some (-2, σ) := by
  unfold fX7_operator_55
  rw [op55_i h, tf_bse]
  dsimp only
  rw [if_neg tf_n10, if_neg tf_n10, if_pos rfl]
theorem op55_3 (h : kd < 8) (g : fX7_isRight σ (nI kd) x4 x5 x6 = some (0, σ)) : fX7_operator_55 (nI kd) x2 x3 x4 x5 x6 σ 1 1 = some (-2, σ) := by
  unfold fX7_operator_55
  rw [op55_i h, tf_bse]
  dsimp only
  rw [if_neg tf_n10, if_neg tf_n10, if_neg tf_n10, g, tf_bse]
  dsimp only
  rw [if_pos rfl]
theorem op55_f (h : kd < 8) (g : fX7_isRight σ (nI kd) x4 x5 x6 = some (1, σ)) (hm : σ 0 24 = nI 24) : fX7_operator_55 (nI kd) x2 x3 x4 x5 x6 σ 1 1 = some (-3, σ) := by
  unfold fX7_operator_55
  rw [op55_i h, tf_bse]
  dsimp only
  rw [if_neg tf_n10, if_neg tf_n10, if_neg tf_n10, g, tf_bse]
  dsimp only
  rw [if_neg tf_n10, if_pos (show σ 0 24 = (24 : Int32) from hm)]
theorem op55_y (h : kd < 8) (g : fX7_isRight σ (nI kd) x4 x5 x6 = some (1, σ)) (hm : σ 0 24 = nI n) (hn : n < 24) : fX7_operator_55 (nI kd) x2 x3 x4 x5 x6 σ 1 1 = some (nI n, tf_noM σ n (nI kd) x2 x3 x4 x5 x6) := by
  have fl := tf_full hn (by decide)
  have im : tf_inb (nI n) 24 = true := tf_ib hn (by decide)
  have cm : (nI n).toNatClampNeg = n := nI_clamp (by omega)
  unfold fX7_operator_55
  rw [op55_i h, tf_bse]
  dsimp only
  rw [if_neg tf_n10, if_neg tf_n10, if_neg tf_n10, g, tf_bse]
  dsimp only
  rw [if_neg tf_n10]
  have o : ∀ (s : tf_S) (c : Nat) (x : Int32), 0 ≠ c → s 0 24 = nI n → tf_wr s c n x 0 24 = nI n := fun s c x hc hs => by rw [tf_wr_o _ _ _ hc]; exact hs
  have h1 := o σ 18 (nI kd) (by decide) hm
  have h2 := o _ 19 x2 (by decide) h1
  have h3 := o _ 20 x3 (by decide) h2
  have h4 := o _ 21 x4 (by decide) h3
  have h5 := o _ 22 x5 (by decide) h4
  have h6 := o _ 23 x6 (by decide) h5
  have h7 := o _ 24 (-1) (by decide) h6
  have h8 := o _ 25 0 (by decide) h7
  have h9 := o _ 26 0 (by decide) h8
  rw [if_neg (show ¬ σ 0 24 = (24 : Int32) by rw [hm]; exact fl.2), if_pos (show tf_inb (σ 0 24) 24 = true by rw [hm]; exact im), hm, cm, tf_gle, h1, if_pos im, cm, tf_gle, h2, if_pos im, cm, tf_gle, h3, if_pos im, cm, tf_gle, h4, if_pos im, cm, tf_gle, h5, if_pos im, cm, tf_gle, h6, if_pos im, cm, tf_gle, h7, if_pos im, cm, tf_gle, h8, if_pos im, cm, tf_gle, h9]
  unfold tf_noM
  generalize tf_wr (tf_wr (tf_wr (tf_wr (tf_wr (tf_wr (tf_wr (tf_wr (tf_wr σ 18 n (nI kd)) 19 n x2) 20 n x3) 21 n x4) 22 n x5) 23 n x6) 24 n (-1)) 25 n 0) 26 n 0 = s at h9 ⊢
  rw [tf_two, if_pos (tf_ib (show 2 * n < 48 by omega) (by decide)), nI_clamp (show 2 * n < 2 ^ 31 by omega), tf_gle, tf_wr_o _ _ _ (show 0 ≠ 27 by decide), h9, tf_two, nI_1, if_pos (tf_ib (show 2 * n + 1 < 48 by omega) (by decide)), nI_clamp (show 2 * n + 1 < 2 ^ 31 by omega), tf_gle, tf_wr_o _ _ _ (show 0 ≠ 27 by decide), tf_wr_o _ _ _ (show 0 ≠ 27 by decide), h9, tf_gle, tf_wr_s, pk_us, nI_1, nI_pred]
end OPS
theorem gd_fn1 {σx σm : tf_S} {nT nF : Nat} (hF : nF ≤ 16) (hn : nT ≤ 80) (x3 : σx 3 0 = nI nF) (m14 : σm 0 14 = nI nF) (Fv : ∀ f, f < nF → tf_FV σx σm nT f) (x : Int32) : tf_G (fX0_hasWith σx x 1) (fX7_isFunction σm x 0) σx σm (∃ f, f < nF ∧ x = nI f ∧ σx 18 f = -1) := by
  unfold fX0_hasWith fX7_isFunction
  rcases gd_fun hF x3 m14 x with ⟨p, q⟩ | ⟨⟨f, -, fn, rfl⟩, p, q⟩
  · rw [p, q, tf_bse, tf_bse]
    dsimp only
    rw [if_pos rfl, if_pos rfl]
    exact Or.inl ⟨rfl, rfl⟩
  · obtain ⟨-, -, -, -, -, -, -, -, q7, -⟩ := Fv f fn
    rw [p, q, tf_bse, tf_bse]
    dsimp only
    rw [if_neg tf_n10, if_neg tf_n10, if_pos (tf_ib (show f < 16 by omega) (by decide)), if_pos (tf_ib (show f < 16 by omega) (by decide)), nI_clamp (show f < 2 ^ 31 by omega)]
    rcases q7 with ⟨u1, u2⟩ | ⟨u, u1, u2, u3⟩
    · rw [if_pos u1, if_pos u2, if_pos rfl, if_pos rfl]
      exact Or.inr ⟨⟨f, fn, rfl, u1⟩, rfl, rfl⟩
    · have n1 : ¬ nI u = -1 := tf_m1ne u (by omega)
      rw [if_neg (show ¬ σx 18 f = -1 by rw [u1]; exact n1), if_neg (show ¬ σm 12 f = -1 by rw [u2]; exact n1), if_neg (show ¬ (2 : Int32) = 1 by decide), if_neg (show ¬ (1 : Int32) = 0 by decide)]
      exact Or.inl ⟨rfl, rfl⟩
theorem gd_fn2 {σx σm : tf_S} {nT nF : Nat} (hF : nF ≤ 16) (hn : nT ≤ 80) (x3 : σx 3 0 = nI nF) (m14 : σm 0 14 = nI nF) (Fv : ∀ f, f < nF → tf_FV σx σm nT f) (x : Int32) : tf_G (fX0_hasWith σx x 2) (fX7_isFunction σm x 1) σx σm (∃ f, f < nF ∧ x = nI f ∧ σx 18 f ≠ -1) := by
  unfold fX0_hasWith fX7_isFunction
  rcases gd_fun hF x3 m14 x with ⟨p, q⟩ | ⟨⟨f, -, fn, rfl⟩, p, q⟩
  · rw [p, q, tf_bse, tf_bse]
    dsimp only
    rw [if_pos rfl, if_pos rfl]
    exact Or.inl ⟨rfl, rfl⟩
  · obtain ⟨-, -, -, -, -, -, -, -, q7, -⟩ := Fv f fn
    rw [p, q, tf_bse, tf_bse]
    dsimp only
    rw [if_neg tf_n10, if_neg tf_n10, if_pos (tf_ib (show f < 16 by omega) (by decide)), if_pos (tf_ib (show f < 16 by omega) (by decide)), nI_clamp (show f < 2 ^ 31 by omega)]
    rcases q7 with ⟨u1, u2⟩ | ⟨u, u1, u2, u3⟩
    · rw [if_pos u1, if_pos u2, if_neg (show ¬ (1 : Int32) = 2 by decide), if_neg (show ¬ (0 : Int32) = 1 by decide)]
      exact Or.inl ⟨rfl, rfl⟩
    · have n1 : ¬ nI u = -1 := tf_m1ne u (by omega)
      rw [if_neg (show ¬ σx 18 f = -1 by rw [u1]; exact n1), if_neg (show ¬ σm 12 f = -1 by rw [u2]; exact n1), if_pos rfl, if_pos rfl]
      exact Or.inr ⟨⟨f, fn, rfl, by rw [u1]; exact n1⟩, rfl, rfl⟩
/-- what a right telling of an operator gives -/
def tf_TV (σx : tf_S) (nC nT nM nF nO kd : Nat) (x2 x3 x4 x5 x6 : Int32) : Prop := (kd ≠ 0 → ∃ a, a < nO ∧ x2 = nI a) ∧ ((kd = 4 ∨ kd = 5 ∨ kd = 6) → ∃ b, b < nO ∧ x3 = nI b) ∧ ((kd = 0 ∨ kd = 7) → ∃ u, u < nT ∧ x4 = nI u ∧ σx 12 u = 0) ∧ ((kd = 1 ∨ kd = 2) → ∃ f, f < nF ∧ x4 = nI f ∧ σx 18 f = -1) ∧ (kd = 5 → ∃ f, f < nF ∧ x4 = nI f ∧ σx 18 f ≠ -1) ∧ (kd = 3 → ∃ m, m < nM ∧ x4 = nI m) ∧ (kd = 6 → ∃ f g c, f < nM ∧ g < nM ∧ c < nC ∧ x4 = nI f ∧ x5 = nI g ∧ x6 = nI c ∧ σx 7 c = 2)
set_option maxHeartbeats 1000000 in
theorem tf_Rl.op {σx σm : tf_S} {nC nT nM nF nO kd : Nat} {x2 x3 x4 x5 x6 : Int32} (L : tf_Rl σx σm nC nT nM nF nO) (h8 : kd < 8) (hO : nO < 24) (V : tf_TV σx nC nT nM nF nO kd x2 x3 x4 x5 x6) : tf_Rl (tf_noX σx nO (nI kd) x2 x3 x4 x5 x6) (tf_noM σm nO (nI kd) x2 x3 x4 x5 x6) nC nT nM nF (nO + 1) := by
  obtain ⟨W, T, ⟨y2, m11, hM⟩, Mv, ⟨y3, m14, hF⟩, Fv, ⟨y4, m24, -⟩, O, R⟩ := L
  have X : ∀ k, (k ≠ 4 ∧ k < 21) ∨ 30 < k → tf_noX σx nO (nI kd) x2 x3 x4 x5 x6 k = σx k := fun k hk => by
    unfold tf_noX
    rw [tf_wr_o _ _ _ (by omega), tf_kx_o _ _ _ _ _ _ _ (by omega), tf_wr_o _ _ _ (by omega), tf_wr_o _ _ _ (by omega), tf_wr_o _ _ _ (by omega), tf_wr_o _ _ _ (by omega), tf_wr_o _ _ _ (by omega), tf_wr_o _ _ _ (by omega)]
  have M : ∀ k, 0 < k ∧ k < 18 → tf_noM σm nO (nI kd) x2 x3 x4 x5 x6 k = σm k := fun k hk => by
    unfold tf_noM
    rw [tf_wr_o _ _ _ (by omega), tf_wr_o _ _ _ (by omega), tf_wr_o _ _ _ (by omega), tf_wr_o _ _ _ (by omega), tf_wr_o _ _ _ (by omega), tf_wr_o _ _ _ (by omega), tf_wr_o _ _ _ (by omega), tf_wr_o _ _ _ (by omega), tf_wr_o _ _ _ (by omega), tf_wr_o _ _ _ (by omega), tf_wr_o _ _ _ (by omega), tf_wr_o _ _ _ (by omega)]
  have m0 : ∀ j, j ≠ 24 → tf_noM σm nO (nI kd) x2 x3 x4 x5 x6 0 j = σm 0 j := fun j hj => by
    unfold tf_noM
    rw [tf_wr_s, pk_un hj, tf_wr_o _ _ _ (by decide), tf_wr_o _ _ _ (by decide), tf_wr_o _ _ _ (by decide), tf_wr_o _ _ _ (by decide), tf_wr_o _ _ _ (by decide), tf_wr_o _ _ _ (by decide), tf_wr_o _ _ _ (by decide), tf_wr_o _ _ _ (by decide), tf_wr_o _ _ _ (by decide), tf_wr_o _ _ _ (by decide), tf_wr_o _ _ _ (by decide)]
  have m240 : tf_noM σm nO (nI kd) x2 x3 x4 x5 x6 0 24 = nI (nO + 1) := by unfold tf_noM; rw [tf_wr_s, pk_us]
  have x40 : tf_noX σx nO (nI kd) x2 x3 x4 x5 x6 4 0 = nI (nO + 1) := by unfold tf_noX; rw [tf_wr_s, pk_us]
  have x21 : ∀ j, tf_noX σx nO (nI kd) x2 x3 x4 x5 x6 21 j = upd (σx 21) nO (nI kd) j ∧ tf_noX σx nO (nI kd) x2 x3 x4 x5 x6 22 j = upd (σx 22) nO x2 j ∧ tf_noX σx nO (nI kd) x2 x3 x4 x5 x6 23 j = upd (σx 23) nO x3 j ∧ tf_noX σx nO (nI kd) x2 x3 x4 x5 x6 24 j = upd (σx 24) nO x4 j ∧ tf_noX σx nO (nI kd) x2 x3 x4 x5 x6 25 j = upd (σx 25) nO x5 j ∧ tf_noX σx nO (nI kd) x2 x3 x4 x5 x6 26 j = upd (σx 26) nO x6 j := fun j => by
    unfold tf_noX
    refine ⟨?_, ?_, ?_, ?_, ?_, ?_⟩ <;> rw [tf_wr_o _ _ _ (by decide), tf_kx_o _ _ _ _ _ _ _ (by decide)] <;> simp [tf_wr_s, tf_wr_o]
  have x27 : tf_noX σx nO (nI kd) x2 x3 x4 x5 x6 27 nO = -1 ∧ tf_noX σx nO (nI kd) x2 x3 x4 x5 x6 28 nO = 0 ∧ tf_noX σx nO (nI kd) x2 x3 x4 x5 x6 29 nO = 0 ∧ tf_noX σx nO (nI kd) x2 x3 x4 x5 x6 30 (2 * nO) = -1 ∧ tf_noX σx nO (nI kd) x2 x3 x4 x5 x6 30 (2 * nO + 1) = -1 := by
    unfold tf_noX
    rw [tf_wr_o _ _ _ (show 27 ≠ 4 by decide), tf_wr_o _ _ _ (show 28 ≠ 4 by decide), tf_wr_o _ _ _ (show 29 ≠ 4 by decide), tf_wr_o _ _ _ (show 30 ≠ 4 by decide)]
    exact tf_kx_y _ _ _ _ _ _ _
  have x27n : ∀ j, j ≠ nO → tf_noX σx nO (nI kd) x2 x3 x4 x5 x6 27 j = σx 27 j ∧ tf_noX σx nO (nI kd) x2 x3 x4 x5 x6 28 j = σx 28 j ∧ tf_noX σx nO (nI kd) x2 x3 x4 x5 x6 29 j = σx 29 j ∧ tf_noX σx nO (nI kd) x2 x3 x4 x5 x6 30 (2 * j) = σx 30 (2 * j) ∧ tf_noX σx nO (nI kd) x2 x3 x4 x5 x6 30 (2 * j + 1) = σx 30 (2 * j + 1) := fun j hj => by
    unfold tf_noX
    rw [tf_wr_o _ _ _ (show 27 ≠ 4 by decide), tf_wr_o _ _ _ (show 28 ≠ 4 by decide), tf_wr_o _ _ _ (show 29 ≠ 4 by decide), tf_wr_o _ _ _ (show 30 ≠ 4 by decide)]
    obtain ⟨a1, a2, a3, a4, a5⟩ := tf_kx_n (tf_wr (tf_wr (tf_wr (tf_wr (tf_wr (tf_wr σx 21 nO (nI kd)) 22 nO x2) 23 nO x3) 24 nO x4) 25 nO x5) 26 nO x6) (-1) 0 0 (-1) (-1) hj
    rw [a1, a2, a3, a4, a5]
    simp [tf_wr_o]
  have n18 : ∀ j, tf_noM σm nO (nI kd) x2 x3 x4 x5 x6 18 j = upd (σm 18) nO (nI kd) j ∧ tf_noM σm nO (nI kd) x2 x3 x4 x5 x6 19 j = upd (σm 19) nO x2 j ∧ tf_noM σm nO (nI kd) x2 x3 x4 x5 x6 20 j = upd (σm 20) nO x3 j ∧ tf_noM σm nO (nI kd) x2 x3 x4 x5 x6 21 j = upd (σm 21) nO x4 j ∧ tf_noM σm nO (nI kd) x2 x3 x4 x5 x6 22 j = upd (σm 22) nO x5 j ∧ tf_noM σm nO (nI kd) x2 x3 x4 x5 x6 23 j = upd (σm 23) nO x6 j ∧ tf_noM σm nO (nI kd) x2 x3 x4 x5 x6 24 j = upd (σm 24) nO (-1) j ∧ tf_noM σm nO (nI kd) x2 x3 x4 x5 x6 25 j = upd (σm 25) nO 0 j ∧ tf_noM σm nO (nI kd) x2 x3 x4 x5 x6 26 j = upd (σm 26) nO 0 j ∧ tf_noM σm nO (nI kd) x2 x3 x4 x5 x6 27 j = upd (upd (σm 27) (2 * nO) (-1)) (2 * nO + 1) (-1) j := fun j => by
    unfold tf_noM
    refine ⟨?_, ?_, ?_, ?_, ?_, ?_, ?_, ?_, ?_, ?_⟩ <;> simp [tf_wr_s, tf_wr_o]
  generalize tf_noX σx nO (nI kd) x2 x3 x4 x5 x6 = s at X x40 x21 x27 x27n ⊢
  generalize tf_noM σm nO (nI kd) x2 x3 x4 x5 x6 = u at M m0 m240 n18 ⊢
  refine ⟨tf_WF_cong W (X _ (by omega)) (X _ (by omega)) (X _ (by omega)) (X _ (by omega)) (X _ (by omega)) (X _ (by omega)) (X _ (by omega)), ?_, ⟨?_, ?_, hM⟩, fun k hk => ?_, ⟨?_, ?_, hF⟩, fun f hf => ?_, ⟨x40, m240, by omega⟩, fun k hk => ?_, fun k hk => ?_⟩
  · exact T.cg (fun k _ _ => X k (by omega)) (fun k _ _ => M k (by omega)) (m0 _ (by decide)) (m0 _ (by decide))
  · rw [X 2 (by omega)]; exact y2
  · rw [m0 11 (by decide)]; exact m11
  · exact (Mv k hk).cg (by rw [X 15 (by omega)]) (by rw [X 16 (by omega)]) (fun _ _ => by rw [X 12 (by omega)]) (fun _ _ => by rw [X 7 (by omega)]) (by rw [M 9 (by omega)]) (by rw [M 10 (by omega)]) (Nat.le_refl _)
  · rw [X 3 (by omega)]; exact y3
  · rw [m0 14 (by decide)]; exact m14
  · exact (Fv f hf).cg (by rw [X 17 (by omega)]) (by rw [X 18 (by omega)]) (by rw [X 19 (by omega)]) (fun _ _ => by rw [X 20 (by omega)]) (fun _ _ => by rw [X 12 (by omega)]) (by rw [M 11 (by omega)]) (by rw [M 12 (by omega)]) (by rw [M 13 (by omega)]) (fun _ _ => by rw [M 14 (by omega)])
  · obtain ⟨a1, a2, a3, a4, a5, a6⟩ := x21 k
    obtain ⟨b1, b2, b3, b4, b5, b6, -, -, -, -⟩ := n18 k
    by_cases e : k = nO
    · subst e
      rw [pk_us] at a1 a2 a3 a4 a5 a6 b1 b2 b3 b4 b5 b6
      obtain ⟨V1, V2, V07, V12, V5, V3, V6⟩ := V
      unfold tf_OV
      rw [a1, a2, a3, a4, a5, a6, b1, b2, b3, b4, b5, b6, X 12 (by omega), X 7 (by omega), X 18 (by omega)]
      refine ⟨kd, h8, rfl, rfl, fun z => ?_, fun z => ?_, fun z => ?_, fun z => ?_, fun z => ?_, fun z => ?_, fun z => ?_⟩
      · obtain ⟨a, p, q⟩ := V1 z
        exact ⟨a, p, q, q⟩
      · obtain ⟨a, p, q⟩ := V2 z
        exact ⟨a, p, q, q⟩
      · obtain ⟨a, p, q, r⟩ := V07 z
        exact ⟨a, p, q, q, r⟩
      · obtain ⟨a, p, q, r⟩ := V12 z
        exact ⟨a, p, q, q, r⟩
      · obtain ⟨a, p, q, r⟩ := V5 z
        exact ⟨a, p, q, q, r⟩
      · obtain ⟨a, p, q⟩ := V3 z
        exact ⟨a, p, q, q⟩
      · obtain ⟨f, g, c, f1, g1, c1, f2, g2, c2, c7⟩ := V6 z
        exact ⟨f, g, c, f1, g1, c1, f2, g2, c2, f2, g2, c2, c7⟩
    · rw [pk_un e] at a1 a2 a3 a4 a5 a6 b1 b2 b3 b4 b5 b6
      refine (O k (by omega)).cg (fun c c1 c2 => ?_) (fun c c1 c2 => ?_) (fun _ _ => by rw [X 7 (by omega)]) (fun _ _ => by rw [X 12 (by omega)]) (fun _ _ => by rw [X 18 (by omega)]) (Nat.le_refl _) (Nat.le_refl _) (Nat.le_refl _)
      · rcases (show c = 21 ∨ c = 22 ∨ c = 23 ∨ c = 24 ∨ c = 25 ∨ c = 26 by omega) with rfl | rfl | rfl | rfl | rfl | rfl
        · exact a1
        · exact a2
        · exact a3
        · exact a4
        · exact a5
        · exact a6
      · rcases (show c = 18 ∨ c = 19 ∨ c = 20 ∨ c = 21 ∨ c = 22 ∨ c = 23 by omega) with rfl | rfl | rfl | rfl | rfl | rfl
        · exact b1
        · exact b2
        · exact b3
        · exact b4
        · exact b5
        · exact b6
  · by_cases e : k = nO
    · subst e
      obtain ⟨a1, a2, a3, a4, a5⟩ := x27
      obtain ⟨-, -, -, -, -, -, b1, b2, b3, -⟩ := n18 k
      obtain ⟨-, -, -, -, -, -, -, -, -, b4⟩ := n18 (2 * k)
      obtain ⟨-, -, -, -, -, -, -, -, -, b5⟩ := n18 (2 * k + 1)
      unfold tf_RV
      rw [a1, a2, a3, a4, a5, b1, b2, b3, b4, b5, pk_us, pk_us, pk_us, pk_un (by omega), pk_us, pk_us]
      exact ⟨rfl, Or.inl rfl, rfl, rfl, Or.inl rfl, rfl, rfl⟩
    · obtain ⟨a1, a2, a3, a4, a5⟩ := x27n k e
      obtain ⟨-, -, -, -, -, -, b1, b2, b3, -⟩ := n18 k
      obtain ⟨-, -, -, -, -, -, -, -, -, b4⟩ := n18 (2 * k)
      obtain ⟨-, -, -, -, -, -, -, -, -, b5⟩ := n18 (2 * k + 1)
      exact (R k (by omega)).cg a1 a2 a3 a4 a5 (fun _ _ => by rw [X 12 (by omega)]) (by rw [b1, pk_un e]) (by rw [b2, pk_un e]) (by rw [b3, pk_un e]) (by rw [b4, pk_un (by omega), pk_un (by omega)]) (by rw [b5, pk_un (by omega), pk_un (by omega)])
