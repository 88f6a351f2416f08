/-! pure part 28: functions and bounds -/
def tf_nfX (σ : tf_S) (n : Nat) (x1 x2 x3 : Int32) : tf_S := tf_wr (tf_wr (tf_wr (tf_wr (tf_wr (tf_wr σ 17 n x1) 18 n x2) 19 n x3) 20 (2 * n) (-1)) 20 (2 * n + 1) (-1)) 3 0 (nI (n + 1))
def tf_nfM (σ : tf_S) (n : Nat) (x1 x2 x3 : Int32) : tf_S := tf_wr (tf_wr (tf_wr (tf_wr (tf_wr (tf_wr σ 11 n x1) 12 n x2) 13 n x3) 14 (2 * n) (-1)) 14 (2 * n + 1) (-1)) 0 14 (nI (n + 1))
theorem add0_eq {σ : tf_S} {n : Nat} {x1 x2 x3 : Int32} (h : σ 3 0 = nI n) (hn : n < 16) : fX0_add σ x1 x2 x3 = some (nI n, tf_nfX σ n x1 x2 x3) := by
  have fl := tf_full hn (by decide)
  have im : tf_inb (nI n) 16 = true := tf_ib hn (by decide)
  have cm : (nI n).toNatClampNeg = n := nI_clamp (by omega)
  unfold fX0_add
  rw [h, if_pos (show nI n < (16 : Int32) from fl.1), if_pos im, tf_gle, cm, tf_wr_o _ _ _ (show 3 ≠ 17 by decide), h, if_pos im, tf_gle, cm, tf_wr_o _ _ _ (show 3 ≠ 18 by decide), tf_wr_o _ _ _ (show 3 ≠ 17 by decide), h, if_pos im, tf_gle, cm]
  have S : ∀ i m (s : tf_S), i < 2 → s 3 0 = nI n → fX0_add_45 x1 x2 x3 (m + 1) s (nI i) = fX0_add_45 x1 x2 x3 m (tf_wr s 20 (2 * n + i) (-1)) (nI (i + 1)) := fun i m s hi hs => by
    rw [fX0_add_45, if_neg (show ¬ (2 : Int32) ≤ nI i from nI_ge (b := 2) (by omega) (by decide)), hs, tf_two', if_pos (tf_ib (show 2 * n + i < 32 by omega) (by decide)), tf_gle, tf_gle, nI_1, nI_clamp (show 2 * n + i < 2 ^ 31 by omega)]
  have h3 : tf_wr (tf_wr (tf_wr σ 17 n x1) 18 n x2) 19 n x3 3 0 = nI n := by rw [tf_wr_o _ _ _ (by decide), tf_wr_o _ _ _ (by decide), tf_wr_o _ _ _ (by decide)]; exact h
  have E : fX0_add_45 x1 x2 x3 100000 (tf_wr (tf_wr (tf_wr σ 17 n x1) 18 n x2) 19 n x3) 0 = fX0_add_45 x1 x2 x3 (99997 + 1 + 1 + 1) (tf_wr (tf_wr (tf_wr σ 17 n x1) 18 n x2) 19 n x3) (nI 0) := congrArg (fun k => fX0_add_45 x1 x2 x3 k (tf_wr (tf_wr (tf_wr σ 17 n x1) 18 n x2) 19 n x3) 0) (show (100000 : Nat) = 99997 + 1 + 1 + 1 from rfl)
  rw [E, S 0 _ _ (by decide) h3, S 1 _ _ (by decide) (by rw [tf_wr_o _ _ _ (by decide)]; exact h3), fX0_add_45, if_pos (show (2 : Int32) ≤ nI (1 + 1) by decide), tf_gle, tf_wr_o _ _ _ (show 3 ≠ 20 by decide), tf_wr_o _ _ _ (show 3 ≠ 20 by decide), h3, nI_1]
  rfl
theorem fun21_eq {σ : tf_S} {n : Nat} {x1 x2 x3 : Int32} (h : σ 0 14 = nI n) (hn : n < 16) (g : fX7_isType σ x3 = some (1, σ)) : fX7_function_21 x1 x2 x3 σ = some (nI n, tf_nfM σ n x1 x2 x3) := by
  have fl := tf_full hn (by decide)
  have im : tf_inb (nI n) 16 = true := tf_ib hn (by decide)
  have cm : (nI n).toNatClampNeg = n := nI_clamp (by omega)
  unfold fX7_function_21
  rw [g, tf_bse]
  dsimp only
  rw [if_neg tf_n10, if_neg (show ¬ σ 0 14 = (16 : Int32) by rw [h]; exact fl.2), if_pos (show tf_inb (σ 0 14) 16 = true by rw [h]; exact im), tf_gle, h, cm, tf_wr_o _ _ _ (show 0 ≠ 11 by decide), h, if_pos im, tf_gle, cm, tf_wr_o _ _ _ (show 0 ≠ 12 by decide), tf_wr_o _ _ _ (show 0 ≠ 11 by decide), h, if_pos im, tf_gle, cm]
  have h3 : tf_wr (tf_wr (tf_wr σ 11 n x1) 12 n x2) 13 n x3 0 14 = nI n := by rw [tf_wr_o _ _ _ (by decide), tf_wr_o _ _ _ (by decide), tf_wr_o _ _ _ (by decide)]; exact h
  rw [h3, tf_two, if_pos (tf_ib (show 2 * n < 32 by omega) (by decide)), tf_gle, nI_clamp (show 2 * n < 2 ^ 31 by omega), tf_wr_o _ _ _ (show 0 ≠ 14 by decide), h3, tf_two, nI_1, if_pos (tf_ib (show 2 * n + 1 < 32 by omega) (by decide)), tf_gle, nI_clamp (show 2 * n + 1 < 2 ^ 31 by omega), tf_wr_o _ _ _ (show 0 ≠ 14 by decide), tf_wr_o _ _ _ (show 0 ≠ 14 by decide), h3, tf_gle, tf_wr_s, pk_us, nI_1, nI_pred]
  rfl
theorem fun21_no {σ : tf_S} {x1 x2 x3 : Int32} (g : fX7_isType σ x3 = some (0, σ)) : fX7_function_21 x1 x2 x3 σ = some (-2, σ) := by
  unfold fX7_function_21
  rw [g, tf_bse]
  dsimp only
  rw [if_pos rfl]
theorem fun21_full {σ : tf_S} {x1 x2 x3 : Int32} (h : σ 0 14 = nI 16) (g : fX7_isType σ x3 = some (1, σ)) : fX7_function_21 x1 x2 x3 σ = some (-3, σ) := by
  unfold fX7_function_21
  rw [g, tf_bse]
  dsimp only
  rw [if_neg tf_n10, if_pos (show σ 0 14 = (16 : Int32) from h)]
set_option maxHeartbeats 1000000 in
/-- a function's row added keeps the relation -/
theorem tf_Rl.fn {σx σm : tf_S} {nC nT nM nF nO w t : Nat} {y : Int32} (L : tf_Rl σx σm nC nT nM nF nO) (hF : nF < 16) (hw : w < nT) (ht : t < nT) (hy : y = -1 ∨ ∃ u, u < nT ∧ y = nI u) : tf_Rl (tf_nfX σx nF (nI w) y (nI t)) (tf_nfM σm nF (nI w) y (nI t)) nC nT nM (nF + 1) nO := by
  obtain ⟨W, T, ⟨x2, m11, hM⟩, Mv, ⟨x3, m14, -⟩, Fv, ⟨x4, m24, hO⟩, O, R⟩ := L
  have xs : ∀ k, k ≠ 3 → k ≠ 17 → k ≠ 18 → k ≠ 19 → k ≠ 20 → tf_nfX σx nF (nI w) y (nI t) k = σx k := fun k k1 k2 k3 k4 k5 => by unfold tf_nfX; rw [tf_wr_o _ _ _ k1, tf_wr_o _ _ _ k5, tf_wr_o _ _ _ k5, tf_wr_o _ _ _ k4, tf_wr_o _ _ _ k3, tf_wr_o _ _ _ k2]
  have ms : ∀ k, k ≠ 0 → k ≠ 11 → k ≠ 12 → k ≠ 13 → k ≠ 14 → tf_nfM σm nF (nI w) y (nI t) k = σm k := fun k k1 k2 k3 k4 k5 => by unfold tf_nfM; rw [tf_wr_o _ _ _ k1, tf_wr_o _ _ _ k5, tf_wr_o _ _ _ k5, tf_wr_o _ _ _ k4, tf_wr_o _ _ _ k3, tf_wr_o _ _ _ k2]
  have m0 : ∀ j, j ≠ 14 → tf_nfM σm nF (nI w) y (nI t) 0 j = σm 0 j := fun j hj => by unfold tf_nfM; rw [tf_wr_s, pk_un hj, tf_wr_o _ _ _ (by decide), tf_wr_o _ _ _ (by decide), tf_wr_o _ _ _ (by decide), tf_wr_o _ _ _ (by decide), tf_wr_o _ _ _ (by decide)]
  have x17 : ∀ j, tf_nfX σx nF (nI w) y (nI t) 17 j = upd (σx 17) nF (nI w) j := fun j => by unfold tf_nfX; rw [tf_wr_o _ _ _ (by decide), tf_wr_o _ _ _ (by decide), tf_wr_o _ _ _ (by decide), tf_wr_o _ _ _ (by decide), tf_wr_o _ _ _ (by decide), tf_wr_s]
  have x18 : ∀ j, tf_nfX σx nF (nI w) y (nI t) 18 j = upd (σx 18) nF y j := fun j => by unfold tf_nfX; rw [tf_wr_o _ _ _ (by decide), tf_wr_o _ _ _ (by decide), tf_wr_o _ _ _ (by decide), tf_wr_o _ _ _ (by decide), tf_wr_s, tf_wr_o _ _ _ (by decide)]
  have x19 : ∀ j, tf_nfX σx nF (nI w) y (nI t) 19 j = upd (σx 19) nF (nI t) j := fun j => by unfold tf_nfX; rw [tf_wr_o _ _ _ (by decide), tf_wr_o _ _ _ (by decide), tf_wr_o _ _ _ (by decide), tf_wr_s, tf_wr_o _ _ _ (by decide), tf_wr_o _ _ _ (by decide)]
  have x20 : ∀ j, tf_nfX σx nF (nI w) y (nI t) 20 j = upd (upd (σx 20) (2 * nF) (-1)) (2 * nF + 1) (-1) j := fun j => by unfold tf_nfX; rw [tf_wr_o _ _ _ (by decide), tf_wr_s, tf_wr_s, tf_wr_o _ _ _ (by decide), tf_wr_o _ _ _ (by decide), tf_wr_o _ _ _ (by decide)]
  have n11 : ∀ j, tf_nfM σm nF (nI w) y (nI t) 11 j = upd (σm 11) nF (nI w) j := fun j => by unfold tf_nfM; rw [tf_wr_o _ _ _ (by decide), tf_wr_o _ _ _ (by decide), tf_wr_o _ _ _ (by decide), tf_wr_o _ _ _ (by decide), tf_wr_o _ _ _ (by decide), tf_wr_s]
  have n12 : ∀ j, tf_nfM σm nF (nI w) y (nI t) 12 j = upd (σm 12) nF y j := fun j => by unfold tf_nfM; rw [tf_wr_o _ _ _ (by decide), tf_wr_o _ _ _ (by decide), tf_wr_o _ _ _ (by decide), tf_wr_o _ _ _ (by decide), tf_wr_s, tf_wr_o _ _ _ (by decide)]
  have n13 : ∀ j, tf_nfM σm nF (nI w) y (nI t) 13 j = upd (σm 13) nF (nI t) j := fun j => by unfold tf_nfM; rw [tf_wr_o _ _ _ (by decide), tf_wr_o _ _ _ (by decide), tf_wr_o _ _ _ (by decide), tf_wr_s, tf_wr_o _ _ _ (by decide), tf_wr_o _ _ _ (by decide)]
  have n14 : ∀ j, tf_nfM σm nF (nI w) y (nI t) 14 j = upd (upd (σm 14) (2 * nF) (-1)) (2 * nF + 1) (-1) j := fun j => by unfold tf_nfM; rw [tf_wr_o _ _ _ (by decide), tf_wr_s, tf_wr_s, tf_wr_o _ _ _ (by decide), tf_wr_o _ _ _ (by decide), tf_wr_o _ _ _ (by decide)]
  have x30 : tf_nfX σx nF (nI w) y (nI t) 3 0 = nI (nF + 1) := by unfold tf_nfX; rw [tf_wr_s, pk_us]
  have m140 : tf_nfM σm nF (nI w) y (nI t) 0 14 = nI (nF + 1) := by unfold tf_nfM; rw [tf_wr_s, pk_us]
  generalize tf_nfX σx nF (nI w) y (nI t) = s at xs x17 x18 x19 x20 x30 ⊢
  generalize tf_nfM σm nF (nI w) y (nI t) = u at ms m0 n11 n12 n13 n14 m140 ⊢
  have X : ∀ k, k ≠ 3 ∧ (k < 17 ∨ 20 < k) → s k = σx k := fun k hk => xs k (by omega) (by omega) (by omega) (by omega) (by omega)
  have M : ∀ k, (0 < k ∧ k < 11) ∨ 14 < k → u k = σm k := fun k hk => ms k (by omega) (by omega) (by omega) (by omega) (by omega)
  refine ⟨tf_WF_cong W (X _ (by omega)) (X _ (by omega)) (X _ (by omega)) (X _ (by omega)) (X _ (by omega)) (X _ (by omega)) (X _ (by omega)), ?_, ⟨?_, ?_, hM⟩, fun k hk => ?_, ⟨x30, m140, by omega⟩, fun f hf => ?_, ⟨?_, ?_, hO⟩, fun k hk => ?_, fun k hk => ?_⟩
  · exact T.cg (fun k _ _ => X k (by omega)) (fun k _ _ => M k (by omega)) (m0 _ (by decide)) (m0 _ (by decide))
  · rw [X 2 (by omega)]; exact x2
  · rw [m0 11 (by decide)]; exact m11
  · exact (Mv k hk).cg (by rw [X 15 (by omega)]) (by rw [X 16 (by omega)]) (fun _ _ => by rw [X 12 (by omega)]) (fun _ _ => by rw [X 7 (by omega)]) (by rw [M 9 (by omega)]) (by rw [M 10 (by omega)]) (Nat.le_refl _)
  · by_cases e : f = nF
    · subst e
      refine ⟨w, t, ?_, ?_, hw, ?_, ?_, ht, ?_, fun i hi => ?_⟩
      · rw [x17, pk_us]
      · rw [n11, pk_us]
      · rw [x19, pk_us]
      · rw [n13, pk_us]
      · rw [x18, n12, pk_us, pk_us]
        exact hy.imp (fun q => ⟨q, q⟩) (fun ⟨v, v1, v2⟩ => ⟨v, v2, v2, v1⟩)
      · have e1 : s 20 (2 * f + i) = -1 := by
          rw [x20]
          rcases (show i = 0 ∨ i = 1 by omega) with rfl | rfl
          · rw [pk_un (by omega), Nat.add_zero, pk_us]
          · rw [pk_us]
        have e2 : u 14 (2 * f + i) = -1 := by
          rw [n14]
          rcases (show i = 0 ∨ i = 1 by omega) with rfl | rfl
          · rw [pk_un (by omega), Nat.add_zero, pk_us]
          · rw [pk_us]
        rw [e1, e2]
        exact ⟨rfl, tf_pbn _ _⟩
    · refine (Fv f (by omega)).cg (by rw [x17, pk_un e]) (by rw [x18, pk_un e]) (by rw [x19, pk_un e]) (fun i hi => by rw [x20, pk_un (by omega), pk_un (by omega)]) (fun _ _ => by rw [X 12 (by omega)]) (by rw [n11, pk_un e]) (by rw [n12, pk_un e]) (by rw [n13, pk_un e]) (fun i hi => by rw [n14, pk_un (by omega), pk_un (by omega)])
  · rw [X 4 (by omega)]; exact x4
  · rw [m0 24 (by decide)]; exact m24
  · exact (O k hk).cg (fun c _ _ => by rw [X c (by omega)]) (fun c _ _ => by rw [M c (by omega)]) (fun _ _ => by rw [X 7 (by omega)]) (fun _ _ => by rw [X 12 (by omega)]) (fun g hg => by rw [x18, pk_un (by omega)]) (Nat.le_refl _) (Nat.le_refl _) (by omega)
  · exact (R k hk).cg (by rw [X 27 (by omega)]) (by rw [X 28 (by omega)]) (by rw [X 29 (by omega)]) (by rw [X 30 (by omega)]) (by rw [X 30 (by omega)]) (fun _ _ => by rw [X 12 (by omega)]) (by rw [M 24 (by omega)]) (by rw [M 25 (by omega)]) (by rw [M 26 (by omega)]) (by rw [M 27 (by omega)]) (by rw [M 27 (by omega)])
theorem ok_function : tf_OK_function tf_Rel := fun σx σm ⟨nC, nT, nM, nF, nO, L⟩ a b c => by
  obtain ⟨W, T, -, -, ⟨x3, m14, hF⟩, -⟩ := id L
  have bad : tf_Rel σx σm := ⟨nC, nT, nM, nF, nO, L⟩
  unfold fX6_function fX7_function
  rcases gd_type W T a with ⟨p, q⟩ | ⟨⟨w, -, wn, rfl⟩, p, q⟩
  · rw [p, q, tf_bse, tf_bse]
    dsimp only
    rw [if_pos rfl, if_pos rfl]
    exact ⟨-2, σx, σm, rfl, rfl, bad⟩
  rw [p, q, tf_bse, tf_bse]
  dsimp only
  rw [if_neg tf_n10, if_neg tf_n10]
  -- the last step, once all is right
  have fin : ∀ t, t < nT → c = nI t → (b = -1 ∨ ∃ u, u < nT ∧ b = nI u) → fX7_isType σm c = some (1, σm) → ∃ r x m, (fX0_add σx (nI w) b c).bind (fun u => some (u.1, u.2)) = some (r, x) ∧ fX7_function_21 (nI w) b c σm = some (r, m) ∧ tf_Rel x m := by
    intro t ht e hb g
    by_cases full : nF = 16
    · refine ⟨-3, σx, σm, tf_pair _ ?_, fun21_full (by rw [m14, full]) g, bad⟩
      unfold fX0_add
      rw [x3, full, if_neg (show ¬ nI 16 < (16 : Int32) by decide)]
    · refine ⟨nI nF, _, _, tf_pair _ (add0_eq x3 (by omega)), fun21_eq m14 (by omega) g, ?_⟩
      rw [e]
      exact ⟨nC, nT, nM, nF + 1, nO, L.fn (by omega) wn ht hb⟩
  rcases gd_type W T c with ⟨p2, q2⟩ | ⟨⟨t, -, tn, te⟩, p2, q2⟩
  · rw [p2, tf_bse]
    dsimp only
    rw [if_pos rfl, fun21_no q2]
    by_cases b1 : b = -1
    · rw [if_pos b1]
      exact ⟨-2, σx, σm, rfl, rfl, bad⟩
    · rw [if_neg b1]
      rcases gd_type W T b with ⟨-, q3⟩ | ⟨-, -, q3⟩
      · rw [q3, tf_bse]
        dsimp only
        rw [if_pos rfl]
        exact ⟨-2, σx, σm, rfl, rfl, bad⟩
      · rw [q3, tf_bse]
        dsimp only
        rw [if_neg tf_n10, fun21_no q2]
        exact ⟨-2, σx, σm, rfl, rfl, bad⟩
  · rw [p2, tf_bse]
    dsimp only
    rw [if_neg tf_n10]
    by_cases b1 : b = -1
    · rw [if_pos b1, if_pos b1]
      exact fin t tn te (Or.inl b1) q2
    · rw [if_neg b1, if_neg b1]
      rcases gd_type W T b with ⟨p3, q3⟩ | ⟨⟨u, -, un, ue⟩, p3, q3⟩
      · rw [p3, q3, tf_bse, tf_bse]
        dsimp only
        rw [if_pos rfl, if_pos rfl]
        exact ⟨-2, σx, σm, rfl, rfl, bad⟩
      · rw [p3, q3, tf_bse, tf_bse]
        dsimp only
        rw [if_neg tf_n10, if_neg tf_n10]
        exact fin t tn te (Or.inr ⟨u, un, ue⟩) q2
/-- a bound told keeps the relation -/
theorem tf_Rl.bd {σx σm : tf_S} {nC nT nM nF nO f i : Nat} {y : Int32} (L : tf_Rl σx σm nC nT nM nF nO) (hf : f < nF) (hi : i < 2) (hy : tf_pb σx nT y) : tf_Rl (tf_wr σx 20 (2 * f + i) y) (tf_wr σm 14 (2 * f + i) y) nC nT nM nF nO := by
  obtain ⟨W, T, ⟨x2, m11, hM⟩, Mv, ⟨x3, m14, hF⟩, Fv, ⟨x4, m24, hO⟩, O, R⟩ := L
  have X : ∀ k, k ≠ 20 → tf_wr σx 20 (2 * f + i) y k = σx k := fun k hk => tf_wr_o _ _ _ hk
  have M : ∀ k, k ≠ 14 → tf_wr σm 14 (2 * f + i) y k = σm k := fun k hk => tf_wr_o _ _ _ hk
  have x20 : ∀ j, tf_wr σx 20 (2 * f + i) y 20 j = upd (σx 20) (2 * f + i) y j := fun j => by rw [tf_wr_s]
  have n14 : ∀ j, tf_wr σm 14 (2 * f + i) y 14 j = upd (σm 14) (2 * f + i) y j := fun j => by rw [tf_wr_s]
  generalize tf_wr σx 20 (2 * f + i) y = s at X x20 ⊢
  generalize tf_wr σm 14 (2 * f + i) y = u at M n14 ⊢
  refine ⟨tf_WF_cong W (X _ (by omega)) (X _ (by omega)) (X _ (by omega)) (X _ (by omega)) (X _ (by omega)) (X _ (by omega)) (X _ (by omega)), ?_, ⟨?_, ?_, hM⟩, fun k hk => ?_, ⟨?_, ?_, by omega⟩, fun g hg => ?_, ⟨?_, ?_, hO⟩, fun k hk => ?_, fun k hk => ?_⟩
  · exact T.cg (fun k _ _ => X k (by omega)) (fun k _ _ => M k (by omega)) (by rw [M 0 (by omega)]) (by rw [M 0 (by omega)])
  · rw [X 2 (by omega)]; exact x2
  · rw [M 0 (by omega)]; exact m11
  · exact (Mv k hk).cg (by rw [X 15 (by omega)]) (by rw [X 16 (by omega)]) (fun _ _ => by rw [X 12 (by omega)]) (fun _ _ => by rw [X 7 (by omega)]) (by rw [M 9 (by omega)]) (by rw [M 10 (by omega)]) (Nat.le_refl _)
  · rw [X 3 (by omega)]; exact x3
  · rw [M 0 (by omega)]; exact m14
  · obtain ⟨w, t, q1, q2, q3, q4, q5, q6, q7, q8⟩ := Fv g hg
    refine ⟨w, t, by rw [X 17 (by omega)]; exact q1, by rw [M 11 (by omega)]; exact q2, q3, by rw [X 19 (by omega)]; exact q4, by rw [M 13 (by omega)]; exact q5, q6, by rw [X 18 (by omega), M 12 (by omega)]; exact q7, fun j hj => ?_⟩
    rw [x20, n14]
    by_cases e : 2 * g + j = 2 * f + i
    · rw [e, pk_us, pk_us]
      exact ⟨rfl, hy.up (fun _ _ => by rw [X 12 (by omega)]) (Nat.le_refl _)⟩
    · rw [pk_un e, pk_un e]
      exact ⟨(q8 j hj).1, (q8 j hj).2.up (fun _ _ => by rw [X 12 (by omega)]) (Nat.le_refl _)⟩
  · rw [X 4 (by omega)]; exact x4
  · rw [M 0 (by omega)]; exact m24
  · exact (O k hk).cg (fun c _ _ => by rw [X c (by omega)]) (fun c _ _ => by rw [M c (by omega)]) (fun _ _ => by rw [X 7 (by omega)]) (fun _ _ => by rw [X 12 (by omega)]) (fun g hg => by rw [X 18 (by omega)]) (Nat.le_refl _) (Nat.le_refl _) (by omega)
  · exact (R k hk).cg (by rw [X 27 (by omega)]) (by rw [X 28 (by omega)]) (by rw [X 29 (by omega)]) (by rw [X 30 (by omega)]) (by rw [X 30 (by omega)]) (fun _ _ => by rw [X 12 (by omega)]) (by rw [M 24 (by omega)]) (by rw [M 25 (by omega)]) (by rw [M 26 (by omega)]) (by rw [M 27 (by omega)]) (by rw [M 27 (by omega)])
theorem ok_bound : tf_OK_bound tf_Rel := fun σx σm ⟨nC, nT, nM, nF, nO, L⟩ a b c => by
  obtain ⟨W, T, -, -, ⟨x3, m14, hF⟩, -⟩ := id L
  have hn := W.1.2.2.2.2.2
  have bad : tf_Rel σx σm := ⟨nC, nT, nM, nF, nO, L⟩
  unfold fX6_bound fX7_bound
  rcases gd_fun hF x3 m14 a with ⟨p, q⟩ | ⟨⟨f, -, fn, rfl⟩, p, q⟩
  · rw [p, q, tf_bse, tf_bse]
    dsimp only
    rw [if_pos rfl, if_pos rfl]
    exact ⟨-2, σx, σm, rfl, rfl, bad⟩
  rw [p, q, tf_bse, tf_bse]
  dsimp only
  rw [if_neg tf_n10, if_neg tf_n10]
  rcases gd_var σx σm b with ⟨p2, q2⟩ | ⟨⟨i, -, hi, rfl⟩, p2, q2⟩
  · rw [p2, q2, tf_bse, tf_bse]
    dsimp only
    rw [if_pos rfl, if_pos rfl]
    exact ⟨-2, σx, σm, rfl, rfl, bad⟩
  rw [p2, q2, tf_bse, tf_bse]
  dsimp only
  have i32 : tf_inb (nI (2 * f + i)) 32 = true := tf_ib (by omega) (by decide)
  have ci : (nI (2 * f + i)).toNatClampNeg = 2 * f + i := nI_clamp (by omega)
  rw [if_neg tf_n10, if_neg tf_n10, tf_two', tf_two'']
  simp only [i32, if_true, tf_gle, ci]
  by_cases c1 : c = -1
  · rw [if_pos c1, if_pos c1]
    exact ⟨1, _, _, rfl, rfl, nC, nT, nM, nF, nO, L.bd fn hi (Or.inl c1)⟩
  · rw [if_neg c1, if_neg c1]
    rcases gd_ctype W T c with ⟨p3, q3⟩ | ⟨⟨t, t6, tn, te⟩, p3, q3⟩
    · rw [p3, q3, tf_bse, tf_bse]
      dsimp only
      rw [if_pos rfl, if_pos rfl]
      exact ⟨-2, σx, σm, rfl, rfl, bad⟩
    rw [p3, q3, tf_bse, tf_bse]
    dsimp only
    rw [if_neg tf_n10, if_neg tf_n10]
    rcases gd_closed W T c with ⟨p4, q4⟩ | ⟨⟨u, un, ue, uc⟩, p4, q4⟩
    · rw [p4, q4, tf_bse, tf_bse]
      dsimp only
      rw [if_pos rfl, if_pos rfl]
      exact ⟨-2, σx, σm, rfl, rfl, bad⟩
    rw [p4, q4, tf_bse, tf_bse]
    dsimp only
    rw [if_neg tf_n10, if_neg tf_n10]
    have e : u = t := (nI_eq (by omega) (by omega)).mp (ue.symm.trans te)
    exact ⟨1, _, _, rfl, rfl, nC, nT, nM, nF, nO, L.bd fn hi (Or.inr ⟨u, by omega, un, ue, uc⟩)⟩
