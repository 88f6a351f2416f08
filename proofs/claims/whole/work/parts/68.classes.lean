/-! pure part 29: classes and types -/
def tf_ncX (σ : tf_S) (n : Nat) (x1 x2 : Int32) : tf_S := tf_wr (tf_wr (tf_wr σ 7 n x1) 8 n x2) 1 0 (nI (n + 1))
def tf_ncM (σ : tf_S) (n : Nat) (x1 x2 : Int32) : tf_S := tf_wr (tf_wr (tf_wr σ 1 n x1) 2 n x2) 0 0 (nI (n + 1))
theorem addClass_eq {σ : tf_S} {n : Nat} {x1 x2 : Int32} (h : σ 1 0 = nI n) (hn : n < 12) : fX4_addClass σ x1 x2 = some (nI n, tf_ncX σ n x1 x2) := by
  have fl := tf_full hn (by decide)
  have im : tf_inb (nI n) 12 = true := tf_ib hn (by decide)
  have cm : (nI n).toNatClampNeg = n := nI_clamp (by omega)
  unfold fX4_addClass
  rw [h, if_pos (show nI n < (12 : Int32) from fl.1), if_pos im, tf_gle, cm, tf_wr_o _ _ _ (show 1 ≠ 7 by decide), h, if_pos im, tf_gle, cm, tf_wr_o _ _ _ (show 1 ≠ 8 by decide), tf_wr_o _ _ _ (show 1 ≠ 7 by decide), h, tf_gle, nI_1]
  rfl
set_option maxHeartbeats 1000000 in
/-- a class's row added keeps the relation -/
theorem tf_Rl.cl {σx σm : tf_S} {nC nT nM nF nO p i : Nat} (L : tf_Rl σx σm nC nT nM nF nO) (hC : nC < 12) (hi : i < 3) (p6 : 6 ≤ p) (hp : p < nT) (hb : σx 12 p >>> (nI i &&& 31) = 0) : tf_Rl (tf_ncX σx nC (nI i) (nI p)) (tf_ncM σm nC (nI i) (nI p)) (nC + 1) nT nM nF nO := by
  obtain ⟨W, T, ⟨x2, m11, hM⟩, Mv, ⟨x3, m14, hF⟩, Fv, ⟨x4, m24, hO⟩, O, R⟩ := L
  have X : ∀ k, k ≠ 1 → k ≠ 7 → k ≠ 8 → tf_ncX σx nC (nI i) (nI p) k = σx k := fun k k1 k2 k3 => by unfold tf_ncX; rw [tf_wr_o _ _ _ k1, tf_wr_o _ _ _ k3, tf_wr_o _ _ _ k2]
  have M : ∀ k, 2 < k → tf_ncM σm nC (nI i) (nI p) k = σm k := fun k k1 => by unfold tf_ncM; rw [tf_wr_o _ _ _ (by omega), tf_wr_o _ _ _ (by omega), tf_wr_o _ _ _ (by omega)]
  have m0 : ∀ j, j ≠ 0 → tf_ncM σm nC (nI i) (nI p) 0 j = σm 0 j := fun j hj => by unfold tf_ncM; rw [tf_wr_s, pk_un hj, tf_wr_o _ _ _ (by decide), tf_wr_o _ _ _ (by decide)]
  have x7 : ∀ j, tf_ncX σx nC (nI i) (nI p) 7 j = upd (σx 7) nC (nI i) j := fun j => by unfold tf_ncX; rw [tf_wr_o _ _ _ (by decide), tf_wr_o _ _ _ (by decide), tf_wr_s]
  have x8 : ∀ j, tf_ncX σx nC (nI i) (nI p) 8 j = upd (σx 8) nC (nI p) j := fun j => by unfold tf_ncX; rw [tf_wr_o _ _ _ (by decide), tf_wr_s, tf_wr_o _ _ _ (by decide)]
  have n1 : ∀ j, tf_ncM σm nC (nI i) (nI p) 1 j = upd (σm 1) nC (nI i) j := fun j => by unfold tf_ncM; rw [tf_wr_o _ _ _ (by decide), tf_wr_o _ _ _ (by decide), tf_wr_s]
  have n2 : ∀ j, tf_ncM σm nC (nI i) (nI p) 2 j = upd (σm 2) nC (nI p) j := fun j => by unfold tf_ncM; rw [tf_wr_o _ _ _ (by decide), tf_wr_s, tf_wr_o _ _ _ (by decide)]
  have x10 : tf_ncX σx nC (nI i) (nI p) 1 0 = nI (nC + 1) := by unfold tf_ncX; rw [tf_wr_s, pk_us]
  have x13 : tf_ncX σx nC (nI i) (nI p) 1 3 = σx 1 3 := by unfold tf_ncX; rw [tf_wr_s, pk_un (by decide), tf_wr_o _ _ _ (by decide), tf_wr_o _ _ _ (by decide)]
  have m00 : tf_ncM σm nC (nI i) (nI p) 0 0 = nI (nC + 1) := by unfold tf_ncM; rw [tf_wr_s, pk_us]
  generalize tf_ncX σx nC (nI i) (nI p) = s at X x7 x8 x10 x13 ⊢
  generalize tf_ncM σm nC (nI i) (nI p) = u at M m0 n1 n2 m00 ⊢
  have e7 : ∀ c, c < nC → s 7 c = σx 7 c := fun c hc => by rw [x7, pk_un (by omega)]
  have e8 : ∀ c, c < nC → s 8 c = σx 8 c := fun c hc => by rw [x8, pk_un (by omega)]
  have e9 : s 9 = σx 9 := X 9 (by decide) (by decide) (by decide)
  have e10 : s 10 = σx 10 := X 10 (by decide) (by decide) (by decide)
  have e11 : s 11 = σx 11 := X 11 (by decide) (by decide) (by decide)
  have e12 : s 12 = σx 12 := X 12 (by decide) (by decide) (by decide)
  have wi : ∀ x, tf_wi s x = tf_wi σx x := fun x => by unfold tf_wi; rw [e12]
  refine ⟨?_, ?_, ⟨?_, ?_, hM⟩, fun k hk => ?_, ⟨?_, ?_, hF⟩, fun f hf => ?_, ⟨?_, ?_, hO⟩, fun k hk => ?_, fun k hk => ?_⟩
  · obtain ⟨⟨a1, a2, a3, a4, a5, a6⟩, b, w, s6, h4, ty, un, ⟨c0, c1⟩, cl⟩ := W
    refine ⟨⟨x10, by rw [x13]; exact a2, by omega, by omega, a5, a6⟩, fun t ht => ?_, ?_, ?_, fun t ht => ?_, fun t t6 ht => ?_, fun t t' g1 g2 g3 g4 q1 q2 q3 => ?_, ⟨?_, ?_⟩, fun k k1 k2 => ?_⟩
    · rw [e9, e10, e11]; exact b t ht
    · rw [e12]; exact w
    · rw [e9, e10, e11]; exact s6
    · rw [e12]; exact h4 t ht
    · obtain ⟨c, hc, t1, t2, t3⟩ := ty t t6 ht
      refine ⟨c, by omega, by rw [e9]; exact t1, ?_, ?_⟩
      · rw [e10, e11]; exact t2.to (e7 c hc) (Nat.le_refl _)
      · rw [e12, e10, e11, wi, wi]; exact t3
    · rw [e9] at q1
      rw [e10] at q2
      rw [e11] at q3
      exact un t t' g1 g2 g3 g4 q1 q2 q3
    · rw [e7 0 (by omega)]; exact c0
    · rw [e8 0 (by omega)]; exact c1
    · by_cases e : k = nC
      · subst e
        obtain ⟨c, hc, t1, -, -⟩ := ty p p6 hp
        refine ⟨?_, p, c, p6, hp, hc, ?_, ?_, ?_⟩
        · rw [x7, pk_us]
          rcases (show i = 0 ∨ i = 1 ∨ i = 2 by omega) with rfl | rfl | rfl
          · exact Or.inl rfl
          · exact Or.inr (Or.inl rfl)
          · exact Or.inr (Or.inr rfl)
        · rw [x8, pk_us]
        · rw [e9]; exact t1
        · rw [e12, x7, pk_us]; exact hb
      · obtain ⟨l1, q, c', l2, l3, l4, l5, l6, l7⟩ := cl k k1 (by omega)
        exact ⟨by rw [e7 k (by omega)]; exact l1, q, c', l2, l3, l4, by rw [e8 k (by omega)]; exact l5, by rw [e9]; exact l6, by rw [e12, e7 k (by omega)]; exact l7⟩
  · obtain ⟨t1, t2, t3, t4⟩ := T
    refine ⟨m00, by rw [m0 3 (by decide)]; exact t2, fun k hk => ?_, fun k hk => ?_⟩
    · rw [n1, n2, x7, x8]
      by_cases e : k = nC
      · subst e
        rw [pk_us, pk_us, pk_us, pk_us]
        exact ⟨rfl, rfl⟩
      · rw [pk_un e, pk_un e, pk_un e, pk_un e]
        exact t3 k (by omega)
    · rw [e9, e10, e11, e12, M 3 (by decide), M 4 (by decide), M 5 (by decide), M 6 (by decide)]; exact t4 k hk
  · rw [X 2 (by decide) (by decide) (by decide)]; exact x2
  · rw [m0 11 (by decide)]; exact m11
  · exact (Mv k hk).cg (by rw [X 15 (by decide) (by decide) (by decide)]) (by rw [X 16 (by decide) (by decide) (by decide)]) (fun _ _ => by rw [e12]) e7 (by rw [M 9 (by decide)]) (by rw [M 10 (by decide)]) (by omega)
  · rw [X 3 (by decide) (by decide) (by decide)]; exact x3
  · rw [m0 14 (by decide)]; exact m14
  · exact (Fv f hf).cg (by rw [X 17 (by decide) (by decide) (by decide)]) (by rw [X 18 (by decide) (by decide) (by decide)]) (by rw [X 19 (by decide) (by decide) (by decide)]) (fun _ _ => by rw [X 20 (by decide) (by decide) (by decide)]) (fun _ _ => by rw [e12]) (by rw [M 11 (by decide)]) (by rw [M 12 (by decide)]) (by rw [M 13 (by decide)]) (fun _ _ => by rw [M 14 (by decide)])
  · rw [X 4 (by decide) (by decide) (by decide)]; exact x4
  · rw [m0 24 (by decide)]; exact m24
  · exact (O k hk).cg (fun c _ _ => by rw [X c (by omega) (by omega) (by omega)]) (fun c _ _ => by rw [M c (by omega)]) e7 (fun _ _ => by rw [e12]) (fun g hg => by rw [X 18 (by decide) (by decide) (by decide)]) (by omega) (Nat.le_refl _) (Nat.le_refl _)
  · exact (R k hk).cg (by rw [X 27 (by decide) (by decide) (by decide)]) (by rw [X 28 (by decide) (by decide) (by decide)]) (by rw [X 29 (by decide) (by decide) (by decide)]) (by rw [X 30 (by decide) (by decide) (by decide)]) (by rw [X 30 (by decide) (by decide) (by decide)]) (fun _ _ => by rw [e12]) (by rw [M 24 (by decide)]) (by rw [M 25 (by decide)]) (by rw [M 26 (by decide)]) (by rw [M 27 (by decide)]) (by rw [M 27 (by decide)])
theorem ok_classOf : tf_OK_classOf tf_Rel := fun σx σm ⟨nC, nT, nM, nF, nO, L⟩ a b => by
  obtain ⟨W, T, -⟩ := id L
  have hn := W.1.2.2.2.2.2
  have hc := W.1.2.2.2.1
  have bad : tf_Rel σx σm := ⟨nC, nT, nM, nF, nO, L⟩
  unfold fX6_classOf fX7_classOf
  have I := tf_gdM (σ := σm) (x := a) (lo := 0) (n := 3) (by decide) (by decide)
  by_cases c : tf_isR a 0 3
  · have e : fX7_isIn σm a 0 2 = some (1, σm) := I.1 c
    obtain ⟨i, -, hi, rfl⟩ := c
    rw [e, tf_bse]
    dsimp only
    rw [if_neg tf_n10, if_neg (nI_pos (show i < 2 ^ 31 by omega)), if_pos (show nI i ≤ (2 : Int32) from nI_le (b := 2) (by omega) (by decide))]
    rcases gd_ctype W T b with ⟨p, q⟩ | ⟨⟨t, t6, tn, rfl⟩, p, q⟩
    · rw [p, q, tf_bse, tf_bse]
      dsimp only
      rw [if_pos rfl, if_pos rfl]
      exact ⟨-2, σx, σm, rfl, rfl, bad⟩
    rw [p, q, tf_bse, tf_bse]
    dsimp only
    rw [if_neg tf_n10, if_neg tf_n10, hasOnlyX (show t < 80 by omega), if_pos (tf_ib (show t < 80 by omega) (by decide)), nI_clamp (show t < 2 ^ 31 by omega)]
    have ec : (σm 6 t >>> (nI i &&& 31) = 0) = (σx 12 t >>> (nI i &&& 31) = 0) := by rw [(T.2.2.2 t tn).2.2.2]
    by_cases hb : σx 12 t >>> (nI i &&& 31) = 0
    · rw [if_pos hb, if_pos (ec.mpr hb), tf_bse]
      dsimp only
      rw [if_neg tf_n10]
      by_cases full : nC = 12
      · rw [if_pos (show σm 0 0 = (12 : Int32) by rw [T.1, full]; rfl)]
        refine ⟨-3, σx, σm, tf_pair _ ?_, rfl, bad⟩
        unfold fX4_addClass
        rw [W.1.1, full, if_neg (show ¬ nI 12 < (12 : Int32) by decide)]
      · have fl := tf_full (show nC < 12 by omega) (by decide)
        have im : tf_inb (nI nC) 12 = true := tf_ib (show nC < 12 by omega) (by decide)
        have cm : (nI nC).toNatClampNeg = nC := nI_clamp (by omega)
        rw [if_neg (show ¬ σm 0 0 = (12 : Int32) by rw [T.1]; exact fl.2), if_pos (show tf_inb (σm 0 0) 12 = true by rw [T.1]; exact im), tf_gle, T.1, cm, tf_wr_o _ _ _ (show 0 ≠ 1 by decide), T.1, if_pos im, tf_gle, cm, tf_wr_o _ _ _ (show 0 ≠ 2 by decide), tf_wr_o _ _ _ (show 0 ≠ 1 by decide), T.1, tf_gle, tf_wr_s, pk_us, nI_1, nI_pred]
        exact ⟨nI nC, _, _, tf_pair _ (addClass_eq W.1.1 (by omega)), rfl, nC + 1, nT, nM, nF, nO, L.cl (by omega) hi t6 tn hb⟩
    · rw [if_neg hb, if_neg (fun q => hb (ec.mp q)), tf_bse]
      dsimp only
      rw [if_pos rfl]
      exact ⟨-2, σx, σm, rfl, rfl, bad⟩
  · have e : fX7_isIn σm a 0 2 = some (0, σm) := I.2 c
    rw [e, tf_bse]
    dsimp only
    rw [if_pos rfl]
    by_cases a0 : a < 0
    · rw [if_pos a0]
      exact ⟨-2, σx, σm, rfl, rfl, bad⟩
    · obtain ⟨j, hj, rfl⟩ := nI_of a0
      have j3 : ¬ nI j ≤ (2 : Int32) := nI_ge (a := 2) (Nat.lt_of_not_le (fun q => c ⟨j, by omega, by omega, rfl⟩)) hj
      rw [if_neg a0, if_neg j3]
      exact ⟨-2, σx, σm, rfl, rfl, bad⟩
theorem tf_c012 {σ : tf_S} {nC nT c : Nat} (W : tf_WF σ nC nT) (hc : c < nC) : σ 7 c = 0 ∨ σ 7 c = 1 ∨ σ 7 c = 2 := by
  by_cases c0 : c = 0
  · subst c0; exact Or.inl W.2.2.2.2.2.2.2.1.1
  · exact (W.2.2.2.2.2.2.2.2 c (by omega) hc).1
theorem tf_made {σx σm : tf_S} {nC nT nM nF nO c : Nat} {x y : Int32} (L : tf_Rl σx σm nC nT nM nF nO) (hc : c < nC) (ar : tf_AR σx c x y nT) : ∃ r x' m', ((fX4_make σx (nI c) x y).bind fun u => some (u.1, u.2)) = some (r, x') ∧ ((fX7_made σm (nI c) x y).bind fun u => some (u.1, u.2)) = some (r, m') ∧ tf_Rel x' m' := by
  obtain ⟨W, T, -⟩ := id L
  obtain ⟨r, s, t, n, ex, em, W', T', l, F, G, -⟩ := tf_make_sim W T hc ar
  exact ⟨r, s, t, tf_pair _ ex, tf_pair _ em, nC, n, nM, nF, nO, L.up W' T' l F.H G.G⟩
theorem ok_type : tf_OK_type tf_Rel := fun σx σm ⟨nC, nT, nM, nF, nO, L⟩ a b d => by
  obtain ⟨W, T, -⟩ := id L
  have hn := W.1.2.2.2.2.2
  have hcC := W.1.2.2.2.1
  have bad : tf_Rel σx σm := ⟨nC, nT, nM, nF, nO, L⟩
  unfold fX6_type fX7_type
  rcases gd_class W T a with ⟨p, q⟩ | ⟨⟨c, -, cn, rfl⟩, p, q⟩
  · rw [p, q, tf_bse, tf_bse]
    dsimp only
    rw [if_pos rfl, if_pos rfl]
    exact ⟨-2, σx, σm, rfl, rfl, bad⟩
  have ic : tf_inb (nI c) 12 = true := tf_ib (show c < 12 by omega) (by decide)
  have cc : (nI c).toNatClampNeg = c := nI_clamp (by omega)
  have e1 : σm 1 c = σx 7 c := (T.2.2.1 c cn).1
  rw [p, q, tf_bse, tf_bse]
  dsimp only
  rw [if_neg tf_n10, if_neg tf_n10, if_pos ic, if_pos ic, tf_gle]
  have E : ∀ σ, fX7_type_46 (nI c) b d σ = if σ 1 c ≤ 0 then (if σ 1 c ≤ (1 : Int32) then ((fX7_made σ (nI c) (-1 : Int32) (-1 : Int32)).bind fun u12 => some (u12.1, u12.2)) else ((fX7_made σ (nI c) (-1 : Int32) d).bind fun u14 => some (u14.1, u14.2))) else (if σ 1 c ≤ (1 : Int32) then ((fX7_made σ (nI c) b (-1 : Int32)).bind fun u18 => some (u18.1, u18.2)) else ((fX7_made σ (nI c) b d).bind fun u20 => some (u20.1, u20.2))) := fun σ => by
    unfold fX7_type_46
    rw [if_pos ic, if_pos ic, if_pos ic, cc]
  unfold fX6_type_61
  simp only [ic, if_true, cc, E, e1]
  rcases tf_c012 W cn with v | v | v
  · simp only [v, show (0 : Int32) ≤ 0 by decide, show (0 : Int32) ≤ 1 by decide, if_true]
    exact tf_made L cn (Or.inl ⟨v, rfl, rfl⟩)
  · simp only [v, show ¬ (1 : Int32) ≤ 0 by decide, show (1 : Int32) ≤ 1 by decide, if_true, if_false]
    rcases gd_arg W T b with ⟨p2, q2⟩ | ⟨⟨i, i4, hi, rfl⟩, p2, q2⟩
    · rw [p2, q2, tf_bse, tf_bse]
      dsimp only
      rw [if_pos rfl, if_pos rfl]
      exact ⟨-2, σx, σm, rfl, rfl, bad⟩
    rw [p2, q2, tf_bse, tf_bse]
    dsimp only
    rw [if_neg tf_n10, if_neg tf_n10]
    simp only [e1, v, show ¬ (1 : Int32) ≤ 0 by decide, show (1 : Int32) ≤ 1 by decide, if_true, if_false]
    exact tf_made L cn (Or.inr (Or.inl ⟨v, ⟨i, i4, hi, rfl⟩, rfl⟩))
  · simp only [v, show ¬ (2 : Int32) ≤ 0 by decide, show ¬ (2 : Int32) ≤ 1 by decide, if_false]
    rcases gd_arg W T b with ⟨p2, q2⟩ | ⟨⟨i, i4, hi, rfl⟩, p2, q2⟩
    · rw [p2, q2, tf_bse, tf_bse]
      dsimp only
      rw [if_pos rfl, if_pos rfl]
      exact ⟨-2, σx, σm, rfl, rfl, bad⟩
    rw [p2, q2, tf_bse, tf_bse]
    dsimp only
    rw [if_neg tf_n10, if_neg tf_n10]
    simp only [e1, v, show ¬ (2 : Int32) ≤ 0 by decide, show ¬ (2 : Int32) ≤ 1 by decide, if_false]
    rcases gd_arg W T d with ⟨p3, q3⟩ | ⟨⟨j, j4, hj, rfl⟩, p3, q3⟩
    · rw [p3, q3, tf_bse, tf_bse]
      dsimp only
      rw [if_pos rfl, if_pos rfl]
      exact ⟨-2, σx, σm, rfl, rfl, bad⟩
    rw [p3, q3, tf_bse, tf_bse]
    dsimp only
    rw [if_neg tf_n10, if_neg tf_n10]
    simp only [e1, v, show ¬ (2 : Int32) ≤ 0 by decide, show ¬ (2 : Int32) ≤ 1 by decide, if_false]
    exact tf_made L cn (Or.inr (Or.inr ⟨v, ⟨i, i4, hi, rfl⟩, j, j4, hj, rfl⟩))
