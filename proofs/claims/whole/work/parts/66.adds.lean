/-! pure part 27: rows added: members, functions, bounds, classes, types -/
theorem tf_MV.cg {a b a' b' : tf_S} {nC nC' nT k : Nat} (h : tf_MV a b nC nT k) (e15 : a' 15 k = a 15 k) (e16 : a' 16 k = a 16 k) (e12 : ∀ t, t < nT → a' 12 t = a 12 t) (e7 : ∀ c, c < nC → a' 7 c = a 7 c) (m9 : b' 9 k = b 9 k) (m10 : b' 10 k = b 10 k) (l : nC ≤ nC') : tf_MV a' b' nC' nT k := by
  obtain ⟨c, t, q1, q2, q3, q4, q5, q6, q7⟩ := h
  exact ⟨c, t, e15.trans q1, m9.trans q2, by omega, e16.trans q4, m10.trans q5, q6, by rw [e12 t q6, e7 c q3]; exact q7⟩
theorem tf_FV.cg {a b a' b' : tf_S} {nT k : Nat} (h : tf_FV a b nT k) (e17 : a' 17 k = a 17 k) (e18 : a' 18 k = a 18 k) (e19 : a' 19 k = a 19 k) (e20 : ∀ i, i < 2 → a' 20 (2 * k + i) = a 20 (2 * k + i)) (e12 : ∀ t, t < nT → a' 12 t = a 12 t) (m11 : b' 11 k = b 11 k) (m12 : b' 12 k = b 12 k) (m13 : b' 13 k = b 13 k) (m14 : ∀ i, i < 2 → b' 14 (2 * k + i) = b 14 (2 * k + i)) : tf_FV a' b' nT k := by
  obtain ⟨w, t, q1, q2, q3, q4, q5, q6, q7, q8⟩ := h
  refine ⟨w, t, e17.trans q1, m11.trans q2, q3, e19.trans q4, m13.trans q5, q6, ?_, fun i hi => ⟨?_, ?_⟩⟩
  · rw [e18, m12]; exact q7
  · rw [e20 i hi, m14 i hi]; exact (q8 i hi).1
  · rw [e20 i hi]; exact (q8 i hi).2.up e12 (Nat.le_refl _)
theorem tf_OV.cg {a b a' b' : tf_S} {nC nC' nT nM nM' nF nF' k : Nat} (h : tf_OV a b nC nT nM nF k) (ex : ∀ c, 20 < c → c < 27 → a' c k = a c k) (em : ∀ c, 17 < c → c < 24 → b' c k = b c k) (e7 : ∀ c, c < nC → a' 7 c = a 7 c) (e12 : ∀ t, t < nT → a' 12 t = a 12 t) (e18 : ∀ f, f < nF → a' 18 f = a 18 f) (lC : nC ≤ nC') (lM : nM ≤ nM') (lF : nF ≤ nF') : tf_OV a' b' nC' nT nM' nF' k := by
  obtain ⟨kd, h8, ek, mk, V1, V2, V07, V12, V5, V3, V6⟩ := h
  have x := fun c (h1 : 20 < c) (h2 : c < 27) => ex c h1 h2
  unfold tf_OV
  rw [ex 21 (by omega) (by omega), ex 22 (by omega) (by omega), ex 23 (by omega) (by omega), ex 24 (by omega) (by omega), ex 25 (by omega) (by omega), ex 26 (by omega) (by omega), em 18 (by omega) (by omega), em 19 (by omega) (by omega), em 20 (by omega) (by omega), em 21 (by omega) (by omega), em 22 (by omega) (by omega), em 23 (by omega) (by omega)]
  refine ⟨kd, h8, ek, mk, V1, V2, fun z => ?_, fun z => ?_, fun z => ?_, fun z => ?_, fun z => ?_⟩
  · obtain ⟨u, u1, u2, u3, u4⟩ := V07 z
    exact ⟨u, u1, u2, u3, by rw [e12 u u1]; exact u4⟩
  · obtain ⟨u, u1, u2, u3, u4⟩ := V12 z
    exact ⟨u, by omega, u2, u3, by rw [e18 u u1]; exact u4⟩
  · obtain ⟨u, u1, u2, u3, u4⟩ := V5 z
    exact ⟨u, by omega, u2, u3, by rw [e18 u u1]; exact u4⟩
  · obtain ⟨u, u1, u2, u3⟩ := V3 z
    exact ⟨u, by omega, u2, u3⟩
  · obtain ⟨f, g, c, f1, g1, c1, f2, g2, c2, f3, g3, c3, c7⟩ := V6 z
    exact ⟨f, g, c, by omega, by omega, by omega, f2, g2, c2, f3, g3, c3, by rw [e7 c c1]; exact c7⟩
theorem tf_RV.cg {a b a' b' : tf_S} {nT k : Nat} (h : tf_RV a b nT k) (e27 : a' 27 k = a 27 k) (e28 : a' 28 k = a 28 k) (e29 : a' 29 k = a 29 k) (e30 : a' 30 (2 * k) = a 30 (2 * k)) (e31 : a' 30 (2 * k + 1) = a 30 (2 * k + 1)) (e12 : ∀ t, t < nT → a' 12 t = a 12 t) (m24 : b' 24 k = b 24 k) (m25 : b' 25 k = b 25 k) (m26 : b' 26 k = b 26 k) (m27 : b' 27 (2 * k) = b 27 (2 * k)) (m28 : b' 27 (2 * k + 1) = b 27 (2 * k + 1)) : tf_RV a' b' nT k := by
  obtain ⟨q1, q2, q3, q4, q5, q6, q7⟩ := h
  unfold tf_RV
  rw [e27, e28, e29, e30, e31, m24, m25, m26, m27, m28]
  exact ⟨q1, q2.imp id (fun ⟨q, u1, u2, u3⟩ => ⟨q, u1, u2, by rw [e12 q u1]; exact u3⟩), q3, q4, q5, q6, q7⟩
theorem tf_TM.cg {a b a' b' : tf_S} {nC nT : Nat} (h : tf_TM a b nC nT) (ea : ∀ c, 6 < c → c < 13 → a' c = a c) (eb : ∀ c, 0 < c → c < 7 → b' c = b c) (e0 : b' 0 0 = b 0 0) (e3 : b' 0 3 = b 0 3) : tf_TM a' b' nC nT := by
  obtain ⟨t1, t2, t3, t4⟩ := h
  refine ⟨e0.trans t1, e3.trans t2, fun k hk => ?_, fun k hk => ?_⟩
  · rw [ea 7 (by omega) (by omega), ea 8 (by omega) (by omega), eb 1 (by omega) (by omega), eb 2 (by omega) (by omega)]; exact t3 k hk
  · rw [ea 9 (by omega) (by omega), ea 10 (by omega) (by omega), ea 11 (by omega) (by omega), ea 12 (by omega) (by omega), eb 3 (by omega) (by omega), eb 4 (by omega) (by omega), eb 5 (by omega) (by omega), eb 6 (by omega) (by omega)]; exact t4 k hk
theorem hasOnlyX {σ : tf_S} {t : Nat} {x : Int32} (ht : t < 80) : fX4_hasOnly σ (nI t) x = if (σ 12 t >>> (x &&& 31)) = 0 then some (1, σ) else some (0, σ) := by
  unfold fX4_hasOnly
  rw [if_pos (tf_ib ht (by decide)), nI_clamp (show t < 2 ^ 31 by omega)]
theorem tf_full {n N : Nat} (h : n < N) (hN : N < 2 ^ 31) : nI n < nI N ∧ ¬ nI n = nI N := ⟨nI_lt h hN, fun q => by
  have := (nI_eq (by omega) hN).mp q
  omega⟩
set_option maxHeartbeats 1000000 in
theorem ok_member : tf_OK_member tf_Rel := fun σx σm ⟨nC, nT, nM, nF, nO, L⟩ a b => by
  obtain ⟨W, T, ⟨x2, m11, hM⟩, Mv, ⟨x3, m14, hF⟩, Fv, ⟨x4, m24, hO⟩, O, R⟩ := id L
  have hn := W.1.2.2.2.2.2
  have hc := W.1.2.2.2.1
  unfold fX6_member fX7_member
  rcases gd_class W T a with ⟨p, q⟩ | ⟨⟨c, -, cn, rfl⟩, p, q⟩
  · rw [p, q, tf_bse, tf_bse]
    dsimp only
    rw [if_pos rfl, if_pos rfl]
    exact ⟨-2, σx, σm, rfl, rfl, nC, nT, nM, nF, nO, L⟩
  rw [p, q, tf_bse, tf_bse]
  dsimp only
  rw [if_neg tf_n10, if_neg tf_n10]
  rcases gd_type W T b with ⟨p2, q2⟩ | ⟨⟨t, -, tn, rfl⟩, p2, q2⟩
  · rw [p2, q2, tf_bse, tf_bse]
    dsimp only
    rw [if_pos rfl, if_pos rfl]
    exact ⟨-2, σx, σm, rfl, rfl, nC, nT, nM, nF, nO, L⟩
  rw [p2, q2, tf_bse, tf_bse]
  dsimp only
  rw [if_neg tf_n10, if_neg tf_n10, if_pos (tf_ib (show c < 12 by omega) (by decide)), if_pos (tf_ib (show t < 80 by omega) (by decide)), if_pos (tf_ib (show c < 12 by omega) (by decide)), hasOnlyX (show t < 80 by omega), nI_clamp (show c < 2 ^ 31 by omega), nI_clamp (show t < 2 ^ 31 by omega)]
  have ec : (σm 6 t >>> (σm 1 c &&& 31) = 0) = (σx 12 t >>> (σx 7 c &&& 31) = 0) := by rw [(T.2.2.2 t tn).2.2.2, (T.2.2.1 c cn).1]
  by_cases hb : σx 12 t >>> (σx 7 c &&& 31) = 0
  · rw [if_pos hb, if_pos (ec.mpr hb), tf_bse]
    dsimp only
    rw [if_neg tf_n10]
    unfold fX1_add
    rw [x2]
    by_cases full : nM = 24
    · subst full
      rw [if_neg (show ¬ nI 24 < (24 : Int32) by decide), if_pos (show σm 0 11 = (24 : Int32) from m11), tf_bse]
      exact ⟨-3, σx, σm, rfl, rfl, nC, nT, 24, nF, nO, L⟩
    · have fl := tf_full (show nM < 24 by omega) (by decide)
      have im : tf_inb (nI nM) 24 = true := tf_ib (show nM < 24 by omega) (by decide)
      have cm : (nI nM).toNatClampNeg = nM := nI_clamp (by omega)
      rw [if_pos (show nI nM < (24 : Int32) from fl.1), if_neg (show ¬ σm 0 11 = (24 : Int32) by rw [m11]; exact fl.2), if_pos im, if_pos (show tf_inb (σm 0 11) 24 = true by rw [m11]; exact im), tf_gle, tf_gle, m11, cm]
      rw [tf_wr_o _ _ _ (show 2 ≠ 15 by decide), x2, if_pos im, tf_gle, tf_gle, cm, tf_wr_o _ _ _ (show 2 ≠ 16 by decide), tf_wr_o _ _ _ (show 2 ≠ 15 by decide), x2, tf_bse]
      rw [tf_wr_o _ _ _ (show 0 ≠ 9 by decide), m11, if_pos im, tf_gle, tf_gle, cm, tf_wr_o _ _ _ (show 0 ≠ 10 by decide), tf_wr_o _ _ _ (show 0 ≠ 9 by decide), m11, tf_wr_s, pk_us, nI_1, nI_pred]
      have xs : ∀ k, k ≠ 2 → k ≠ 15 → k ≠ 16 → tf_wr (tf_wr (tf_wr σx 15 nM (nI c)) 16 nM (nI t)) 2 0 (nI (nM + 1)) k = σx k := fun k k1 k2 k3 => by rw [tf_wr_o _ _ _ k1, tf_wr_o _ _ _ k3, tf_wr_o _ _ _ k2]
      have ms : ∀ k, k ≠ 0 → k ≠ 9 → k ≠ 10 → tf_wr (tf_wr (tf_wr σm 9 nM (nI c)) 10 nM (nI t)) 0 11 (nI (nM + 1)) k = σm k := fun k k1 k2 k3 => by rw [tf_wr_o _ _ _ k1, tf_wr_o _ _ _ k3, tf_wr_o _ _ _ k2]
      have m0 : ∀ j, j ≠ 11 → tf_wr (tf_wr (tf_wr σm 9 nM (nI c)) 10 nM (nI t)) 0 11 (nI (nM + 1)) 0 j = σm 0 j := fun j hj => by rw [tf_wr_s, pk_un hj, tf_wr_o _ _ _ (by decide), tf_wr_o _ _ _ (by decide)]
      have x15 : ∀ j, tf_wr (tf_wr (tf_wr σx 15 nM (nI c)) 16 nM (nI t)) 2 0 (nI (nM + 1)) 15 j = upd (σx 15) nM (nI c) j := fun j => by rw [tf_wr_o _ _ _ (by decide), tf_wr_o _ _ _ (by decide), tf_wr_s]
      have x16 : ∀ j, tf_wr (tf_wr (tf_wr σx 15 nM (nI c)) 16 nM (nI t)) 2 0 (nI (nM + 1)) 16 j = upd (σx 16) nM (nI t) j := fun j => by rw [tf_wr_o _ _ _ (by decide), tf_wr_s, tf_wr_o _ _ _ (by decide)]
      have m9 : ∀ j, tf_wr (tf_wr (tf_wr σm 9 nM (nI c)) 10 nM (nI t)) 0 11 (nI (nM + 1)) 9 j = upd (σm 9) nM (nI c) j := fun j => by rw [tf_wr_o _ _ _ (by decide), tf_wr_o _ _ _ (by decide), tf_wr_s]
      have m10 : ∀ j, tf_wr (tf_wr (tf_wr σm 9 nM (nI c)) 10 nM (nI t)) 0 11 (nI (nM + 1)) 10 j = upd (σm 10) nM (nI t) j := fun j => by rw [tf_wr_o _ _ _ (by decide), tf_wr_s, tf_wr_o _ _ _ (by decide)]
      have x20 : tf_wr (tf_wr (tf_wr σx 15 nM (nI c)) 16 nM (nI t)) 2 0 (nI (nM + 1)) 2 0 = nI (nM + 1) := by rw [tf_wr_s, pk_us]
      have m110 : tf_wr (tf_wr (tf_wr σm 9 nM (nI c)) 10 nM (nI t)) 0 11 (nI (nM + 1)) 0 11 = nI (nM + 1) := by rw [tf_wr_s, pk_us]
      generalize tf_wr (tf_wr (tf_wr σx 15 nM (nI c)) 16 nM (nI t)) 2 0 (nI (nM + 1)) = s at xs x15 x16 x20 ⊢
      generalize tf_wr (tf_wr (tf_wr σm 9 nM (nI c)) 10 nM (nI t)) 0 11 (nI (nM + 1)) = u at ms m0 m9 m10 m110 ⊢
      refine ⟨nI nM, s, u, rfl, rfl, nC, nT, nM + 1, nF, nO, tf_WF_cong W (xs _ (by decide) (by decide) (by decide)) (xs _ (by decide) (by decide) (by decide)) (xs _ (by decide) (by decide) (by decide)) (xs _ (by decide) (by decide) (by decide)) (xs _ (by decide) (by decide) (by decide)) (xs _ (by decide) (by decide) (by decide)) (xs _ (by decide) (by decide) (by decide)), ?_, ⟨x20, m110, by omega⟩, fun k hk => ?_, ⟨?_, ?_, hF⟩, fun f hf => ?_, ⟨?_, ?_, hO⟩, fun k hk => ?_, fun k hk => ?_⟩
      · exact T.cg (fun k _ _ => xs k (by omega) (by omega) (by omega)) (fun k _ _ => ms k (by omega) (by omega) (by omega)) (m0 _ (by decide)) (m0 _ (by decide))
      · by_cases e : k = nM
        · subst e
          refine ⟨c, t, ?_, ?_, cn, ?_, ?_, tn, ?_⟩
          · rw [x15, pk_us]
          · rw [m9, pk_us]
          · rw [x16, pk_us]
          · rw [m10, pk_us]
          · rw [xs 12 (by decide) (by decide) (by decide), xs 7 (by decide) (by decide) (by decide)]; exact hb
        · exact (Mv k (by omega)).cg (by rw [x15, pk_un e]) (by rw [x16, pk_un e]) (fun _ _ => by rw [xs 12 (by decide) (by decide) (by decide)]) (fun _ _ => by rw [xs 7 (by decide) (by decide) (by decide)]) (by rw [m9, pk_un e]) (by rw [m10, pk_un e]) (Nat.le_refl _)
      · rw [xs 3 (by decide) (by decide) (by decide)]; exact x3
      · rw [m0 14 (by decide)]; exact m14
      · unfold tf_FV tf_pb
        rw [xs 12 (by decide) (by decide) (by decide), xs 17 (by decide) (by decide) (by decide), xs 18 (by decide) (by decide) (by decide), xs 19 (by decide) (by decide) (by decide), xs 20 (by decide) (by decide) (by decide), ms 11 (by decide) (by decide) (by decide), ms 12 (by decide) (by decide) (by decide), ms 13 (by decide) (by decide) (by decide), ms 14 (by decide) (by decide) (by decide)]
        exact Fv f hf
      · rw [xs 4 (by decide) (by decide) (by decide)]; exact x4
      · rw [m0 24 (by decide)]; exact m24
      · exact (O k hk).cg (fun c _ _ => by rw [xs c (by omega) (by omega) (by omega)]) (fun c _ _ => by rw [ms c (by omega) (by omega) (by omega)]) (fun _ _ => by rw [xs 7 (by decide) (by decide) (by decide)]) (fun _ _ => by rw [xs 12 (by decide) (by decide) (by decide)]) (fun _ _ => by rw [xs 18 (by decide) (by decide) (by decide)]) (Nat.le_refl _) (by omega) (Nat.le_refl _)
      · unfold tf_RV
        rw [xs 12 (by decide) (by decide) (by decide), xs 27 (by decide) (by decide) (by decide), xs 28 (by decide) (by decide) (by decide), xs 29 (by decide) (by decide) (by decide), xs 30 (by decide) (by decide) (by decide), ms 24 (by decide) (by decide) (by decide), ms 25 (by decide) (by decide) (by decide), ms 26 (by decide) (by decide) (by decide), ms 27 (by decide) (by decide) (by decide)]
        exact R k hk
  · rw [if_neg hb, if_neg (fun q => hb (ec.mp q)), tf_bse]
    dsimp only
    rw [if_pos rfl]
    exact ⟨-2, σx, σm, rfl, rfl, nC, nT, nM, nF, nO, L⟩
