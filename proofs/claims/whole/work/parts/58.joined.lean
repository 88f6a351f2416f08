/-! pure part 19: joined, cast -/
theorem tf_WO.pre {a b a' b' σx' σm' : tf_S} {nC n m : Nat} {r : Int32} (h : tf_WO a' b' nC m r σx' σm') (hx : tf_Hx a a' n) (hm : tf_Gm b b') (e5 : a' 5 = a 5) (l : n ≤ m) : tf_WO a b nC n r σx' σm' := by
  obtain ⟨k, W, T, le, Hx, Gm, g5, o⟩ := h
  rw [e5] at g5 o
  exact ⟨k, W, T, by omega, hx.tr Hx l, hm.tr Gm, g5, o⟩
def tf_fc (g : Int32) : Int32 := if g = -3 then 8 else 6
theorem keys21 (σ : tf_S) (x y g : Int32) (gv : g = -3 ∨ g = 0 ∨ g = 1) : fX7_areKeys_21 x y σ g = if g = 1 then some (1, σ) else some (0, tf_wr σ 0 20 (tf_fc g)) := by
  unfold fX7_areKeys_21 tf_fc
  rw [failsM, failsM, tf_bse, tf_bse]
  rcases gv with rfl | rfl | rfl
  · simp
  · simp
  · simp
theorem joined79_no (σ : tf_S) (x1 x2 x3 g : Int32) (gv : g = -3 ∨ g = 0) : fX5_joined_79 x1 x2 x3 σ g = some (-1, tf_wr σ 5 4 (tf_fc g)) := by
  unfold fX5_joined_79 tf_fc
  rw [none_eq, none_eq, tf_bse, tf_bse]
  rcases gv with rfl | rfl
  · simp
  · simp
set_option maxHeartbeats 1000000 in
theorem tf_joined_sim {σx σm : tf_S} {nC nT a b k f g c : Nat} (W : tf_WF σx nC nT) (T : tf_TM σx σm nC nT) (ha : a < nT) (hb : b < nT) (ca : σx 12 a = 0) (cb : σx 12 b = 0) (hk : k < 24) (hf : f < 24) (hg : g < 24) (hc : c < nC) (e24 : σx 24 k = nI f) (e25 : σx 25 k = nI g) (e26 : σx 26 k = nI c) (m21 : σm 21 k = nI f) (m22 : σm 22 k = nI g) (m23 : σm 23 k = nI c) (e7 : σx 7 c = 2) (Vf : tf_MV σx σm nC nT f) (Vg : tf_MV σx σm nC nT g) :
    ∃ r σx' σm', fX5_joined σx (nI k) (nI a) (nI b) = some (r, σx') ∧ fX7_joined σm (nI k) (nI a) (nI b) = some (r, σm') ∧ tf_WO σx σm nC nT r σx' σm' := by
  have hn := W.1.2.2.2.2.2
  have jk : tf_inb (nI k) 24 = true := tf_ib hk (by decide)
  have ck : (nI k).toNatClampNeg = k := nI_clamp (by omega)
  unfold fX5_joined fX7_joined
  rw [if_pos jk, if_pos jk, ck, e24, m21]
  obtain ⟨r1, s1, t1, x1, y1, O1, d1, c1⟩ := tf_memberOf_sim W T ha ca hf Vf
  rw [x1, y1, tf_bse, tf_bse]
  dsimp only
  rw [tf_gle, tf_gle]
  by_cases z1 : r1 = -1
  · rw [if_pos z1, if_pos z1]
    subst z1
    exact ⟨-1, _, _, rfl, rfl, O1⟩
  · have a6 : 6 ≤ a := d1.resolve_left z1
    have s5 := c1 z1
    obtain ⟨n1, W1, T1, l1, H1, G1, -, o1⟩ := O1
    obtain ⟨p, hp, ep, cp, -⟩ := o1.resolve_left (fun q => z1 q.1)
    rw [if_neg z1, if_neg z1, if_pos jk, if_pos jk, H1.k (c := 25) (by omega), G1.k (c := 22) (by omega), e25, m22]
    obtain ⟨r2, s2, t2, x2, y2, O2, d2, c2⟩ := tf_memberOf_sim (a := b) W1 T1 (by omega) (by rw [(H1.2.2 b hb).2.2.2]; exact cb) hg (Vg.up H1 G1 l1)
    rw [x2, y2, tf_bse, tf_bse]
    dsimp only
    rw [tf_gle, tf_gle]
    by_cases z2 : r2 = -1
    · rw [if_pos z2, if_pos z2]
      subst z2
      exact ⟨-1, _, _, rfl, rfl, O2.pre H1 G1 s5 l1⟩
    · have b6 : 6 ≤ b := d2.resolve_left z2
      have s5' := (c2 z2).trans s5
      obtain ⟨n2, W2, T2, l2, H2, G2, -, o2⟩ := O2
      obtain ⟨q, hq, eq, cq, -⟩ := o2.resolve_left (fun q => z2 q.1)
      rw [if_neg z2, if_neg z2, ep, eq]
      have H12 := H1.tr H2 l1
      have G12 := G1.tr G2
      unfold fX7_areKeys
      obtain ⟨g1, s3, t3, n3, gx, gm, W3, T3, l3, F3, G3, gv⟩ := tf_goes_sim (a := p) (b := q) W2 T2 (by omega) hq (by rw [(H2.2.2 p hp).2.2.2]; exact cp) cq
      have hp2 : s2 12 p = 0 := by rw [(H2.2.2 p hp).2.2.2]; exact cp
      rw [gx, gm, tf_bse, tf_bse]
      dsimp only
      rw [tf_gle, tf_gle]
      -- the end, once it is known whether one key goes for the other
      have E : ∀ (g : Int32) (s t : tf_S) (n : Nat), tf_WF s nC n → tf_TM s t nC n → nT ≤ n → tf_Hx σx s nT → tf_Gm σm t → s 5 = σx 5 → (g = -3 ∨ g = 0 ∨ g = 1) →
          ∃ r σx' σm', fX5_joined_79 (nI k) (nI a) (nI b) s g = some (r, σx') ∧ ((fX7_areKeys_21 (nI p) (nI q) t g).bind fun u11 => if u11.1 = 0 then (some ((-1 : Int32), u11.2)) else (if tf_inb (nI k) 24 = true then ((fX7_made u11.2 (u11.2 23 k) (nI a) (nI b)).bind fun u15 => (fX7_orRoom u15.2 u15.1).bind fun u17 => some (u17.1, u17.2)) else none)) = some (r, σm') ∧ tf_WO σx σm nC nT r σx' σm' := by
        intro g s t n Ws Ts ln Hs Gs s5 gv
        rw [keys21 _ _ _ _ gv]
        by_cases g1 : g = 1
        · rw [if_pos g1, tf_bse]
          dsimp only
          rw [if_neg (show ¬ (1 : Int32) = 0 by decide), if_pos jk]
          unfold fX5_joined_79
          rw [if_pos g1, if_pos jk, ck, Hs.k (c := 26) (by omega), Gs.k (c := 23) (by omega), e26, m23]
          have ar : tf_AR s c (nI a) (nI b) n := Or.inr (Or.inr ⟨by rw [Hs.k (c := 7) (by omega)]; exact e7, ⟨a, by omega, by omega, rfl⟩, b, by omega, by omega, rfl⟩)
          obtain ⟨r, s', t', n', ex, em, W', T', l', F', G', -, -, -, -, -, rv⟩ := tf_make_sim Ws Ts hc ar
          have hn' := W'.1.2.2.2.2.2
          rw [ex, em, tf_bse, tf_bse, orRoom_eq, tf_bse]
          dsimp only
          have e5 : s' 5 = σx 5 := F'.c5.trans s5
          rcases rv with rfl | ⟨u, u6, hu, rfl, u9, u10, u11⟩
          · rw [orFault_n _ (by decide), tf_bse, if_pos rfl, if_pos rfl, if_pos rfl]
            exact ⟨-1, _, _, rfl, rfl, tf_WO.no W' T' (by omega) (Hs.tr F'.H ln) (Gs.tr G'.G) (by rw [e5])⟩
          · rw [orFault_p _ (show u < 2 ^ 31 by omega), tf_bse, if_neg (tf_n3 (show u < 2 ^ 31 by omega)), if_neg (tf_n3 (show u < 2 ^ 31 by omega))]
            have HH := Hs.tr F'.H ln
            have uc : s' 12 u = 0 := by
              obtain ⟨o, -, -, -, ew⟩ := W'.2.2.2.2.2.1 u u6 hu
              rw [ew, u10, u11, tf_wi_I _ (by omega), tf_wi_I _ (by omega), (HH.2.2 a ha).2.2.2, (HH.2.2 b hb).2.2.2, ca, cb]
              decide
            exact ⟨nI u, _, _, rfl, rfl, tf_WO.yes W' T' (by omega) HH (Gs.tr G'.G) e5 hu uc⟩
        · rw [if_neg g1, tf_bse]
          dsimp only
          rw [if_pos rfl, joined79_no _ _ _ _ _ (gv.imp id (fun q => q.resolve_right g1))]
          exact ⟨-1, _, _, rfl, rfl, tf_WO.no Ws Ts ln Hs Gs (by rw [s5])⟩
      have H3 := H12.tr F3.H (show nT ≤ n2 by omega)
      have G3' := G12.tr G3.G
      by_cases g0 : g1 = 0
      · obtain ⟨h1, s4, t4, n4, hx, hm, W4, T4, l4, F4, G4, hv⟩ := tf_goes_sim (a := q) (b := p) W3 T3 (by omega) (by omega) (by rw [(F3.2.2 q hq).2.2.2]; exact cq) (by rw [(F3.2.2 p (by omega)).2.2.2]; exact hp2)
        rw [if_pos g0, if_pos g0, hx, hm, tf_bse, tf_bse]
        dsimp only
        rw [tf_gle]
        exact E h1 s4 t4 _ W4 T4 (by omega) (H3.tr F4.H (show nT ≤ _ by omega)) (G3'.tr G4.G) (F4.c5.trans (F3.c5.trans s5')) hv
      · rw [if_neg g0, if_neg g0]
        exact E g1 s3 t3 _ W3 T3 (by omega) H3 G3' (F3.c5.trans s5') gv
