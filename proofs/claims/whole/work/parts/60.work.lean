/-! pure part 21: what an operator's work comes to, both sides -/
def tf_OV (σx σm : tf_S) (nC nT nM nF k : Nat) : Prop := ∃ kd, kd < 8 ∧ σx 21 k = nI kd ∧ σm 18 k = nI kd ∧
  (kd ≠ 0 → ∃ a, a < k ∧ σx 22 k = nI a ∧ σm 19 k = nI a) ∧ ((kd = 4 ∨ kd = 5 ∨ kd = 6) → ∃ b, b < k ∧ σx 23 k = nI b ∧ σm 20 k = nI b) ∧
  ((kd = 0 ∨ kd = 7) → ∃ u, u < nT ∧ σx 24 k = nI u ∧ σm 21 k = nI u ∧ σx 12 u = 0) ∧
  ((kd = 1 ∨ kd = 2) → ∃ f, f < nF ∧ σx 24 k = nI f ∧ σm 21 k = nI f ∧ σx 18 f = -1) ∧
  (kd = 5 → ∃ f, f < nF ∧ σx 24 k = nI f ∧ σm 21 k = nI f ∧ σx 18 f ≠ -1) ∧
  (kd = 3 → ∃ m, m < nM ∧ σx 24 k = nI m ∧ σm 21 k = nI m) ∧
  (kd = 6 → ∃ f g c, f < nM ∧ g < nM ∧ c < nC ∧ σx 24 k = nI f ∧ σx 25 k = nI g ∧ σx 26 k = nI c ∧ σm 21 k = nI f ∧ σm 22 k = nI g ∧ σm 23 k = nI c ∧ σx 7 c = 2)
def tf_KO (σx σm : tf_S) (nC nT k kd : Nat) (r : Int32) (σx' σm' : tf_S) : Prop := ∃ nT', tf_WF σx' nC nT' ∧ tf_TM σx' σm' nC nT' ∧ nT ≤ nT' ∧ tf_Hx σx σx' nT ∧ tf_Km σm σm' k ∧ σx' 5 5 = σm' 26 k ∧ (σx' 5 5 = 0 ∨ σx' 5 5 = 1) ∧
  ((r = -1 ∧ σx' 5 4 = σm' 0 20) ∨ (∃ q, q < nT' ∧ r = nI q ∧ σx' 12 q = 0 ∧ σx' 5 4 = 0 ∧ ((kd = 1 ∨ kd = 2 ∨ kd = 5) → tf_bX σx' = tf_bM σm')))
theorem tf_WO.K {σx σm σx' σm' : tf_S} {nC nT k kd : Nat} {r : Int32} (h : tf_WO σx σm nC nT r σx' σm') (n : kd ≠ 1 ∧ kd ≠ 2 ∧ kd ≠ 5) (e4 : σx 5 4 = 0) (e5 : σx 5 5 = 0) (m6 : σm 26 k = 0) : tf_KO σx σm nC nT k kd r σx' σm' := by
  obtain ⟨m, W, T, l, H, G, g5, o⟩ := h
  refine ⟨m, W, T, l, H, G.K, ?_, Or.inl (g5.trans e5), o.imp id (fun ⟨q, q1, q2, q3, q4⟩ => ⟨q, q1, q2, q3, q4.trans e4, fun z => ?_⟩)⟩
  · rw [g5, e5, G.k (c := 26) (by omega), m6]
  · omega
theorem tf_CO.K {σx σm σx' σm' : tf_S} {nC nT k kd : Nat} {r : Int32} (h : tf_CO σx σm nC nT k r σx' σm') (n : kd ≠ 1 ∧ kd ≠ 2 ∧ kd ≠ 5) (e4 : σx 5 4 = 0) : tf_KO σx σm nC nT k kd r σx' σm' := by
  obtain ⟨m, W, T, l, H, G, g5, g6, o⟩ := h
  exact ⟨m, W, T, l, H, G, g5, g6, o.imp id (fun ⟨q, q1, q2, q3, q4⟩ => ⟨q, q1, q2, q3, q4.trans e4, fun z => by omega⟩)⟩
/-- a put, with its fault told -/
theorem tf_PO.K {σx σm σx' σm' : tf_S} {nC nT k kd : Nat} {r : Int32} (h : tf_PO σx σm nC nT r σx' σm') (e4 : σx 5 4 = 0) (e5 : σx 5 5 = 0) (m6 : σm 26 k = 0) :
    ∃ s, fX5_orFault σx' r (σx' 6 3) = some (r, s) ∧ tf_KO σx σm nC nT k kd r s σm' := by
  obtain ⟨m, W, T, l, H, G, g5, o⟩ := h
  have hn := W.1.2.2.2.2.2
  rcases o with ⟨rfl, f0, f1⟩ | ⟨q, hq, rfl, qc, qb⟩
  · refine ⟨tf_wr σx' 5 4 (σx' 6 3), ?_, m, tf_WFw (Or.inl rfl) W, tf_TMw (Or.inl rfl) T, l, H.tr (tf_Hw (nT := m) (Or.inl rfl)) l, G.K, ?_, ?_, Or.inl ⟨rfl, ?_⟩⟩
    · rw [orFault_n _ (by decide), if_neg (show ¬ (-1 : Int32) = -3 by decide)]
    · rw [tf_wr_s, pk_un (by decide), g5, e5, G.k (c := 26) (by omega), m6]
    · rw [tf_wr_s, pk_un (by decide), g5]; exact Or.inl e5
    · rw [tf_wr_s, pk_us]; exact f1.symm
  · refine ⟨σx', orFault_p _ (by omega), m, W, T, l, H, G.K, ?_, ?_, Or.inr ⟨q, hq, rfl, qc, ?_, fun _ => qb⟩⟩
    · rw [g5, e5, G.k (c := 26) (by omega), m6]
    · rw [g5]; exact Or.inl e5
    · rw [g5]; exact e4
theorem tf_pair {α β : Type} (o : Option (α × β)) {z : α × β} (h : o = some z) : (o.bind fun u => some (u.1, u.2)) = some z := by rw [h, tf_bse]
set_option maxHeartbeats 2000000 in
theorem tf_do_sim {σx σm : tf_S} {nC nT nM nF k kd a : Nat} {y : Int32} (W : tf_WF σx nC nT) (T : tf_TM σx σm nC nT) (hk : k < 24) (hM : nM ≤ 24) (hF : nF ≤ 16) (Mv : ∀ m, m < nM → tf_MV σx σm nC nT m) (Fv : ∀ f, f < nF → tf_FV σx σm nT f)
    (kd1 : 1 ≤ kd) (kd8 : kd < 8) (ek : σx 21 k = nI kd) (mk : σm 18 k = nI kd)
    (V7 : kd = 7 → ∃ u, u < nT ∧ σx 24 k = nI u ∧ σm 21 k = nI u ∧ σx 12 u = 0)
    (V12 : (kd = 1 ∨ kd = 2) → ∃ f, f < nF ∧ σx 24 k = nI f ∧ σm 21 k = nI f ∧ σx 18 f = -1)
    (V5 : kd = 5 → ∃ f, f < nF ∧ σx 24 k = nI f ∧ σm 21 k = nI f ∧ σx 18 f ≠ -1)
    (V3 : kd = 3 → ∃ m, m < nM ∧ σx 24 k = nI m ∧ σm 21 k = nI m)
    (V6 : kd = 6 → ∃ f g c, f < nM ∧ g < nM ∧ c < nC ∧ σx 24 k = nI f ∧ σx 25 k = nI g ∧ σx 26 k = nI c ∧ σm 21 k = nI f ∧ σm 22 k = nI g ∧ σm 23 k = nI c ∧ σx 7 c = 2)
    (ha : a < nT) (ca : σx 12 a = 0) (hy : (kd = 4 ∨ kd = 5 ∨ kd = 6) → ∃ b, b < nT ∧ y = nI b ∧ σx 12 b = 0) (hy' : (kd = 1 ∨ kd = 2) → y = -1) (e4 : σx 5 4 = 0) (e5 : σx 5 5 = 0) (m6 : σm 26 k = 0) :
    ∃ r σx' σm', fX5_whatComes_113 (nI k) σx (σx 24 k) (nI a) y = some (r, σx') ∧ fX7_work_91 (nI k) σm (nI a) y = some (r, σm') ∧ tf_KO σx σm nC nT k kd r σx' σm' := by
  have hn := W.1.2.2.2.2.2
  have jk : tf_inb (nI k) 24 = true := tf_ib hk (by decide)
  have ck : (nI k).toNatClampNeg = k := nI_clamp (by omega)
  unfold fX5_whatComes_113 fX7_work_91
  rw [if_pos jk, if_pos jk, ck, ek, mk]
  -- a put, for the kinds 1, 2 and 5
  have P : (kd = 1 ∨ kd = 2 ∨ kd = 5) → ∃ f r sx sm s, σx 24 k = nI f ∧ σm 21 k = nI f ∧ fX3_putTo σx (nI f) (nI a) y = some (r, sx) ∧ fX7_putTo σm (nI f) (nI a) y = some (r, sm) ∧ fX5_orFault sx r (sx 6 3) = some (r, s) ∧ tf_KO σx σm nC nT k kd r s sm := by
    intro z
    have e : ∃ f, f < nF ∧ σx 24 k = nI f ∧ σm 21 k = nI f ∧ ((σx 18 f = -1 ∧ y = -1) ∨ (σx 18 f ≠ -1 ∧ ∃ b, b < nT ∧ y = nI b ∧ σx 12 b = 0)) := by
      by_cases z5 : kd = 5
      · obtain ⟨f, f1, f2, f3, f4⟩ := V5 z5
        exact ⟨f, f1, f2, f3, Or.inr ⟨f4, hy (by omega)⟩⟩
      · obtain ⟨f, f1, f2, f3, f4⟩ := V12 (by omega)
        exact ⟨f, f1, f2, f3, Or.inl ⟨f4, hy' (by omega)⟩⟩
    obtain ⟨f, f1, f2, f3, f4⟩ := e
    obtain ⟨w, t, q1, q2, q3, q4, q5, q6, q7, q8⟩ := Fv f f1
    have e2 : (σm 12 f = -1 ∧ y = -1) ∨ ∃ w2 b, σx 18 f = nI w2 ∧ σm 12 f = nI w2 ∧ w2 < nT ∧ y = nI b ∧ b < nT ∧ σx 12 b = 0 := by
      rcases f4 with ⟨g1, g2⟩ | ⟨g1, b, g2, g3, g4⟩
      · rcases q7 with ⟨-, q⟩ | ⟨u, u1, -, u3⟩
        · exact Or.inl ⟨q, g2⟩
        · exact absurd (u1.symm.trans g1) (tf_m1ne u (by omega))
      · rcases q7 with ⟨q, -⟩ | ⟨u, u1, u2, u3⟩
        · exact absurd q g1
        · exact Or.inr ⟨u, b, u1, u2, u3, g3, g2, g4⟩
    obtain ⟨r, sx, sm, px, pm, O⟩ := tf_putTo_sim W T (show f < 16 by omega) ha ca q1 q2 q3 e2 (fun i hi => (q8 i hi).1) (fun i hi => (q8 i hi).2) q4 q5 q6
    obtain ⟨s, os, K⟩ := O.K (k := k) (kd := kd) e4 e5 m6
    exact ⟨f, r, sx, sm, s, f2, f3, px, pm, os, K⟩
  rcases (show kd = 1 ∨ kd = 2 ∨ kd = 3 ∨ kd = 4 ∨ kd = 5 ∨ kd = 6 ∨ kd = 7 by omega) with rfl | rfl | rfl | rfl | rfl | rfl | rfl
  · obtain ⟨f, r, sx, sm, s, f2, f3, px, pm, os, K⟩ := P (by omega)
    rw [if_pos (show nI 1 = (1 : Int32) from rfl), if_neg (show ¬ nI 1 = (0 : Int32) by decide), if_pos (show nI 1 = (1 : Int32) from rfl), if_pos jk, f2, f3]
    rw [hy' (by omega)] at px pm ⊢
    rw [px, pm, tf_bse, tf_bse]
    dsimp only
    rw [os, tf_bse]
    exact ⟨r, _, _, rfl, rfl, K⟩
  · obtain ⟨f, r, sx, sm, s, f2, f3, px, pm, os, K⟩ := P (by omega)
    rw [if_neg (show ¬ nI 2 = (1 : Int32) by decide), if_pos (show nI 2 = (2 : Int32) from rfl), if_neg (show ¬ nI 2 = (0 : Int32) by decide), if_neg (show ¬ nI 2 = (1 : Int32) by decide), if_pos (show nI 2 = (2 : Int32) from rfl), if_pos jk, f2, f3]
    rw [hy' (by omega)] at px pm
    rw [px, pm, tf_bse, tf_bse]
    dsimp only
    rw [os, tf_bse]
    dsimp only
    rw [tf_gle]
    obtain ⟨n1, W1, T1, l1, H1, G1, g5, g6, o⟩ := K
    have hn1 := W1.1.2.2.2.2.2
    unfold fX5_filtered
    rcases o with ⟨rfl, o1⟩ | ⟨q, hq, rfl, qc, q4, qb⟩
    · rw [if_pos rfl, tf_bse, if_pos rfl, if_neg (show ¬ (-1 : Int32) = 0 by decide)]
      exact ⟨-1, _, _, rfl, rfl, n1, W1, T1, l1, H1, G1, g5, g6, Or.inl ⟨rfl, o1⟩⟩
    · rw [if_neg (tf_m1ne q (by omega)), if_neg (tf_m1ne q (by omega))]
      by_cases q0 : nI q = 0
      · rw [if_pos q0, if_pos q0, if_pos q0, tf_bse]
        exact ⟨nI a, s, sm, rfl, rfl, n1, W1, T1, l1, H1, G1, g5, g6, Or.inr ⟨a, by omega, rfl, by rw [(H1.2.2 a ha).2.2.2]; exact ca, q4, qb⟩⟩
      · rw [if_neg q0, if_neg q0, none_eq, tf_bse, tf_bse, tf_gle, if_neg q0]
        refine ⟨-1, tf_wr s 5 4 1, tf_wr sm 0 20 1, rfl, rfl, n1, tf_WFw (Or.inl rfl) W1, tf_wr20 (tf_TMw (Or.inl rfl) T1), l1, H1.tr (tf_Hw (nT := n1) (Or.inl rfl)) l1, G1.tr (tf_wr20G _ _).K, ?_, ?_, Or.inl ⟨rfl, ?_⟩⟩
        · rw [tf_wr_s, pk_un (by decide), tf_wr_o _ _ _ (by decide)]; exact g5
        · rw [tf_wr_s, pk_un (by decide)]; exact g6
        · rw [tf_wr_s, pk_us, tf_wr_s, pk_us]
  · obtain ⟨m, m1, m2, m3⟩ := V3 rfl
    rw [if_neg (show ¬ nI 3 = (1 : Int32) by decide), if_neg (show ¬ nI 3 = (2 : Int32) by decide), if_pos (show nI 3 = (3 : Int32) from rfl), if_neg (show ¬ nI 3 = (0 : Int32) by decide), if_neg (show ¬ nI 3 = (1 : Int32) by decide), if_neg (show ¬ nI 3 = (2 : Int32) by decide), if_pos (show nI 3 = (3 : Int32) from rfl), if_pos jk, m2, m3]
    obtain ⟨r, sx, sm, ex, em, O, -, -⟩ := tf_memberOf_sim W T ha ca (show m < 24 by omega) (Mv m m1)
    exact ⟨r, sx, sm, tf_pair _ ex, tf_pair _ em, O.K (by omega) e4 e5 m6⟩
  · obtain ⟨b, b1, rfl, b3⟩ := hy (by omega)
    rw [if_neg (show ¬ nI 4 = (1 : Int32) by decide), if_neg (show ¬ nI 4 = (2 : Int32) by decide), if_neg (show ¬ nI 4 = (3 : Int32) by decide), if_pos (show nI 4 = (4 : Int32) from rfl), if_neg (show ¬ nI 4 = (0 : Int32) by decide), if_neg (show ¬ nI 4 = (1 : Int32) by decide), if_neg (show ¬ nI 4 = (2 : Int32) by decide), if_neg (show ¬ nI 4 = (3 : Int32) by decide), if_pos (show nI 4 = (4 : Int32) from rfl)]
    obtain ⟨r, sx, sm, ex, em, O⟩ := tf_union_sim W T ha b1 ca b3
    exact ⟨r, sx, sm, ex, em, O.K (by omega) e4 e5 m6⟩
  · obtain ⟨f, r, sx, sm, s, f2, f3, px, pm, os, K⟩ := P (by omega)
    rw [if_neg (show ¬ nI 5 = (1 : Int32) by decide), if_neg (show ¬ nI 5 = (2 : Int32) by decide), if_neg (show ¬ nI 5 = (3 : Int32) by decide), if_neg (show ¬ nI 5 = (4 : Int32) by decide), if_pos (show nI 5 = (5 : Int32) from rfl), if_neg (show ¬ nI 5 = (0 : Int32) by decide), if_neg (show ¬ nI 5 = (1 : Int32) by decide), if_neg (show ¬ nI 5 = (2 : Int32) by decide), if_neg (show ¬ nI 5 = (3 : Int32) by decide), if_neg (show ¬ nI 5 = (4 : Int32) by decide), if_pos (show nI 5 = (5 : Int32) from rfl), if_pos jk, f2, f3, px, pm, tf_bse, tf_bse]
    dsimp only
    rw [os, tf_bse]
    exact ⟨r, _, _, rfl, rfl, K⟩
  · obtain ⟨f, g, c, f1, g1, c1, f2, g2, c2, f3, g3, c3, c7⟩ := V6 rfl
    obtain ⟨b, b1, rfl, b3⟩ := hy (by omega)
    rw [if_neg (show ¬ nI 6 = (1 : Int32) by decide), if_neg (show ¬ nI 6 = (2 : Int32) by decide), if_neg (show ¬ nI 6 = (3 : Int32) by decide), if_neg (show ¬ nI 6 = (4 : Int32) by decide), if_neg (show ¬ nI 6 = (5 : Int32) by decide), if_pos (show nI 6 = (6 : Int32) from rfl), if_neg (show ¬ nI 6 = (0 : Int32) by decide), if_neg (show ¬ nI 6 = (1 : Int32) by decide), if_neg (show ¬ nI 6 = (2 : Int32) by decide), if_neg (show ¬ nI 6 = (3 : Int32) by decide), if_neg (show ¬ nI 6 = (4 : Int32) by decide), if_neg (show ¬ nI 6 = (5 : Int32) by decide), if_pos (show nI 6 = (6 : Int32) from rfl)]
    obtain ⟨r, sx, sm, ex, em, O⟩ := tf_joined_sim W T ha b1 ca b3 hk (show f < 24 by omega) (show g < 24 by omega) c1 f2 g2 c2 f3 g3 c3 c7 (Mv f f1) (Mv g g1)
    exact ⟨r, sx, sm, tf_pair _ ex, tf_pair _ em, O.K (by omega) e4 e5 m6⟩
  · obtain ⟨u, u1, u2, u3, u4⟩ := V7 rfl
    rw [if_neg (show ¬ nI 7 = (1 : Int32) by decide), if_neg (show ¬ nI 7 = (2 : Int32) by decide), if_neg (show ¬ nI 7 = (3 : Int32) by decide), if_neg (show ¬ nI 7 = (4 : Int32) by decide), if_neg (show ¬ nI 7 = (5 : Int32) by decide), if_neg (show ¬ nI 7 = (6 : Int32) by decide), if_neg (show ¬ nI 7 = (0 : Int32) by decide), if_neg (show ¬ nI 7 = (1 : Int32) by decide), if_neg (show ¬ nI 7 = (2 : Int32) by decide), if_neg (show ¬ nI 7 = (3 : Int32) by decide), if_neg (show ¬ nI 7 = (4 : Int32) by decide), if_neg (show ¬ nI 7 = (5 : Int32) by decide), if_neg (show ¬ nI 7 = (6 : Int32) by decide), u2]
    obtain ⟨r, sx, sm, ex, em, O⟩ := tf_cast_sim W T ha u1 ca u4 hk u3 e5 m6
    exact ⟨r, sx, sm, tf_pair _ ex, tf_pair _ em, O.K (by omega) e4⟩
