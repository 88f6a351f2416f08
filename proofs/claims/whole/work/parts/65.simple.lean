/-! pure part 26: the methods that read, and those that work on types -/
theorem tf_n10 : ¬ (1 : Int32) = 0 := by decide
theorem ok_flow : tf_OK_flow tf_Rel := fun σx σm ⟨nC, nT, nM, nF, nO, L⟩ _ => by
  obtain ⟨c, x, m, n, e1, e2, L'⟩ := tf_flow_sim L
  exact ⟨c, x, m, e1, e2, nC, n, nM, nF, nO, L'⟩
theorem ok_comes : tf_OK_comes tf_Rel := fun σx σm ⟨nC, nT, nM, nF, nO, L⟩ a => by
  obtain ⟨W, T, ⟨x2, m11, hM⟩, Mv, ⟨x3, m14, hF⟩, Fv, ⟨x4, m24, hO⟩, O, R⟩ := id L
  unfold fX6_comes fX7_comes
  rcases gd_op hO x4 m24 a with ⟨p, q⟩ | ⟨⟨j, -, hj, rfl⟩, p, q⟩
  · rw [p, q, tf_bse, tf_bse]
    dsimp only
    rw [if_pos rfl, if_pos rfl]
    exact ⟨-2, σx, σm, rfl, rfl, nC, nT, nM, nF, nO, L⟩
  · rw [p, q, tf_bse, tf_bse]
    dsimp only
    rw [if_neg tf_n10, if_neg tf_n10, if_pos (tf_ib (show j < 24 by omega) (by decide)), if_pos (tf_ib (show j < 24 by omega) (by decide)), nI_clamp (show j < 2 ^ 31 by omega), (R j hj).1]
    exact ⟨_, σx, σm, rfl, rfl, nC, nT, nM, nF, nO, L⟩
theorem ok_reason : tf_OK_reason tf_Rel := fun σx σm ⟨nC, nT, nM, nF, nO, L⟩ a => by
  obtain ⟨W, T, ⟨x2, m11, hM⟩, Mv, ⟨x3, m14, hF⟩, Fv, ⟨x4, m24, hO⟩, O, R⟩ := id L
  unfold fX6_reason fX7_reason
  rcases gd_op hO x4 m24 a with ⟨p, q⟩ | ⟨⟨j, -, hj, rfl⟩, p, q⟩
  · rw [p, q, tf_bse, tf_bse]
    dsimp only
    rw [if_pos rfl, if_pos rfl]
    exact ⟨-2, σx, σm, rfl, rfl, nC, nT, nM, nF, nO, L⟩
  · rw [p, q, tf_bse, tf_bse]
    dsimp only
    rw [if_neg tf_n10, if_neg tf_n10, if_pos (tf_ib (show j < 24 by omega) (by decide)), if_pos (tf_ib (show j < 24 by omega) (by decide)), nI_clamp (show j < 2 ^ 31 by omega), (R j hj).2.2.1]
    exact ⟨_, σx, σm, rfl, rfl, nC, nT, nM, nF, nO, L⟩
theorem ok_mayFail : tf_OK_mayFail tf_Rel := fun σx σm ⟨nC, nT, nM, nF, nO, L⟩ a => by
  obtain ⟨W, T, ⟨x2, m11, hM⟩, Mv, ⟨x3, m14, hF⟩, Fv, ⟨x4, m24, hO⟩, O, R⟩ := id L
  unfold fX6_mayFail fX7_mayFail
  rcases gd_op hO x4 m24 a with ⟨p, q⟩ | ⟨⟨j, -, hj, rfl⟩, p, q⟩
  · rw [p, q, tf_bse, tf_bse]
    dsimp only
    rw [if_pos rfl, if_pos rfl]
    exact ⟨-2, σx, σm, rfl, rfl, nC, nT, nM, nF, nO, L⟩
  · rw [p, q, tf_bse, tf_bse]
    dsimp only
    rw [if_neg tf_n10, if_neg tf_n10, if_pos (tf_ib (show j < 24 by omega) (by decide)), if_pos (tf_ib (show j < 24 by omega) (by decide)), nI_clamp (show j < 2 ^ 31 by omega)]
    have c6 := (R j hj).2.2.2.1
    by_cases c : σm 26 j = 0
    · rw [if_pos (c6.trans c), if_pos c]
      exact ⟨0, σx, σm, rfl, rfl, nC, nT, nM, nF, nO, L⟩
    · rw [if_neg (show ¬ σx 29 j = 0 from fun q => c (c6.symm.trans q)), if_neg c]
      exact ⟨1, σx, σm, rfl, rfl, nC, nT, nM, nF, nO, L⟩
theorem ok_boundTo : tf_OK_boundTo tf_Rel := fun σx σm ⟨nC, nT, nM, nF, nO, L⟩ a b => by
  obtain ⟨W, T, ⟨x2, m11, hM⟩, Mv, ⟨x3, m14, hF⟩, Fv, ⟨x4, m24, hO⟩, O, R⟩ := id L
  unfold fX6_boundTo fX7_boundTo
  rcases gd_op hO x4 m24 a with ⟨p, q⟩ | ⟨⟨j, -, hj, rfl⟩, p, q⟩
  · rw [p, q, tf_bse, tf_bse]
    dsimp only
    rw [if_pos rfl, if_pos rfl]
    exact ⟨-2, σx, σm, rfl, rfl, nC, nT, nM, nF, nO, L⟩
  · rw [p, q, tf_bse, tf_bse]
    dsimp only
    rw [if_neg tf_n10, if_neg tf_n10]
    rcases gd_var σx σm b with ⟨p2, q2⟩ | ⟨⟨i, -, hi, rfl⟩, p2, q2⟩
    · rw [p2, q2, tf_bse, tf_bse]
      dsimp only
      rw [if_pos rfl, if_pos rfl]
      exact ⟨-2, σx, σm, rfl, rfl, nC, nT, nM, nF, nO, L⟩
    · rw [p2, q2, tf_bse, tf_bse]
      dsimp only
      rw [if_neg tf_n10, if_neg tf_n10, tf_two', tf_two'', if_pos (tf_ib (show 2 * j + i < 48 by omega) (by decide)), if_pos (tf_ib (show 2 * j + i < 48 by omega) (by decide)), nI_clamp (show 2 * j + i < 2 ^ 31 by omega)]
      have e : σx 30 (2 * j + i) = σm 27 (2 * j + i) := by
        obtain ⟨-, -, -, -, -, e0, e1⟩ := R j hj
        rcases (show i = 0 ∨ i = 1 by omega) with rfl | rfl
        · exact e0
        · exact e1
      rw [e]
      exact ⟨_, σx, σm, rfl, rfl, nC, nT, nM, nF, nO, L⟩
theorem ok_goes : tf_OK_goes tf_Rel := fun σx σm ⟨nC, nT, nM, nF, nO, L⟩ a b => by
  obtain ⟨W, T, -⟩ := id L
  unfold fX6_goes fX7_goes
  rcases gd_closed W T a with ⟨p, q⟩ | ⟨⟨i, hi, rfl, ci⟩, p, q⟩
  · rw [p, q, tf_bse, tf_bse]
    dsimp only
    rw [if_pos rfl, if_pos rfl]
    exact ⟨-2, σx, σm, rfl, rfl, nC, nT, nM, nF, nO, L⟩
  · rw [p, q, tf_bse, tf_bse]
    dsimp only
    rw [if_neg tf_n10, if_neg tf_n10]
    rcases gd_closed W T b with ⟨p2, q2⟩ | ⟨⟨j, hj, rfl, cj⟩, p2, q2⟩
    · rw [p2, q2, tf_bse, tf_bse]
      dsimp only
      rw [if_pos rfl, if_pos rfl]
      exact ⟨-2, σx, σm, rfl, rfl, nC, nT, nM, nF, nO, L⟩
    · rw [p2, q2, tf_bse, tf_bse]
      dsimp only
      rw [if_neg tf_n10, if_neg tf_n10]
      obtain ⟨r, x, m, n, ex, em, W', T', l, F, G, -⟩ := tf_goes_sim W T hi hj ci cj
      exact ⟨r, x, m, tf_pair _ ex, tf_pair _ em, nC, n, nM, nF, nO, L.up W' T' l F.H G.G⟩
theorem ok_common : tf_OK_common tf_Rel := fun σx σm ⟨nC, nT, nM, nF, nO, L⟩ a b => by
  obtain ⟨W, T, -⟩ := id L
  unfold fX6_common fX7_common
  rcases gd_closed W T a with ⟨p, q⟩ | ⟨⟨i, hi, rfl, ci⟩, p, q⟩
  · rw [p, q, tf_bse, tf_bse]
    dsimp only
    rw [if_pos rfl, if_pos rfl]
    exact ⟨-2, σx, σm, rfl, rfl, nC, nT, nM, nF, nO, L⟩
  · rw [p, q, tf_bse, tf_bse]
    dsimp only
    rw [if_neg tf_n10, if_neg tf_n10]
    rcases gd_closed W T b with ⟨p2, q2⟩ | ⟨⟨j, hj, rfl, cj⟩, p2, q2⟩
    · rw [p2, q2, tf_bse, tf_bse]
      dsimp only
      rw [if_pos rfl, if_pos rfl]
      exact ⟨-2, σx, σm, rfl, rfl, nC, nT, nM, nF, nO, L⟩
    · rw [p2, q2, tf_bse, tf_bse]
      dsimp only
      rw [if_neg tf_n10, if_neg tf_n10]
      obtain ⟨r, x, m, n, ex, em, W', T', l, F, G, -⟩ := tf_common_sim W T hi hj ci cj
      exact ⟨r, x, m, tf_pair _ ex, tf_pair _ em, nC, n, nM, nF, nO, L.up W' T' l F.H G.G⟩
theorem ok_seen : tf_OK_seen tf_Rel := fun σx σm ⟨nC, nT, nM, nF, nO, L⟩ a b => by
  obtain ⟨W, T, -⟩ := id L
  unfold fX6_seen fX7_seen
  rcases gd_ctype W T a with ⟨p, q⟩ | ⟨⟨i, i6, hi, rfl⟩, p, q⟩
  · rw [p, q, tf_bse, tf_bse]
    dsimp only
    rw [if_pos rfl, if_pos rfl]
    exact ⟨-2, σx, σm, rfl, rfl, nC, nT, nM, nF, nO, L⟩
  · rw [p, q, tf_bse, tf_bse]
    dsimp only
    rw [if_neg tf_n10, if_neg tf_n10]
    rcases gd_class W T b with ⟨p2, q2⟩ | ⟨⟨j, -, hj, rfl⟩, p2, q2⟩
    · rw [p2, q2, tf_bse, tf_bse]
      dsimp only
      rw [if_pos rfl, if_pos rfl]
      exact ⟨-2, σx, σm, rfl, rfl, nC, nT, nM, nF, nO, L⟩
    · rw [p2, q2, tf_bse, tf_bse]
      dsimp only
      rw [if_neg tf_n10, if_neg tf_n10]
      obtain ⟨r, x, m, n, ex, em, W', T', l, F, G, -⟩ := tf_seen_sim False W T i6 hi hj (fun z => z.elim)
      exact ⟨r, x, m, tf_pair _ ex, tf_pair _ em, nC, n, nM, nF, nO, L.up W' T' l F.H G.G⟩
theorem ok_about : tf_OK_about tf_Rel := fun σx σm ⟨nC, nT, nM, nF, nO, L⟩ a b => by
  obtain ⟨W, T, -⟩ := id L
  have hn := W.1.2.2.2.2.2
  unfold fX6_about fX7_about
  rcases gd_type W T a with ⟨p, q⟩ | ⟨⟨j, -, hj, rfl⟩, p, q⟩
  · rw [p, q, tf_bse, tf_bse]
    dsimp only
    rw [if_pos rfl, if_pos rfl]
    exact ⟨-2, σx, σm, rfl, rfl, nC, nT, nM, nF, nO, L⟩
  · have jb : tf_inb (nI j) 80 = true := tf_ib (show j < 80 by omega) (by decide)
    have cj : (nI j).toNatClampNeg = j := nI_clamp (by omega)
    obtain ⟨t3, t4, t5, t6⟩ := T.2.2.2 j hj
    rw [p, q, tf_bse, tf_bse]
    dsimp only
    rw [if_neg tf_n10, if_neg tf_n10]
    have I := tf_gdM (σ := σm) (x := b) (lo := 0) (n := 4) (by decide) (by decide)
    by_cases c : tf_isR b 0 4
    · have e : fX7_isIn σm b 0 3 = some (1, σm) := I.1 c
      rw [e, tf_bse]
      dsimp only
      rw [if_neg tf_n10]
      simp only [jb, if_true, cj, t3, t4, t5, t6]
      by_cases b0 : b = 0
      · rw [if_pos b0, if_pos b0]
        exact ⟨_, σx, σm, rfl, rfl, nC, nT, nM, nF, nO, L⟩
      · rw [if_neg b0, if_neg b0]
        by_cases b1 : b = 1
        · rw [if_pos b1, if_pos b1]
          exact ⟨_, σx, σm, rfl, rfl, nC, nT, nM, nF, nO, L⟩
        · rw [if_neg b1, if_neg b1]
          by_cases b2 : b = 2
          · rw [if_pos b2, if_pos b2]
            exact ⟨_, σx, σm, rfl, rfl, nC, nT, nM, nF, nO, L⟩
          · rw [if_neg b2, if_neg b2]
            have b3 : b = 3 := by
              obtain ⟨i, -, hi, rfl⟩ := c
              rcases (show i = 0 ∨ i = 1 ∨ i = 2 ∨ i = 3 by omega) with rfl | rfl | rfl | rfl
              · exact absurd rfl b0
              · exact absurd rfl b1
              · exact absurd rfl b2
              · rfl
            rw [if_pos b3]
            rcases gd_closed W T (nI j) with ⟨p3, -⟩ | ⟨-, p3, -⟩
            · rw [p3, tf_bse]
              dsimp only
              rw [if_pos rfl]
              have z : ¬ σx 12 j = 0 := fun z => by
                unfold fX4_isClosed at p3
                rw [p, tf_bse] at p3
                dsimp only at p3
                rw [if_neg tf_n10, if_pos jb, cj, if_pos z] at p3
                exact tf_10 p3
              rw [if_neg z]
              exact ⟨0, σx, σm, rfl, rfl, nC, nT, nM, nF, nO, L⟩
            · rw [p3, tf_bse]
              dsimp only
              rw [if_neg tf_n10]
              have z : σx 12 j = 0 := by
                refine Classical.byContradiction fun z => ?_
                unfold fX4_isClosed at p3
                rw [p, tf_bse] at p3
                dsimp only at p3
                rw [if_neg tf_n10, if_pos jb, cj, if_neg z] at p3
                exact tf_01 p3
              rw [if_pos z]
              exact ⟨1, σx, σm, rfl, rfl, nC, nT, nM, nF, nO, L⟩
    · have e : fX7_isIn σm b 0 3 = some (0, σm) := I.2 c
      rw [e, tf_bse]
      dsimp only
      rw [if_pos rfl, if_neg (show ¬ b = (0 : Int32) from fun z => c ⟨0, by omega, by omega, z⟩), if_neg (show ¬ b = (1 : Int32) from fun z => c ⟨1, by omega, by omega, z⟩), if_neg (show ¬ b = (2 : Int32) from fun z => c ⟨2, by omega, by omega, z⟩), if_neg (show ¬ b = (3 : Int32) from fun z => c ⟨3, by omega, by omega, z⟩)]
      exact ⟨-2, σx, σm, rfl, rfl, nC, nT, nM, nF, nO, L⟩
theorem ok_clear : tf_OK_clear tf_Rel := fun σx σm ⟨nC, nT, nM, nF, nO, L⟩ _ => by
  obtain ⟨W, T, ⟨x2, m11, hM⟩, Mv, ⟨x3, m14, hF⟩, Fv, ⟨x4, m24, hO⟩, O, R⟩ := id L
  unfold fX6_clear fX7_clear
  rw [tf_gle, tf_gle, tf_gle, tf_gle, x4, m24]
  have E : ∀ c, c ≠ 4 → tf_wr σx 4 0 0 c = σx c := fun c hc => tf_wr_o _ _ _ hc
  have E' : ∀ c, c ≠ 0 → tf_wr σm 0 24 0 c = σm c := fun c hc => tf_wr_o _ _ _ hc
  have E0 : ∀ j, j ≠ 24 → tf_wr σm 0 24 0 0 j = σm 0 j := fun j hj => by rw [tf_wr_s, pk_un hj]
  refine ⟨nI nO, _, _, rfl, rfl, nC, nT, nM, nF, 0, tf_WF_cong W (E _ (by decide)) (E _ (by decide)) (E _ (by decide)) (E _ (by decide)) (E _ (by decide)) (E _ (by decide)) (E _ (by decide)), ?_, ⟨?_, ?_, hM⟩, fun m hm => ?_, ⟨?_, ?_, hF⟩, fun f hf => ?_, ⟨?_, ?_, by omega⟩, fun k hk => absurd hk (by omega), fun k hk => absurd hk (by omega)⟩
  · obtain ⟨t1, t2, t3, t4⟩ := T
    refine ⟨?_, ?_, fun k hk => ?_, fun k hk => ?_⟩
    · rw [E0 0 (by decide)]; exact t1
    · rw [E0 3 (by decide)]; exact t2
    · rw [E 7 (by decide), E 8 (by decide), E' 1 (by decide), E' 2 (by decide)]; exact t3 k hk
    · rw [E 9 (by decide), E 10 (by decide), E 11 (by decide), E 12 (by decide), E' 3 (by decide), E' 4 (by decide), E' 5 (by decide), E' 6 (by decide)]; exact t4 k hk
  · rw [E 2 (by decide)]; exact x2
  · rw [E0 11 (by decide)]; exact m11
  · unfold tf_MV
    rw [E 7 (by decide), E 12 (by decide), E 15 (by decide), E 16 (by decide), E' 9 (by decide), E' 10 (by decide)]; exact Mv m hm
  · rw [E 3 (by decide)]; exact x3
  · rw [E0 14 (by decide)]; exact m14
  · unfold tf_FV tf_pb
    rw [E 12 (by decide), E 17 (by decide), E 18 (by decide), E 19 (by decide), E 20 (by decide), E' 11 (by decide), E' 12 (by decide), E' 13 (by decide), E' 14 (by decide)]; exact Fv f hf
  · rw [tf_wr_s, pk_us]; rfl
  · rw [tf_wr_s, pk_us]; rfl
