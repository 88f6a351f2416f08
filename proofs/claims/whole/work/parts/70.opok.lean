/-! pure part 31: operators told, both sides -/
section OPT
variable {σ : tf_S} {n kd : Nat} {x1 x2 x3 x4 x5 x6 t0 : Int32}
theorem op23_a (h : kd < 4 ∨ kd = 7) : fX7_operator_23 (nI kd) x2 x3 x4 x5 x6 σ t0 = fX7_operator_55 (nI kd) x2 x3 x4 x5 x6 σ t0 1 := by
  unfold fX7_operator_23
  by_cases k4 : kd < 4
  · rw [if_pos (show nI kd < (4 : Int32) from nI_lt (b := 4) k4 (by decide))]
  · have e : kd = 7 := by omega
    subst e
    rw [if_neg (show ¬ nI 7 < (4 : Int32) by decide), if_pos (show nI 7 = (7 : Int32) from rfl)]
theorem op23_b {b : Int32} (h : kd = 4 ∨ kd = 5 ∨ kd = 6) (hb : b = 0 ∨ b = 1) (g : fX7_isIn σ x3 (0 : Int32) ((σ 0 24) - (1 : Int32)) = some (b, σ)) : fX7_operator_23 (nI kd) x2 x3 x4 x5 x6 σ t0 = fX7_operator_55 (nI kd) x2 x3 x4 x5 x6 σ t0 b := by
  unfold fX7_operator_23
  rw [if_neg (show ¬ nI kd < (4 : Int32) from nI_nlt (b := 4) (by omega) (by omega)), if_neg (show ¬ nI kd = (7 : Int32) from fun q => by
    have := (nI_eq (b := 7) (by omega) (by decide)).mp q
    omega), g, tf_bse]
  dsimp only
  rcases hb with rfl | rfl
  · rw [if_pos rfl]
  · rw [if_neg tf_n10]
theorem opM_a {b : Int32} (h8 : kd < 8) (k0 : kd ≠ 0) (hb : b = 0 ∨ b = 1) (g : fX7_isIn σ x2 (0 : Int32) ((σ 0 24) - (1 : Int32)) = some (b, σ)) : fX7_operator σ (nI kd) x2 x3 x4 x5 x6 = fX7_operator_23 (nI kd) x2 x3 x4 x5 x6 σ b := by
  unfold fX7_operator
  rw [if_neg (nI_ne0 (by omega) (by omega)), g, tf_bse]
  dsimp only
  rcases hb with rfl | rfl
  · rw [if_pos rfl]
  · rw [if_neg tf_n10]
theorem opM_a0 {b : Int32} (h8 : kd < 8) (k0 : kd ≠ 0) (g : fX7_isIn σ x2 (0 : Int32) ((σ 0 24) - (1 : Int32)) = some (0, σ)) (hb : b = 0 ∨ b = 1) (g2 : fX7_isIn σ x3 (0 : Int32) ((σ 0 24) - (1 : Int32)) = some (b, σ)) : fX7_operator σ (nI kd) x2 x3 x4 x5 x6 = some (-2, σ) := by
  rw [opM_a h8 k0 (Or.inl rfl) g]
  by_cases c : kd < 4 ∨ kd = 7
  · rw [op23_a c, op55_1 h8]
  · rw [op23_b (by omega) hb g2, op55_1 h8]
end OPT
def tf_OPD (σx σm : tf_S) (nC nT nM nF nO : Nat) (x1 x2 x3 x4 x5 x6 : Int32) : Prop := (fX6_isAsTold σx x1 x2 x3 x4 x5 x6 = some (0, σx) ∧ fX7_operator σm x1 x2 x3 x4 x5 x6 = some (-2, σm)) ∨ (∃ kd, kd < 8 ∧ x1 = nI kd ∧ fX6_isAsTold σx x1 x2 x3 x4 x5 x6 = some (1, σx) ∧ fX7_operator σm x1 x2 x3 x4 x5 x6 = fX7_operator_55 x1 x2 x3 x4 x5 x6 σm 1 1 ∧ fX7_isRight σm x1 x4 x5 x6 = some (1, σm) ∧ tf_TV σx nC nT nM nF nO kd x2 x3 x4 x5 x6)
theorem tf_Gb {A B : Option (Int32 × tf_S)} {σx σm : tf_S} {P : Prop} (g : tf_G A B σx σm P) : ∃ b, (b = 0 ∨ b = 1) ∧ B = some (b, σm) := by
  rcases g with ⟨-, q⟩ | ⟨-, -, q⟩
  · exact ⟨0, Or.inl rfl, q⟩
  · exact ⟨1, Or.inr rfl, q⟩
section OPC
variable {σx σm : tf_S} {nC nT nM nF nO : Nat} {x2 x3 x4 x5 x6 : Int32}
theorem opd_0 (L : tf_Rl σx σm nC nT nM nF nO) : tf_OPD σx σm nC nT nM nF nO (nI 0) x2 x3 x4 x5 x6 := by
  obtain ⟨W, T, -⟩ := id L
  have hM : fX7_operator σm (nI 0) x2 x3 x4 x5 x6 = fX7_operator_55 (nI 0) x2 x3 x4 x5 x6 σm 1 1 := by
    unfold fX7_operator
    rw [if_pos (show nI 0 = (0 : Int32) from rfl), op23_a (by omega)]
  rcases gd_closed W T x4 with ⟨p, q⟩ | ⟨⟨u, un, ue, uc⟩, p, q⟩
  · refine Or.inl ⟨?_, ?_⟩
    · unfold fX6_isAsTold
      rw [if_pos (show nI 0 = (0 : Int32) from rfl)]
      exact tf_bzw p (Or.inl rfl)
    · rw [hM]
      refine op55_3 (by decide) ?_
      unfold fX7_isRight
      rw [if_pos (show nI 0 = (0 : Int32) from rfl)]
      exact tf_bzw q (Or.inl rfl)
  · refine Or.inr ⟨0, by decide, rfl, ?_, hM, ?_, fun z => absurd rfl z, fun z => by omega, fun _ => ⟨u, un, ue, uc⟩, fun z => by omega, fun z => by omega, fun z => by omega, fun z => by omega⟩
    · unfold fX6_isAsTold
      rw [if_pos (show nI 0 = (0 : Int32) from rfl)]
      exact tf_bzw p (Or.inr rfl)
    · unfold fX7_isRight
      rw [if_pos (show nI 0 = (0 : Int32) from rfl)]
      exact tf_bzw q (Or.inr rfl)
theorem opd_1 (L : tf_Rl σx σm nC nT nM nF nO) : tf_OPD σx σm nC nT nM nF nO (nI 1) x2 x3 x4 x5 x6 := by
  obtain ⟨W, T, ⟨y2, m11, hM⟩, Mv, ⟨y3, m14, hF⟩, Fv, ⟨y4, m24, hO⟩, O, R⟩ := id L
  obtain ⟨b, hb, gb⟩ := tf_Gb (gd_opi hO y4 m24 x3)
  rcases gd_opi hO y4 m24 x2 with ⟨p, q⟩ | ⟨⟨a, -, an, ae⟩, p, q⟩
  · refine Or.inl ⟨?_, opM_a0 (by decide) (by decide) q hb gb⟩
    unfold fX6_isAsTold
    rw [if_neg (show ¬ nI 1 = (0 : Int32) by decide), if_pos (show nI 1 = (1 : Int32) from rfl), p, tf_bse]
    dsimp only
    rw [if_pos rfl]
  have hM : fX7_operator σm (nI 1) x2 x3 x4 x5 x6 = fX7_operator_55 (nI 1) x2 x3 x4 x5 x6 σm 1 1 := by
    rw [opM_a (by decide) (by decide) (Or.inr rfl) q, op23_a (by omega)]
  rcases gd_fn1 hF (show nT ≤ 80 from W.1.2.2.2.2.2) y3 m14 Fv x4 with ⟨p2, q2⟩ | ⟨⟨f, fn, fe, f2⟩, p2, q2⟩
  · refine Or.inl ⟨?_, ?_⟩
    · unfold fX6_isAsTold
      rw [if_neg (show ¬ nI 1 = (0 : Int32) by decide), if_pos (show nI 1 = (1 : Int32) from rfl), p, tf_bse]
      dsimp only
      rw [if_neg tf_n10, p2, tf_bse]
      dsimp only
      rw [if_pos rfl]
    · rw [hM]
      refine op55_3 (by decide) ?_
      unfold fX7_isRight
      rw [if_neg (show ¬ nI 1 = (0 : Int32) by decide), if_pos (show nI 1 = (1 : Int32) from rfl)]
      exact tf_bzw q2 (Or.inl rfl)
  · refine Or.inr ⟨1, by decide, rfl, ?_, hM, ?_, fun _ => ⟨a, an, ae⟩, fun z => by omega, fun z => by omega, fun _ => ⟨f, fn, fe, f2⟩, fun z => by omega, fun z => by omega, fun z => by omega⟩
    · unfold fX6_isAsTold
      rw [if_neg (show ¬ nI 1 = (0 : Int32) by decide), if_pos (show nI 1 = (1 : Int32) from rfl), p, tf_bse]
      dsimp only
      rw [if_neg tf_n10, p2, tf_bse]
      dsimp only
      rw [if_neg tf_n10]
    · unfold fX7_isRight
      rw [if_neg (show ¬ nI 1 = (0 : Int32) by decide), if_pos (show nI 1 = (1 : Int32) from rfl)]
      exact tf_bzw q2 (Or.inr rfl)
theorem opd_2 (L : tf_Rl σx σm nC nT nM nF nO) : tf_OPD σx σm nC nT nM nF nO (nI 2) x2 x3 x4 x5 x6 := by
  obtain ⟨W, T, ⟨y2, m11, hM⟩, Mv, ⟨y3, m14, hF⟩, Fv, ⟨y4, m24, hO⟩, O, R⟩ := id L
  obtain ⟨b, hb, gb⟩ := tf_Gb (gd_opi hO y4 m24 x3)
  rcases gd_opi hO y4 m24 x2 with ⟨p, q⟩ | ⟨⟨a, -, an, ae⟩, p, q⟩
  · refine Or.inl ⟨?_, opM_a0 (by decide) (by decide) q hb gb⟩
    unfold fX6_isAsTold
    rw [if_neg (show ¬ nI 2 = (0 : Int32) by decide), if_neg (show ¬ nI 2 = (1 : Int32) by decide), if_pos (show nI 2 = (2 : Int32) from rfl), p, tf_bse]
    dsimp only
    rw [if_pos rfl]
  have hM : fX7_operator σm (nI 2) x2 x3 x4 x5 x6 = fX7_operator_55 (nI 2) x2 x3 x4 x5 x6 σm 1 1 := by
    rw [opM_a (by decide) (by decide) (Or.inr rfl) q, op23_a (by omega)]
  rcases gd_fn1 hF (show nT ≤ 80 from W.1.2.2.2.2.2) y3 m14 Fv x4 with ⟨p2, q2⟩ | ⟨⟨f, fn, fe, f2⟩, p2, q2⟩
  · refine Or.inl ⟨?_, ?_⟩
    · unfold fX6_isAsTold
      rw [if_neg (show ¬ nI 2 = (0 : Int32) by decide), if_neg (show ¬ nI 2 = (1 : Int32) by decide), if_pos (show nI 2 = (2 : Int32) from rfl), p, tf_bse]
      dsimp only
      rw [if_neg tf_n10, p2, tf_bse]
      dsimp only
      rw [if_pos rfl]
    · rw [hM]
      refine op55_3 (by decide) ?_
      unfold fX7_isRight
      rw [if_neg (show ¬ nI 2 = (0 : Int32) by decide), if_neg (show ¬ nI 2 = (1 : Int32) by decide), if_pos (show nI 2 = (2 : Int32) from rfl)]
      exact tf_bzw q2 (Or.inl rfl)
  · refine Or.inr ⟨2, by decide, rfl, ?_, hM, ?_, fun _ => ⟨a, an, ae⟩, fun z => by omega, fun z => by omega, fun _ => ⟨f, fn, fe, f2⟩, fun z => by omega, fun z => by omega, fun z => by omega⟩
    · unfold fX6_isAsTold
      rw [if_neg (show ¬ nI 2 = (0 : Int32) by decide), if_neg (show ¬ nI 2 = (1 : Int32) by decide), if_pos (show nI 2 = (2 : Int32) from rfl), p, tf_bse]
      dsimp only
      rw [if_neg tf_n10, p2, tf_bse]
      dsimp only
      rw [if_neg tf_n10]
    · unfold fX7_isRight
      rw [if_neg (show ¬ nI 2 = (0 : Int32) by decide), if_neg (show ¬ nI 2 = (1 : Int32) by decide), if_pos (show nI 2 = (2 : Int32) from rfl)]
      exact tf_bzw q2 (Or.inr rfl)
theorem opd_3 (L : tf_Rl σx σm nC nT nM nF nO) : tf_OPD σx σm nC nT nM nF nO (nI 3) x2 x3 x4 x5 x6 := by
  obtain ⟨W, T, ⟨y2, m11, hM⟩, Mv, ⟨y3, m14, hF⟩, Fv, ⟨y4, m24, hO⟩, O, R⟩ := id L
  obtain ⟨b, hb, gb⟩ := tf_Gb (gd_opi hO y4 m24 x3)
  rcases gd_opi hO y4 m24 x2 with ⟨p, q⟩ | ⟨⟨a, -, an, ae⟩, p, q⟩
  · refine Or.inl ⟨?_, opM_a0 (by decide) (by decide) q hb gb⟩
    unfold fX6_isAsTold
    rw [if_neg (show ¬ nI 3 = (0 : Int32) by decide), if_neg (show ¬ nI 3 = (1 : Int32) by decide), if_neg (show ¬ nI 3 = (2 : Int32) by decide), if_pos (show nI 3 = (3 : Int32) from rfl), p, tf_bse]
    dsimp only
    rw [if_pos rfl]
  have hR : fX7_operator σm (nI 3) x2 x3 x4 x5 x6 = fX7_operator_55 (nI 3) x2 x3 x4 x5 x6 σm 1 1 := by
    rw [opM_a (by decide) (by decide) (Or.inr rfl) q, op23_a (by omega)]
  rcases gd_mem hM y2 m11 x4 with ⟨p2, q2⟩ | ⟨⟨m, -, mn, me⟩, p2, q2⟩
  · refine Or.inl ⟨?_, ?_⟩
    · unfold fX6_isAsTold
      rw [if_neg (show ¬ nI 3 = (0 : Int32) by decide), if_neg (show ¬ nI 3 = (1 : Int32) by decide), if_neg (show ¬ nI 3 = (2 : Int32) by decide), if_pos (show nI 3 = (3 : Int32) from rfl), p, tf_bse]
      dsimp only
      rw [if_neg tf_n10, p2, tf_bse]
      dsimp only
      rw [if_pos rfl]
    · rw [hR]
      refine op55_3 (by decide) ?_
      unfold fX7_isRight
      rw [if_neg (show ¬ nI 3 = (0 : Int32) by decide), if_neg (show ¬ nI 3 = (1 : Int32) by decide), if_neg (show ¬ nI 3 = (2 : Int32) by decide), if_pos (show nI 3 = (3 : Int32) from rfl)]
      exact tf_bzw q2 (Or.inl rfl)
  · refine Or.inr ⟨3, by decide, rfl, ?_, hR, ?_, fun _ => ⟨a, an, ae⟩, fun z => by omega, fun z => by omega, fun z => by omega, fun z => by omega, fun _ => ⟨m, mn, me⟩, fun z => by omega⟩
    · unfold fX6_isAsTold
      rw [if_neg (show ¬ nI 3 = (0 : Int32) by decide), if_neg (show ¬ nI 3 = (1 : Int32) by decide), if_neg (show ¬ nI 3 = (2 : Int32) by decide), if_pos (show nI 3 = (3 : Int32) from rfl), p, tf_bse]
      dsimp only
      rw [if_neg tf_n10, p2, tf_bse]
      dsimp only
      rw [if_neg tf_n10]
    · unfold fX7_isRight
      rw [if_neg (show ¬ nI 3 = (0 : Int32) by decide), if_neg (show ¬ nI 3 = (1 : Int32) by decide), if_neg (show ¬ nI 3 = (2 : Int32) by decide), if_pos (show nI 3 = (3 : Int32) from rfl)]
      exact tf_bzw q2 (Or.inr rfl)
theorem opd_7 (L : tf_Rl σx σm nC nT nM nF nO) : tf_OPD σx σm nC nT nM nF nO (nI 7) x2 x3 x4 x5 x6 := by
  obtain ⟨W, T, ⟨y2, m11, hM⟩, Mv, ⟨y3, m14, hF⟩, Fv, ⟨y4, m24, hO⟩, O, R⟩ := id L
  obtain ⟨b, hb, gb⟩ := tf_Gb (gd_opi hO y4 m24 x3)
  rcases gd_opi hO y4 m24 x2 with ⟨p, q⟩ | ⟨⟨a, -, an, ae⟩, p, q⟩
  · refine Or.inl ⟨?_, opM_a0 (by decide) (by decide) q hb gb⟩
    unfold fX6_isAsTold
    rw [if_neg (show ¬ nI 7 = (0 : Int32) by decide), if_neg (show ¬ nI 7 = (1 : Int32) by decide), if_neg (show ¬ nI 7 = (2 : Int32) by decide), if_neg (show ¬ nI 7 = (3 : Int32) by decide), if_neg (show ¬ nI 7 = (4 : Int32) by decide), if_neg (show ¬ nI 7 = (5 : Int32) by decide), if_neg (show ¬ nI 7 = (6 : Int32) by decide), if_pos (show nI 7 = (7 : Int32) from rfl), p, tf_bse]
    dsimp only
    rw [if_pos rfl]
  have hR : fX7_operator σm (nI 7) x2 x3 x4 x5 x6 = fX7_operator_55 (nI 7) x2 x3 x4 x5 x6 σm 1 1 := by
    rw [opM_a (by decide) (by decide) (Or.inr rfl) q, op23_a (by omega)]
  rcases gd_closed W T x4 with ⟨p2, q2⟩ | ⟨⟨u, un, ue, uc⟩, p2, q2⟩
  · refine Or.inl ⟨?_, ?_⟩
    · unfold fX6_isAsTold
      rw [if_neg (show ¬ nI 7 = (0 : Int32) by decide), if_neg (show ¬ nI 7 = (1 : Int32) by decide), if_neg (show ¬ nI 7 = (2 : Int32) by decide), if_neg (show ¬ nI 7 = (3 : Int32) by decide), if_neg (show ¬ nI 7 = (4 : Int32) by decide), if_neg (show ¬ nI 7 = (5 : Int32) by decide), if_neg (show ¬ nI 7 = (6 : Int32) by decide), if_pos (show nI 7 = (7 : Int32) from rfl), p, tf_bse]
      dsimp only
      rw [if_neg tf_n10, p2, tf_bse]
      dsimp only
      rw [if_pos rfl]
    · rw [hR]
      refine op55_3 (by decide) ?_
      unfold fX7_isRight
      rw [if_neg (show ¬ nI 7 = (0 : Int32) by decide), if_neg (show ¬ nI 7 = (1 : Int32) by decide), if_neg (show ¬ nI 7 = (2 : Int32) by decide), if_neg (show ¬ nI 7 = (3 : Int32) by decide), if_neg (show ¬ nI 7 = (4 : Int32) by decide), if_neg (show ¬ nI 7 = (5 : Int32) by decide), if_neg (show ¬ nI 7 = (6 : Int32) by decide), if_pos (show nI 7 = (7 : Int32) from rfl)]
      exact tf_bzw q2 (Or.inl rfl)
  · refine Or.inr ⟨7, by decide, rfl, ?_, hR, ?_, fun _ => ⟨a, an, ae⟩, fun z => by omega, fun _ => ⟨u, un, ue, uc⟩, fun z => by omega, fun z => by omega, fun z => by omega, fun z => by omega⟩
    · unfold fX6_isAsTold
      rw [if_neg (show ¬ nI 7 = (0 : Int32) by decide), if_neg (show ¬ nI 7 = (1 : Int32) by decide), if_neg (show ¬ nI 7 = (2 : Int32) by decide), if_neg (show ¬ nI 7 = (3 : Int32) by decide), if_neg (show ¬ nI 7 = (4 : Int32) by decide), if_neg (show ¬ nI 7 = (5 : Int32) by decide), if_neg (show ¬ nI 7 = (6 : Int32) by decide), if_pos (show nI 7 = (7 : Int32) from rfl), p, tf_bse]
      dsimp only
      rw [if_neg tf_n10, p2, tf_bse]
      dsimp only
      rw [if_neg tf_n10]
    · unfold fX7_isRight
      rw [if_neg (show ¬ nI 7 = (0 : Int32) by decide), if_neg (show ¬ nI 7 = (1 : Int32) by decide), if_neg (show ¬ nI 7 = (2 : Int32) by decide), if_neg (show ¬ nI 7 = (3 : Int32) by decide), if_neg (show ¬ nI 7 = (4 : Int32) by decide), if_neg (show ¬ nI 7 = (5 : Int32) by decide), if_neg (show ¬ nI 7 = (6 : Int32) by decide), if_pos (show nI 7 = (7 : Int32) from rfl)]
      exact tf_bzw q2 (Or.inr rfl)
theorem opd_4 (L : tf_Rl σx σm nC nT nM nF nO) : tf_OPD σx σm nC nT nM nF nO (nI 4) x2 x3 x4 x5 x6 := by
  obtain ⟨W, T, ⟨y2, m11, hM⟩, Mv, ⟨y3, m14, hF⟩, Fv, ⟨y4, m24, hO⟩, O, R⟩ := id L
  obtain ⟨b, hb, gb⟩ := tf_Gb (gd_opi hO y4 m24 x3)
  rcases gd_opi hO y4 m24 x2 with ⟨p, q⟩ | ⟨⟨a, -, an, ae⟩, p, q⟩
  · refine Or.inl ⟨?_, opM_a0 (by decide) (by decide) q hb gb⟩
    unfold fX6_isAsTold
    rw [if_neg (show ¬ nI 4 = (0 : Int32) by decide), if_neg (show ¬ nI 4 = (1 : Int32) by decide), if_neg (show ¬ nI 4 = (2 : Int32) by decide), if_neg (show ¬ nI 4 = (3 : Int32) by decide), if_pos (show nI 4 = (4 : Int32) from rfl), p, tf_bse]
    dsimp only
    rw [if_pos rfl]
  rcases gd_opi hO y4 m24 x3 with ⟨p2, q2⟩ | ⟨⟨c, -, cn, ce⟩, p2, q2⟩
  · refine Or.inl ⟨?_, ?_⟩
    · unfold fX6_isAsTold
      rw [if_neg (show ¬ nI 4 = (0 : Int32) by decide), if_neg (show ¬ nI 4 = (1 : Int32) by decide), if_neg (show ¬ nI 4 = (2 : Int32) by decide), if_neg (show ¬ nI 4 = (3 : Int32) by decide), if_pos (show nI 4 = (4 : Int32) from rfl), p, tf_bse]
      dsimp only
      rw [if_neg tf_n10, p2, tf_bse]
      dsimp only
      rw [if_pos rfl]
    · rw [opM_a (by decide) (by decide) (Or.inr rfl) q, op23_b (by omega) (Or.inl rfl) q2, op55_2 (by decide)]
  have hR : fX7_operator σm (nI 4) x2 x3 x4 x5 x6 = fX7_operator_55 (nI 4) x2 x3 x4 x5 x6 σm 1 1 := by
    rw [opM_a (by decide) (by decide) (Or.inr rfl) q, op23_b (by omega) (Or.inr rfl) q2]
  refine Or.inr ⟨4, by decide, rfl, ?_, hR, ?_, fun _ => ⟨a, an, ae⟩, fun _ => ⟨c, cn, ce⟩, fun z => by omega, fun z => by omega, fun z => by omega, fun z => by omega, fun z => by omega⟩
  · unfold fX6_isAsTold
    rw [if_neg (show ¬ nI 4 = (0 : Int32) by decide), if_neg (show ¬ nI 4 = (1 : Int32) by decide), if_neg (show ¬ nI 4 = (2 : Int32) by decide), if_neg (show ¬ nI 4 = (3 : Int32) by decide), if_pos (show nI 4 = (4 : Int32) from rfl), p, tf_bse]
    dsimp only
    rw [if_neg tf_n10, p2, tf_bse]
    dsimp only
    rw [if_neg tf_n10]
  · unfold fX7_isRight
    rw [if_neg (show ¬ nI 4 = (0 : Int32) by decide), if_neg (show ¬ nI 4 = (1 : Int32) by decide), if_neg (show ¬ nI 4 = (2 : Int32) by decide), if_neg (show ¬ nI 4 = (3 : Int32) by decide), if_pos (show nI 4 = (4 : Int32) from rfl)]
theorem opd_5 (L : tf_Rl σx σm nC nT nM nF nO) : tf_OPD σx σm nC nT nM nF nO (nI 5) x2 x3 x4 x5 x6 := by
  obtain ⟨W, T, ⟨y2, m11, hM⟩, Mv, ⟨y3, m14, hF⟩, Fv, ⟨y4, m24, hO⟩, O, R⟩ := id L
  obtain ⟨b, hb, gb⟩ := tf_Gb (gd_opi hO y4 m24 x3)
  rcases gd_opi hO y4 m24 x2 with ⟨p, q⟩ | ⟨⟨a, -, an, ae⟩, p, q⟩
  · refine Or.inl ⟨?_, opM_a0 (by decide) (by decide) q hb gb⟩
    unfold fX6_isAsTold
    rw [if_neg (show ¬ nI 5 = (0 : Int32) by decide), if_neg (show ¬ nI 5 = (1 : Int32) by decide), if_neg (show ¬ nI 5 = (2 : Int32) by decide), if_neg (show ¬ nI 5 = (3 : Int32) by decide), if_neg (show ¬ nI 5 = (4 : Int32) by decide), if_pos (show nI 5 = (5 : Int32) from rfl), p, tf_bse]
    dsimp only
    rw [if_pos rfl]
  rcases gd_opi hO y4 m24 x3 with ⟨p2, q2⟩ | ⟨⟨c, -, cn, ce⟩, p2, q2⟩
  · refine Or.inl ⟨?_, ?_⟩
    · unfold fX6_isAsTold
      rw [if_neg (show ¬ nI 5 = (0 : Int32) by decide), if_neg (show ¬ nI 5 = (1 : Int32) by decide), if_neg (show ¬ nI 5 = (2 : Int32) by decide), if_neg (show ¬ nI 5 = (3 : Int32) by decide), if_neg (show ¬ nI 5 = (4 : Int32) by decide), if_pos (show nI 5 = (5 : Int32) from rfl), p, tf_bse]
      dsimp only
      rw [if_neg tf_n10, p2, tf_bse]
      dsimp only
      rw [if_pos rfl]
    · rw [opM_a (by decide) (by decide) (Or.inr rfl) q, op23_b (by omega) (Or.inl rfl) q2, op55_2 (by decide)]
  have hR : fX7_operator σm (nI 5) x2 x3 x4 x5 x6 = fX7_operator_55 (nI 5) x2 x3 x4 x5 x6 σm 1 1 := by
    rw [opM_a (by decide) (by decide) (Or.inr rfl) q, op23_b (by omega) (Or.inr rfl) q2]
  rcases gd_fn2 hF (show nT ≤ 80 from W.1.2.2.2.2.2) y3 m14 Fv x4 with ⟨p3, q3⟩ | ⟨⟨f, fn, fe, f2⟩, p3, q3⟩
  · refine Or.inl ⟨?_, ?_⟩
    · unfold fX6_isAsTold
      rw [if_neg (show ¬ nI 5 = (0 : Int32) by decide), if_neg (show ¬ nI 5 = (1 : Int32) by decide), if_neg (show ¬ nI 5 = (2 : Int32) by decide), if_neg (show ¬ nI 5 = (3 : Int32) by decide), if_neg (show ¬ nI 5 = (4 : Int32) by decide), if_pos (show nI 5 = (5 : Int32) from rfl), p, tf_bse]
      dsimp only
      rw [if_neg tf_n10, p2, tf_bse]
      dsimp only
      rw [if_neg tf_n10, p3, tf_bse]
      dsimp only
      rw [if_pos rfl]
    · rw [hR]
      refine op55_3 (by decide) ?_
      unfold fX7_isRight
      rw [if_neg (show ¬ nI 5 = (0 : Int32) by decide), if_neg (show ¬ nI 5 = (1 : Int32) by decide), if_neg (show ¬ nI 5 = (2 : Int32) by decide), if_neg (show ¬ nI 5 = (3 : Int32) by decide), if_neg (show ¬ nI 5 = (4 : Int32) by decide), if_pos (show nI 5 = (5 : Int32) from rfl)]
      exact tf_bzw q3 (Or.inl rfl)
  · refine Or.inr ⟨5, by decide, rfl, ?_, hR, ?_, fun _ => ⟨a, an, ae⟩, fun _ => ⟨c, cn, ce⟩, fun z => by omega, fun z => by omega, fun _ => ⟨f, fn, fe, f2⟩, fun z => by omega, fun z => by omega⟩
    · unfold fX6_isAsTold
      rw [if_neg (show ¬ nI 5 = (0 : Int32) by decide), if_neg (show ¬ nI 5 = (1 : Int32) by decide), if_neg (show ¬ nI 5 = (2 : Int32) by decide), if_neg (show ¬ nI 5 = (3 : Int32) by decide), if_neg (show ¬ nI 5 = (4 : Int32) by decide), if_pos (show nI 5 = (5 : Int32) from rfl), p, tf_bse]
      dsimp only
      rw [if_neg tf_n10, p2, tf_bse]
      dsimp only
      rw [if_neg tf_n10, p3, tf_bse]
      dsimp only
      rw [if_neg tf_n10]
    · unfold fX7_isRight
      rw [if_neg (show ¬ nI 5 = (0 : Int32) by decide), if_neg (show ¬ nI 5 = (1 : Int32) by decide), if_neg (show ¬ nI 5 = (2 : Int32) by decide), if_neg (show ¬ nI 5 = (3 : Int32) by decide), if_neg (show ¬ nI 5 = (4 : Int32) by decide), if_pos (show nI 5 = (5 : Int32) from rfl)]
      exact tf_bzw q3 (Or.inr rfl)
theorem opd_6 (L : tf_Rl σx σm nC nT nM nF nO) : tf_OPD σx σm nC nT nM nF nO (nI 6) x2 x3 x4 x5 x6 := by
  obtain ⟨W, T, ⟨y2, m11, hM⟩, Mv, ⟨y3, m14, hF⟩, Fv, ⟨y4, m24, hO⟩, O, R⟩ := id L
  obtain ⟨b, hb, gb⟩ := tf_Gb (gd_opi hO y4 m24 x3)
  rcases gd_opi hO y4 m24 x2 with ⟨p, q⟩ | ⟨⟨a, -, an, ae⟩, p, q⟩
  · refine Or.inl ⟨?_, opM_a0 (by decide) (by decide) q hb gb⟩
    unfold fX6_isAsTold
    rw [if_neg (show ¬ nI 6 = (0 : Int32) by decide), if_neg (show ¬ nI 6 = (1 : Int32) by decide), if_neg (show ¬ nI 6 = (2 : Int32) by decide), if_neg (show ¬ nI 6 = (3 : Int32) by decide), if_neg (show ¬ nI 6 = (4 : Int32) by decide), if_neg (show ¬ nI 6 = (5 : Int32) by decide), if_pos (show nI 6 = (6 : Int32) from rfl), p, tf_bse]
    dsimp only
    rw [if_pos rfl]
  rcases gd_opi hO y4 m24 x3 with ⟨p2, q2⟩ | ⟨⟨c, -, cn, ce⟩, p2, q2⟩
  · refine Or.inl ⟨?_, ?_⟩
    · unfold fX6_isAsTold
      rw [if_neg (show ¬ nI 6 = (0 : Int32) by decide), if_neg (show ¬ nI 6 = (1 : Int32) by decide), if_neg (show ¬ nI 6 = (2 : Int32) by decide), if_neg (show ¬ nI 6 = (3 : Int32) by decide), if_neg (show ¬ nI 6 = (4 : Int32) by decide), if_neg (show ¬ nI 6 = (5 : Int32) by decide), if_pos (show nI 6 = (6 : Int32) from rfl), p, tf_bse]
      dsimp only
      rw [if_neg tf_n10, p2, tf_bse]
      dsimp only
      rw [if_pos rfl]
    · rw [opM_a (by decide) (by decide) (Or.inr rfl) q, op23_b (by omega) (Or.inl rfl) q2, op55_2 (by decide)]
  have hR : fX7_operator σm (nI 6) x2 x3 x4 x5 x6 = fX7_operator_55 (nI 6) x2 x3 x4 x5 x6 σm 1 1 := by
    rw [opM_a (by decide) (by decide) (Or.inr rfl) q, op23_b (by omega) (Or.inr rfl) q2]
  have A : fX6_isAsTold σx (nI 6) x2 x3 x4 x5 x6 = ((fX1_has σx x4).bind fun u50 => if u50.1 = 0 then (some ((0 : Int32), u50.2)) else ((fX1_has u50.2 x5).bind fun u53 => if u53.1 = 0 then (some ((0 : Int32), u53.2)) else ((fX4_isClass u53.2 x6).bind fun u56 => if u56.1 = 0 then (some ((0 : Int32), u56.2)) else (if tf_inb x6 12 = true then (if (u56.2 7 (x6).toNatClampNeg) = (2 : Int32) then (some ((1 : Int32), u56.2)) else (some ((0 : Int32), u56.2))) else none)))) := by
    unfold fX6_isAsTold
    rw [if_neg (show ¬ nI 6 = (0 : Int32) by decide), if_neg (show ¬ nI 6 = (1 : Int32) by decide), if_neg (show ¬ nI 6 = (2 : Int32) by decide), if_neg (show ¬ nI 6 = (3 : Int32) by decide), if_neg (show ¬ nI 6 = (4 : Int32) by decide), if_neg (show ¬ nI 6 = (5 : Int32) by decide), if_pos (show nI 6 = (6 : Int32) from rfl), p, tf_bse]
    dsimp only
    rw [if_neg tf_n10, p2, tf_bse]
    dsimp only
    rw [if_neg tf_n10]
  have B : fX7_isRight σm (nI 6) x4 x5 x6 = ((fX7_isIn σm x4 (0 : Int32) ((σm 0 11) - (1 : Int32))).bind fun u23 => if u23.1 = 0 then (some ((0 : Int32), u23.2)) else ((fX7_isIn u23.2 x5 (0 : Int32) ((u23.2 0 11) - (1 : Int32))).bind fun u26 => if u26.1 = 0 then (some ((0 : Int32), u26.2)) else ((fX7_isClass u26.2 x6).bind fun u29 => if u29.1 = 0 then (some ((0 : Int32), u29.2)) else (if tf_inb x6 12 = true then (if (u29.2 1 (x6).toNatClampNeg) = (2 : Int32) then (some ((1 : Int32), u29.2)) else (some ((0 : Int32), u29.2))) else none)))) := by
    unfold fX7_isRight
    rw [if_neg (show ¬ nI 6 = (0 : Int32) by decide), if_neg (show ¬ nI 6 = (1 : Int32) by decide), if_neg (show ¬ nI 6 = (2 : Int32) by decide), if_neg (show ¬ nI 6 = (3 : Int32) by decide), if_neg (show ¬ nI 6 = (4 : Int32) by decide), if_neg (show ¬ nI 6 = (5 : Int32) by decide), if_pos (show nI 6 = (6 : Int32) from rfl)]
  rcases gd_mem hM y2 m11 x4 with ⟨p3, q3⟩ | ⟨⟨f, -, fn, fe⟩, p3, q3⟩
  · rw [p3, tf_bse] at A
    rw [q3, tf_bse] at B
    dsimp only at A B
    rw [if_pos rfl] at A B
    exact Or.inl ⟨A, by rw [hR]; exact op55_3 (by decide) B⟩
  rw [p3, tf_bse] at A
  rw [q3, tf_bse] at B
  dsimp only at A B
  rw [if_neg tf_n10] at A B
  rcases gd_mem hM y2 m11 x5 with ⟨p4, q4⟩ | ⟨⟨g, -, gn, ge⟩, p4, q4⟩
  · rw [p4, tf_bse] at A
    rw [q4, tf_bse] at B
    dsimp only at A B
    rw [if_pos rfl] at A B
    exact Or.inl ⟨A, by rw [hR]; exact op55_3 (by decide) B⟩
  rw [p4, tf_bse] at A
  rw [q4, tf_bse] at B
  dsimp only at A B
  rw [if_neg tf_n10] at A B
  rcases gd_class W T x6 with ⟨p5, q5⟩ | ⟨⟨d, -, dn, de⟩, p5, q5⟩
  · rw [p5, tf_bse] at A
    rw [q5, tf_bse] at B
    dsimp only at A B
    rw [if_pos rfl] at A B
    exact Or.inl ⟨A, by rw [hR]; exact op55_3 (by decide) B⟩
  have d12 : d < 12 := by have := W.1.2.2.2.1; omega
  have jd : tf_inb x6 12 = true := by rw [de]; exact tf_ib d12 (by decide)
  have cd : x6.toNatClampNeg = d := by rw [de]; exact nI_clamp (by omega)
  rw [p5, tf_bse] at A
  rw [q5, tf_bse] at B
  dsimp only at A B
  rw [if_neg tf_n10, if_pos jd, cd] at A B
  have c6 := (T.2.2.1 d dn).1
  by_cases e : σx 7 d = 2
  · rw [if_pos e] at A
    rw [if_pos (c6.trans e)] at B
    exact Or.inr ⟨6, by decide, rfl, A, hR, B, fun _ => ⟨a, an, ae⟩, fun _ => ⟨c, cn, ce⟩, fun z => by omega, fun z => by omega, fun z => by omega, fun z => by omega, fun _ => ⟨f, g, d, fn, gn, dn, fe, ge, de, e⟩⟩
  · rw [if_neg e] at A
    rw [if_neg (show ¬ σm 1 d = 2 from fun q => e (c6.symm.trans q))] at B
    exact Or.inl ⟨A, by rw [hR]; exact op55_3 (by decide) B⟩
end OPC
theorem opd_r {σx σm : tf_S} {nC nT nM nF nO : Nat} {x1 x2 x3 x4 x5 x6 : Int32} (L : tf_Rl σx σm nC nT nM nF nO) (h : ¬ tf_isR x1 0 8) : tf_OPD σx σm nC nT nM nF nO x1 x2 x3 x4 x5 x6 := by
  obtain ⟨W, T, ⟨y2, m11, hM⟩, Mv, ⟨y3, m14, hF⟩, Fv, ⟨y4, m24, hO⟩, O, R⟩ := id L
  have ne : ∀ k, k < 8 → ¬ x1 = nI k := fun k hk e => h ⟨k, by omega, hk, e⟩
  refine Or.inl ⟨?_, ?_⟩
  · unfold fX6_isAsTold
    rw [if_neg (show ¬ x1 = (0 : Int32) from ne 0 (by decide)), if_neg (show ¬ x1 = (1 : Int32) from ne 1 (by decide)), if_neg (show ¬ x1 = (2 : Int32) from ne 2 (by decide)), if_neg (show ¬ x1 = (3 : Int32) from ne 3 (by decide)), if_neg (show ¬ x1 = (4 : Int32) from ne 4 (by decide)), if_neg (show ¬ x1 = (5 : Int32) from ne 5 (by decide)), if_neg (show ¬ x1 = (6 : Int32) from ne 6 (by decide)), if_neg (show ¬ x1 = (7 : Int32) from ne 7 (by decide))]
  · obtain ⟨b, hb, gb⟩ := tf_Gb (gd_opi hO y4 m24 x3)
    obtain ⟨a, ha, ga⟩ := tf_Gb (gd_opi hO y4 m24 x2)
    have E : ∀ t0, fX7_operator_23 x1 x2 x3 x4 x5 x6 σm t0 = some (-2, σm) := fun t0 => by
      unfold fX7_operator_23
      rw [gb, tf_bse]
      dsimp only
      rw [op55_r h, op55_r h]
      by_cases c1 : x1 < 4
      · rw [if_pos c1]
      · rw [if_neg c1, if_neg (show ¬ x1 = (7 : Int32) from ne 7 (by decide))]
        by_cases c2 : b = 0
        · rw [if_pos c2]
        · rw [if_neg c2]
    unfold fX7_operator
    rw [if_neg (show ¬ x1 = (0 : Int32) from ne 0 (by decide)), ga, tf_bse]
    dsimp only
    rw [E, E]
    by_cases c2 : a = 0
    · rw [if_pos c2]
    · rw [if_neg c2]
theorem ok_operator : tf_OK_operator tf_Rel := fun σx σm ⟨nC, nT, nM, nF, nO, L⟩ x1 x2 x3 x4 x5 x6 => by
  have D : tf_OPD σx σm nC nT nM nF nO x1 x2 x3 x4 x5 x6 := by
    by_cases h : tf_isR x1 0 8
    · obtain ⟨k, -, k8, rfl⟩ := h
      rcases (show k = 0 ∨ k = 1 ∨ k = 2 ∨ k = 3 ∨ k = 4 ∨ k = 5 ∨ k = 6 ∨ k = 7 by omega) with rfl | rfl | rfl | rfl | rfl | rfl | rfl | rfl
      · exact opd_0 L
      · exact opd_1 L
      · exact opd_2 L
      · exact opd_3 L
      · exact opd_4 L
      · exact opd_5 L
      · exact opd_6 L
      · exact opd_7 L
    · exact opd_r L h
  obtain ⟨-, -, -, -, -, -, ⟨y4, m24, hO⟩, -⟩ := id L
  unfold fX6_operator
  rcases D with ⟨p, q⟩ | ⟨kd, h8, rfl, p, q, g, V⟩
  · rw [p, q, tf_bse]
    dsimp only
    rw [if_pos rfl]
    exact ⟨-2, σx, σm, rfl, rfl, nC, nT, nM, nF, nO, L⟩
  · rw [p, q, tf_bse]
    dsimp only
    rw [if_neg tf_n10]
    by_cases full : nO = 24
    · refine ⟨-3, σx, σm, tf_pair _ ?_, op55_f h8 g (by rw [m24, full]), nC, nT, nM, nF, nO, L⟩
      unfold fX2_add
      rw [y4, full, if_neg (show ¬ nI 24 < (24 : Int32) by decide)]
    · exact ⟨nI nO, _, _, tf_pair _ (add2_eq y4 (by omega)), op55_y h8 g m24 (by omega), nC, nT, nM, nF, nO + 1, L.op h8 (by omega) V⟩
