/-! pure part 32: counting, casts told by number; the start; all eighteen -/
def tf_ans (σ : tf_S) (x1 y2 : Int32) : Option (Int32 × tf_S) := if x1 = 0 then (some ((σ 0 0), σ)) else (if x1 = (1 : Int32) then (some ((σ 0 3), σ)) else (if x1 = (2 : Int32) then (some ((σ 0 11), σ)) else (if x1 = (3 : Int32) then (some ((σ 0 14), σ)) else (if x1 = (4 : Int32) then (some ((σ 0 24), σ)) else (if x1 = (5 : Int32) then (some (y2, σ)) else (some ((-2 : Int32), σ)))))))
theorem tf_cnt_rec {σx σm : tf_S} {nO : Nat} {x1 : Int32} (hO : nO ≤ 24) (y4 : σx 4 0 = nI nO) (m24 : σm 0 24 = nI nO) (e : ∀ k, k < nO → σx 29 k = σm 26 k) : ∀ (d k : Nat) (y : Int32) (n n' : Nat), k + d = nO → d < n → d < n' → ∃ c, fX2_howManyRisky_4 n σx y (nI k) = some (c, σx) ∧ fX7_count_4 x1 n' σm y (nI k) = tf_ans σm x1 c := by
  intro d
  induction d with
  | zero =>
    intro k y n n' hk hn hn'
    obtain ⟨m, rfl⟩ : ∃ m, n = m + 1 := ⟨n - 1, by omega⟩
    obtain ⟨m', rfl⟩ : ∃ m, n' = m + 1 := ⟨n' - 1, by omega⟩
    refine ⟨y, ?_, ?_⟩
    · rw [fX2_howManyRisky_4, y4, if_pos (nI_le (by omega) (by omega))]
    · rw [fX7_count_4, if_pos (show σm 0 24 ≤ nI k by rw [m24]; exact nI_le (by omega) (by omega))]
      rfl
  | succ d ih =>
    intro k y n n' hk hn hn'
    obtain ⟨m, rfl⟩ : ∃ m, n = m + 1 := ⟨n - 1, by omega⟩
    obtain ⟨m', rfl⟩ : ∃ m, n' = m + 1 := ⟨n' - 1, by omega⟩
    have nle : ¬ nI nO ≤ nI k := nI_ge (by omega) (by omega)
    have jk : tf_inb (nI k) 24 = true := tf_ib (show k < 24 by omega) (by decide)
    rw [fX2_howManyRisky_4, y4, if_neg nle, if_pos jk, fX7_count_4, if_neg (show ¬ σm 0 24 ≤ nI k by rw [m24]; exact nle), if_pos jk, nI_clamp (show k < 2 ^ 31 by omega), e k (by omega)]
    simp only [tf_gle, nI_1, Int32.add_zero]
    by_cases c : σm 26 k = 0
    · rw [if_pos c, if_pos c]
      exact ih (k + 1) y m m' (by omega) (by omega) (by omega)
    · rw [if_neg c, if_neg c]
      exact ih (k + 1) (y + 1) m m' (by omega) (by omega) (by omega)
theorem ok_count : tf_OK_count tf_Rel := fun σx σm ⟨nC, nT, nM, nF, nO, L⟩ x => by
  obtain ⟨W, T, ⟨y2, m11, hM⟩, Mv, ⟨y3, m14, hF⟩, Fv, ⟨y4, m24, hO⟩, O, R⟩ := id L
  obtain ⟨c, ex, em⟩ := tf_cnt_rec (x1 := x) hO y4 m24 (fun k hk => (R k hk).2.2.2.1) nO 0 0 100000 100000 (by omega) (by omega) (by omega)
  have good : tf_Rel σx σm := ⟨nC, nT, nM, nF, nO, L⟩
  have E : fX7_count σm x = tf_ans σm x c := em
  have H : fX2_howManyRisky σx = some (c, σx) := ex
  rw [E]
  unfold fX6_count tf_ans
  rw [H, tf_bse, W.1.1, W.1.2.1, T.1, T.2.1, y2, m11, y3, m14, y4, m24]
  by_cases c0 : x = 0
  · rw [if_pos c0, if_pos c0]; exact ⟨_, σx, σm, rfl, rfl, good⟩
  rw [if_neg c0, if_neg c0]
  by_cases c1 : x = 1
  · rw [if_pos c1, if_pos c1]; exact ⟨_, σx, σm, rfl, rfl, good⟩
  rw [if_neg c1, if_neg c1]
  by_cases c2 : x = 2
  · rw [if_pos c2, if_pos c2]; exact ⟨_, σx, σm, rfl, rfl, good⟩
  rw [if_neg c2, if_neg c2]
  by_cases c3 : x = 3
  · rw [if_pos c3, if_pos c3]; exact ⟨_, σx, σm, rfl, rfl, good⟩
  rw [if_neg c3, if_neg c3]
  by_cases c4 : x = 4
  · rw [if_pos c4, if_pos c4]; exact ⟨_, σx, σm, rfl, rfl, good⟩
  rw [if_neg c4, if_neg c4]
  by_cases c5 : x = 5
  · rw [if_pos c5, if_pos c5]; exact ⟨_, σx, σm, rfl, rfl, good⟩
  rw [if_neg c5, if_neg c5]
  exact ⟨_, σx, σm, rfl, rfl, good⟩
theorem tf_cast_rec {σx σm : tf_S} {nO p : Nat} (hp : p < 2 ^ 31) (hO : nO ≤ 24) (y4 : σx 4 0 = nI nO) (m24 : σm 0 24 = nI nO) (e : ∀ k, k < nO → σx 29 k = σm 26 k) : ∀ (d k h : Nat) (n n' : Nat), k + d = nO → h ≤ p → d < n → d < n' → ∃ r, fX6_cast_4 (nI p) n σx (nI h) (nI k) = some (r, σx) ∧ fX7_cast_4 (nI p) n' σm (nI (p - h)) (nI k) = some (r, σm) := by
  intro d
  induction d with
  | zero =>
    intro k h n n' hk hh hn hn'
    obtain ⟨m, rfl⟩ : ∃ m, n = m + 1 := ⟨n - 1, by omega⟩
    obtain ⟨m', rfl⟩ : ∃ m, n' = m + 1 := ⟨n' - 1, by omega⟩
    refine ⟨-1, ?_, ?_⟩
    · rw [fX6_cast_4, y4, if_pos (nI_le (by omega) (by omega))]
    · rw [fX7_cast_4, m24, if_pos (nI_le (by omega) (by omega))]
  | succ d ih =>
    intro k h n n' hk hh hn hn'
    obtain ⟨m, rfl⟩ : ∃ m, n = m + 1 := ⟨n - 1, by omega⟩
    obtain ⟨m', rfl⟩ : ∃ m, n' = m + 1 := ⟨n' - 1, by omega⟩
    have nle : ¬ nI nO ≤ nI k := nI_ge (by omega) (by omega)
    have jk : tf_inb (nI k) 24 = true := tf_ib (show k < 24 by omega) (by decide)
    rw [fX6_cast_4, y4, if_neg nle, if_pos jk, fX7_cast_4, m24, if_neg nle, if_neg (nI_pos (show p - h < 2 ^ 31 by omega)), if_pos jk, nI_clamp (show k < 2 ^ 31 by omega), e k (by omega)]
    simp only [tf_gle, nI_1]
    by_cases c : σm 26 k = 0
    · rw [if_pos c, if_pos c]
      exact ih (k + 1) h m m' (by omega) hh (by omega) (by omega)
    · rw [if_neg c, if_neg c]
      by_cases hp' : h = p
      · subst hp'
        rw [if_pos rfl, Nat.sub_self, if_pos (show nI 0 = (0 : Int32) from rfl)]
        exact ⟨nI k, rfl, rfl⟩
      · rw [if_neg (fun q => hp' ((nI_eq (by omega) (by omega)).mp q)), if_neg (nI_ne0 (show 0 < p - h by omega) (by omega)), tf_pred' (show 1 ≤ p - h by omega), show p - h - 1 = p - (h + 1) by omega]
        exact ih (k + 1) (h + 1) m m' (by omega) (by omega) (by omega) (by omega)
theorem tf_cast_neg {σx : tf_S} {nO : Nat} {x : Int32} (hx : x < 0) (hO : nO ≤ 24) (y4 : σx 4 0 = nI nO) : ∀ (d k h : Nat) (n : Nat), k + d = nO → h ≤ k → d < n → fX6_cast_4 x n σx (nI h) (nI k) = some (-1, σx) := by
  intro d
  induction d with
  | zero =>
    intro k h n hk hh hn
    obtain ⟨m, rfl⟩ : ∃ m, n = m + 1 := ⟨n - 1, by omega⟩
    rw [fX6_cast_4, y4, if_pos (nI_le (by omega) (by omega))]
  | succ d ih =>
    intro k h n hk hh hn
    obtain ⟨m, rfl⟩ : ∃ m, n = m + 1 := ⟨n - 1, by omega⟩
    have nle : ¬ nI nO ≤ nI k := nI_ge (by omega) (by omega)
    have jk : tf_inb (nI k) 24 = true := tf_ib (show k < 24 by omega) (by decide)
    rw [fX6_cast_4, y4, if_neg nle, if_pos jk, if_neg (show ¬ nI h = x from fun q => by
      rw [← q] at hx
      exact nI_pos (show h < 2 ^ 31 by omega) hx)]
    simp only [tf_gle, nI_1]
    by_cases c : σx 29 (nI k).toNatClampNeg = 0
    · rw [if_pos c]
      exact ih (k + 1) h m (by omega) (by omega) (by omega)
    · rw [if_neg c]
      exact ih (k + 1) (h + 1) m (by omega) (by omega) (by omega)
theorem ok_cast : tf_OK_cast tf_Rel := fun σx σm ⟨nC, nT, nM, nF, nO, L⟩ x => by
  obtain ⟨W, T, ⟨y2, m11, hM⟩, Mv, ⟨y3, m14, hF⟩, Fv, ⟨y4, m24, hO⟩, O, R⟩ := id L
  have good : tf_Rel σx σm := ⟨nC, nT, nM, nF, nO, L⟩
  unfold fX6_cast fX7_cast
  by_cases hx : x < 0
  · have A := tf_cast_neg hx hO y4 nO 0 0 100000 (by omega) (by omega) (by omega)
    refine ⟨-1, σx, σm, A, ?_, good⟩
    have f : (100000 : Nat) = 99999 + 1 := rfl
    rw [f, fX7_cast_4]
    by_cases c : σm 0 24 ≤ 0
    · rw [if_pos c]
    · rw [if_neg c, if_pos hx]
  · obtain ⟨p, hp, rfl⟩ := nI_of hx
    obtain ⟨r, ex, em⟩ := tf_cast_rec hp hO y4 m24 (fun k hk => (R k hk).2.2.2.1) nO 0 0 100000 100000 (by omega) (by omega) (by omega) (by omega)
    exact ⟨r, σx, σm, ex, em, good⟩
theorem tf_ok_all : tf_OK tf_Rel := ⟨ok_classOf, ok_type, ok_member, ok_function, ok_bound, ok_operator, ok_clear, ok_flow, ok_comes, ok_reason, ok_mayFail, ok_cast, ok_boundTo, ok_goes, ok_common, ok_seen, ok_about, ok_count⟩
theorem tf_rel0 : tf_Rel tf_T0 tf_M0 := by
  refine ⟨1, 7, 0, 0, 0, ⟨⟨by decide, by decide, by decide, by decide, by decide, by decide⟩, fun t ht => ?_, ?_, ?_, fun t ht => ?_, fun t t6 ht => ?_, fun t t' g1 g2 g3 g4 _ _ _ => by omega, ?_, fun k k1 k2 => absurd k1 (by omega)⟩, ⟨by decide, by decide, fun c hc => ?_, fun t ht => ?_⟩, ⟨by decide, by decide, by decide⟩, fun m hm => absurd hm (by omega), ⟨by decide, by decide, by decide⟩, fun f hf => absurd hf (by omega), ⟨by decide, by decide, by decide⟩, fun k hk => absurd hk (by omega), fun k hk => absurd hk (by omega)⟩
  · rcases (show t = 0 ∨ t = 1 ∨ t = 2 ∨ t = 3 ∨ t = 4 ∨ t = 5 by omega) with rfl | rfl | rfl | rfl | rfl | rfl <;> decide
  · decide
  · decide
  · unfold tf_w4
    rcases (show t = 0 ∨ t = 1 ∨ t = 2 ∨ t = 3 ∨ t = 4 ∨ t = 5 ∨ t = 6 by omega) with rfl | rfl | rfl | rfl | rfl | rfl | rfl <;> decide
  · have e : t = 6 := by omega
    subst e
    exact ⟨0, by decide, by decide, Or.inl ⟨by decide, by decide, by decide⟩, by decide⟩
  · decide
  · have e : c = 0 := by omega
    subst e
    decide
  · rcases (show t = 0 ∨ t = 1 ∨ t = 2 ∨ t = 3 ∨ t = 4 ∨ t = 5 ∨ t = 6 by omega) with rfl | rfl | rfl | rfl | rfl | rfl | rfl <;> decide
