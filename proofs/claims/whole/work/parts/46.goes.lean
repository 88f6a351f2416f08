/-! pure part 7: goes for, common -/
theorem widens_eq (σ : tf_S) (x y : Int32) : fX6_widens σ x y = some (if x = 1 ∧ (y = 2 ∨ y = 3) then 1 else 0, σ) := by
  unfold fX6_widens
  by_cases a : x = 1 <;> by_cases b : y = 2 <;> by_cases c : y = 3 <;> simp [a, b, c]
theorem primX_eq (σ : tf_S) {t : Nat} (ht : t < 2 ^ 31) : fX6_isPrimitive σ (nI t) = some (if t < 4 then 1 else 0, σ) := by
  unfold fX6_isPrimitive
  rw [if_neg (nI_pos ht)]
  by_cases a : t < 4
  · rw [if_neg (show ¬ (3 : Int32) < nI t from nI_nlt (a := 3) (b := t) (by omega) (by decide)), if_pos a]
  · rw [if_pos (show (3 : Int32) < nI t from nI_lt (a := 3) (by omega) ht), if_neg a]
theorem primM_eq (σ : tf_S) {t : Nat} (ht : t < 2 ^ 31) : fX7_isPrimitive σ (nI t) = some (if t < 4 then 1 else 0, σ) := by
  unfold fX7_isPrimitive
  by_cases a : t < 4
  · rw [if_neg (show ¬ (4 : Int32) ≤ nI t from nI_ge (b := 4) a (by decide)), if_pos a]
  · rw [if_pos (show (4 : Int32) ≤ nI t from nI_le (a := 4) (by omega) ht), if_neg a]
/-- a closed type: a primitive, or a class type -/
theorem tf_closed {σ : tf_S} {nC nT t : Nat} (W : tf_WF σ nC nT) (h : σ 12 t = 0) : t < 4 ∨ 6 ≤ t := by
  rcases (show t < 4 ∨ t = 4 ∨ t = 5 ∨ 6 ≤ t by omega) with e | e | e | e
  · exact Or.inl e
  · rw [e, W.2.2.1.2.2.2.2.1] at h; exact absurd h (by decide)
  · rw [e, W.2.2.1.2.2.2.2.2] at h; exact absurd h (by decide)
  · exact Or.inr e
theorem tf_n3 {q : Nat} (h : q < 2 ^ 31) : ¬ nI q = -3 := fun e => by
  have hz := nI_pos' h
  rw [e] at hz
  exact absurd hz (by decide)
theorem goesM_21 (σ : tf_S) (x y : Int32) : fX7_goesFor_21 x y σ = some (if x = 1 ∧ (y = 2 ∨ y = 3) then 1 else 0, σ) := by
  unfold fX7_goesFor_21
  by_cases a : x = 1 <;> by_cases b : y = 2 <;> by_cases c : y = 3 <;> simp [a, b, c]
/-- GOES FOR, on both sides -/
theorem tf_goes_sim {σx σm : tf_S} {nC nT a b : Nat} (W : tf_WF σx nC nT) (T : tf_TM σx σm nC nT) (ha : a < nT) (hb : b < nT) (ca : σx 12 a = 0) (cb : σx 12 b = 0) :
    ∃ (r : Int32) (σx' σm' : tf_S) (nT' : Nat), fX4_goesFor σx (nI a) (nI b) = some (r, σx') ∧ fX7_goesFor σm (nI a) (nI b) = some (r, σm') ∧ tf_WF σx' nC nT' ∧ tf_TM σx' σm' nC nT' ∧ nT ≤ nT' ∧ tf_Fx σx σx' nT ∧ tf_Fm σm σm' ∧ (r = -3 ∨ r = 0 ∨ r = 1) := by
  have hn := W.1.2.2.2.2.2
  by_cases e : nI a = nI b
  · refine ⟨1, σx, σm, nT, ?_, ?_, W, T, Nat.le_refl _, tf_Fx.rf, tf_Fm.rf, Or.inr (Or.inr rfl)⟩
    · unfold fX4_goesFor; rw [if_pos e]
    · unfold fX7_goesFor; rw [if_pos e]
  · by_cases prim : a < 4 ∨ b < 4
    · -- with a primitive
      refine ⟨if nI a = 1 ∧ (nI b = 2 ∨ nI b = 3) then 1 else 0, σx, σm, nT, ?_, ?_, W, T, Nat.le_refl _, tf_Fx.rf, tf_Fm.rf, ?_⟩
      · unfold fX4_goesFor
        rw [if_neg e, widens_eq, tf_bse]
        by_cases w : nI a = 1 ∧ (nI b = 2 ∨ nI b = 3)
        · rw [if_pos w]; simp
        · rw [if_neg w]
          simp only [if_true]
          rw [primX_eq _ (show a < 2 ^ 31 by omega), tf_bse]
          by_cases a4 : a < 4
          · simp [a4]
          · have b4 : b < 4 := prim.resolve_left a4
            simp only [a4, if_false, if_true]
            rw [primX_eq _ (show b < 2 ^ 31 by omega), tf_bse]
            simp [b4]
      · unfold fX7_goesFor
        rw [if_neg e, primM_eq _ (show a < 2 ^ 31 by omega), tf_bse]
        by_cases a4 : a < 4
        · simp [a4, goesM_21]
        · have b4 : b < 4 := prim.resolve_left a4
          simp only [a4, if_false, if_true]
          rw [primM_eq _ (show b < 2 ^ 31 by omega), tf_bse]
          simp [b4, goesM_21]
      · by_cases w : nI a = 1 ∧ (nI b = 2 ∨ nI b = 3)
        · rw [if_pos w]; exact Or.inr (Or.inr rfl)
        · rw [if_neg w]; exact Or.inr (Or.inl rfl)
    · -- two class types
      have a4 : ¬ a < 4 := fun q => prim (Or.inl q)
      have b4 : ¬ b < 4 := fun q => prim (Or.inr q)
      have a6 : 6 ≤ a := (tf_closed W ca).resolve_left a4
      have b6 : 6 ≤ b := (tf_closed W cb).resolve_left b4
      have w : ¬ (nI a = 1 ∧ (nI b = 2 ∨ nI b = 3)) := fun q => by
        have := (nI_eq (a := a) (b := 1) (by omega) (by decide)).mp q.1
        omega
      obtain ⟨c, hc, e9, -, -⟩ := W.2.2.2.2.2.1 b b6 hb
      obtain ⟨r, σ1, τ1, n1, f1, f2, W1, T1, l1, F1, G1, res⟩ := tf_seen_sim True W T a6 ha hc (fun _ => ca)
      have ib : tf_inb (nI b) 80 = true := tf_ib (show b < 80 by omega) (by decide)
      have cbn : (nI b).toNatClampNeg = b := nI_clamp (by omega)
      refine ⟨if r = -3 then -3 else if r = nI b then 1 else 0, σ1, τ1, n1, ?_, ?_, W1, T1, l1, F1, G1, ?_⟩
      · unfold fX4_goesFor
        rw [if_neg e, widens_eq, tf_bse, if_neg w]
        simp only [if_true]
        rw [primX_eq _ (show a < 2 ^ 31 by omega), tf_bse]
        simp only [a4, if_false, if_true]
        rw [primX_eq _ (show b < 2 ^ 31 by omega), tf_bse]
        simp only [b4, if_false, if_true]
        rw [if_pos ib, cbn, e9, f1, tf_bse, tf_gle]
        by_cases q : r = -3
        · rw [if_pos q, if_pos q]
        · rw [if_neg q, if_neg q]
          by_cases q2 : r = nI b
          · rw [if_pos q2, if_pos q2]
          · rw [if_neg q2, if_neg q2]
      · unfold fX7_goesFor
        rw [if_neg e, primM_eq _ (show a < 2 ^ 31 by omega), tf_bse]
        simp only [a4, if_false, if_true]
        rw [primM_eq _ (show b < 2 ^ 31 by omega), tf_bse]
        simp only [b4, if_false, if_true]
        rw [if_pos ib, cbn, (T.2.2.2 b hb).1, e9, f2, tf_bse, tf_gle]
        by_cases q : r = -3
        · rw [if_pos q, if_pos q]
        · rw [if_neg q, if_neg q]
          by_cases q2 : r = nI b
          · rw [if_pos q2, if_pos q2]
          · rw [if_neg q2, if_neg q2]
      · by_cases q : r = -3
        · rw [if_pos q]; exact Or.inl rfl
        · rw [if_neg q]
          by_cases q2 : r = nI b
          · rw [if_pos q2]; exact Or.inr (Or.inr rfl)
          · rw [if_neg q2]; exact Or.inr (Or.inl rfl)
/-- class 0 has one type -/
theorem tf_any {σ : tf_S} {nC nT q : Nat} (W : tf_WF σ nC nT) (h6 : 6 ≤ q) (hq : q < nT) (e : σ 9 q = nI 0) : q = 6 := by
  have hnC := W.1.2.2.2.1
  obtain ⟨s1, s2, s3⟩ := W.2.2.2.1
  obtain ⟨c, hc, e9, ar, -⟩ := W.2.2.2.2.2.1 q h6 hq
  have c0 : c = 0 := (nI_eq (by omega) (by decide)).mp (e9.symm.trans e)
  subst c0
  have v0 := W.2.2.2.2.2.2.2.1.1
  rcases ar with ⟨-, q2, q3⟩ | ⟨q1, -⟩ | ⟨q1, -⟩
  · exact W.2.2.2.2.2.2.1 q 6 h6 hq (by omega) (by have := W.1.2.2.2.2.1; omega) (e.trans s1.symm) (q2.trans s2.symm) (q3.trans s3.symm)
  · rw [v0] at q1; exact absurd q1 (by decide)
  · rw [v0] at q1; exact absurd q1 (by decide)
set_option maxHeartbeats 1000000 in
theorem tf_common_rec {nC a b : Nat} {x2 : Int32} : ∀ (c : Nat) (σx σm : tf_S) (nT st : Nat), tf_WF σx nC nT → tf_TM σx σm nC nT → 6 ≤ a → a < nT → 6 ≤ b → b < nT → σx 12 a = 0 → σx 12 b = 0 → c < nC → st + c ≤ 11 →
    ∃ (r : Int32) (σx' σm' : tf_S) (nT' : Nat), (∃ k, k ≤ c + 1 ∧ ∀ m, fX4_commonOf_51 (nI a) (nI b) (m + k) σx (nI c) (nI st) = some (r, σx')) ∧ (∃ k, k ≤ c + 1 ∧ ∀ m, fX7_commonOf_64 (nI a) (nI b) (m + k) σm (nI c) = some (r, σm')) ∧ tf_WF σx' nC nT' ∧ tf_TM σx' σm' nC nT' ∧ nT ≤ nT' ∧ tf_Fx σx σx' nT ∧ tf_Fm σm σm' ∧ (r = -3 ∨ r = -1 ∨ ∃ q, q < nT' ∧ r = nI q ∧ σx' 12 q = 0) := by
  intro c
  induction c using Nat.strongRecOn with
  | ind c IH =>
  intro σx σm nT st W T a6 ha b6 hb ca cb hc hst
  have hn := W.1.2.2.2.2.2
  have hnC := W.1.2.2.2.1
  have ib : tf_inb (nI b) 80 = true := tf_ib (show b < 80 by omega) (by decide)
  have cbn : (nI b).toNatClampNeg = b := nI_clamp (by omega)
  have i12 : tf_inb (nI c) 12 = true := tf_ib (by omega) (by decide)
  have ccn : (nI c).toNatClampNeg = c := nI_clamp (by omega)
  obtain ⟨cb2, hcb2, e9b, -, -⟩ := W.2.2.2.2.2.1 b b6 hb
  obtain ⟨r0, r01, ra, rz, fx, fm⟩ := tf_from_sim W T hc hcb2
  have hm : ¬ nI c = -1 := tf_m1ne c (by omega)
  have h12 : ¬ (12 : Int32) ≤ nI st := nI_ge (b := 12) (by omega) (by decide)
  -- one level up, from a state that grew
  have up : c ≠ 0 → ∀ (σ1 τ1 : tf_S) (n1 : Nat), tf_WF σ1 nC n1 → tf_TM σ1 τ1 nC n1 → nT ≤ n1 → tf_Fx σx σ1 nT → tf_Fm σm τ1 → ∃ p c', fX4_classAbove σ1 (nI c) = some (nI c', σ1) ∧ τ1 2 c = nI p ∧ tf_inb (nI p) 80 = true ∧ τ1 3 (nI p).toNatClampNeg = nI c' ∧
      ∃ (r : Int32) (σx' σm' : tf_S) (nT' : Nat), (∃ k, k ≤ c ∧ ∀ m, fX4_commonOf_51 (nI a) (nI b) (m + k) σ1 (nI c') (nI (st + 1)) = some (r, σx')) ∧ (∃ k, k ≤ c ∧ ∀ m, fX7_commonOf_64 (nI a) (nI b) (m + k) τ1 (nI c') = some (r, σm')) ∧ tf_WF σx' nC nT' ∧ tf_TM σx' σm' nC nT' ∧ nT ≤ nT' ∧ tf_Fx σx σx' nT ∧ tf_Fm σm σm' ∧ (r = -3 ∨ r = -1 ∨ ∃ q, q < nT' ∧ r = nI q ∧ σx' 12 q = 0) := by
    intro c0 σ1 τ1 n1 W1 T1 l1 F1 G1
    have hn1 := W1.1.2.2.2.2.2
    obtain ⟨-, p, c', p6, pn, cc, e8, e9, -⟩ := W1.2.2.2.2.2.2.2.2 c (by omega) hc
    refine ⟨p, c', ?_, by rw [(T1.2.2.1 c hc).2]; exact e8, tf_ib (show p < 80 by omega) (by decide), by rw [nI_clamp (by omega), (T1.2.2.2 p pn).1]; exact e9, ?_⟩
    · rw [classAbove_eq (by omega) (by omega) e8 (by omega), e9]
    · obtain ⟨r, σ2, τ2, n2, ⟨k, hk, g1⟩, ⟨k2, hk2, g2⟩, W2, T2, l2, F2, G2, res⟩ := IH c' cc σ1 τ1 n1 (st + 1) W1 T1 a6 (by omega) b6 (by omega) (by rw [(F1.2.2 a ha).2.2.2]; exact ca) (by rw [(F1.2.2 b hb).2.2.2]; exact cb) (by omega) (by omega)
      exact ⟨r, σ2, τ2, n2, ⟨k, by omega, g1⟩, ⟨k2, by omega, g2⟩, W2, T2, by omega, F1.tr F2 l1, G1.tr G2, res⟩
  rcases r01 with e0 | e1
  · have c0 : c ≠ 0 := fun q => by have := rz q; rw [e0] at this; exact absurd this (by decide)
    obtain ⟨p, c', u1, u2, u3, u4, r, σ2, τ2, n2, ⟨k, hk, g1⟩, ⟨k2, hk2, g2⟩, W2, T2, l2, F2, G2, res⟩ := up c0 σx σm nT W T (Nat.le_refl _) tf_Fx.rf tf_Fm.rf
    refine ⟨r, σ2, τ2, n2, ⟨k + 1, by omega, fun m => ?_⟩, ⟨k2 + 1, by omega, fun m => ?_⟩, W2, T2, l2, F2, G2, res⟩
    · rw [show m + (k + 1) = m + k + 1 by omega, fX4_commonOf_51, if_neg hm, if_neg h12, if_pos ib, cbn, e9b, fx, tf_bse, if_pos e0, u1, tf_bse, tf_gle, tf_gle, nI_1]
      exact g1 m
    · rw [show m + (k2 + 1) = m + k2 + 1 by omega, fX7_commonOf_64, if_pos ib, cbn, (T.2.2.2 b hb).1, e9b, fm, tf_bse]
      simp only [e0, i12, ccn, u2, u3, if_true, tf_gle, u4]
      exact g2 m
  · have n0 : ¬ r0 = 0 := by rw [e1]; decide
    obtain ⟨ra1, σ1, τ1, n1, f1, f2, W1, T1, l1, F1, G1, res1⟩ := tf_seen_sim True W T a6 ha hc (fun _ => ca)
    by_cases q1 : ra1 = -3
    · refine ⟨-3, σ1, τ1, n1, ⟨1, by omega, fun m => ?_⟩, ⟨1, by omega, fun m => ?_⟩, W1, T1, l1, F1, G1, Or.inl rfl⟩
      · rw [fX4_commonOf_51, if_neg hm, if_neg h12, if_pos ib, cbn, e9b, fx, tf_bse, if_neg n0, f1, tf_bse, tf_gle, if_pos q1]
      · rw [fX7_commonOf_64, if_pos ib, cbn, (T.2.2.2 b hb).1, e9b, fm, tf_bse, if_neg n0, f2, tf_bse, tf_gle, if_pos q1]
        unfold fX7_commonOf_104
        rw [if_pos rfl]
    · obtain ⟨rb, σ2, τ2, n2, h1, h2, W2, T2, l2, F2, G2, res2⟩ := tf_seen_sim True W1 T1 b6 (show b < n1 by omega) hc (fun _ => by rw [(F1.2.2 b hb).2.2.2]; exact cb)
      have F12 := F1.tr F2 l1
      have G12 := G1.tr G2
      have sX : ∀ m, fX4_commonOf_51 (nI a) (nI b) (m + 1) σx (nI c) (nI st) = if rb = -3 then some (rb, σ2) else if rb = ra1 then some (rb, σ2) else (fX4_classAbove σ2 (nI c)).bind fun u35 => tf_gl u35.1 fun v37 => tf_gl (nI st + 1) fun v38 => fX4_commonOf_51 (nI a) (nI b) m u35.2 v37 v38 := by
        intro m
        rw [fX4_commonOf_51, if_neg hm, if_neg h12, if_pos ib, cbn, e9b, fx, tf_bse, if_neg n0, f1, tf_bse, tf_gle, if_neg q1, h1, tf_bse, tf_gle]
      have sM : ∀ m, fX7_commonOf_64 (nI a) (nI b) (m + 1) σm (nI c) = fX7_commonOf_104 (nI a) (nI b) (fX7_commonOf_64 (nI a) (nI b) m) τ2 (nI c) ra1 rb := by
        intro m
        rw [fX7_commonOf_64, if_pos ib, cbn, (T.2.2.2 b hb).1, e9b, fm, tf_bse, if_neg n0, f2, tf_bse, tf_gle, if_neg q1, h2, tf_bse]
      have rv : rb = -3 ∨ rb = -1 ∨ ∃ q, q < n2 ∧ rb = nI q ∧ σ2 12 q = 0 := by
        rcases res2 with q | ⟨q, -⟩ | ⟨q, -, v1, v2, -, v3⟩
        · exact Or.inl q
        · exact Or.inr (Or.inl q)
        · exact Or.inr (Or.inr ⟨q, v1, v2, v3 trivial⟩)
      by_cases q2 : rb = -3
      · refine ⟨rb, σ2, τ2, n2, ⟨1, by omega, fun m => by rw [sX, if_pos q2]⟩, ⟨1, by omega, fun m => ?_⟩, W2, T2, by omega, F12, G12, rv⟩
        rw [sM]; unfold fX7_commonOf_104; rw [if_pos q2]
      · by_cases q3 : rb = ra1
        · refine ⟨rb, σ2, τ2, n2, ⟨1, by omega, fun m => by rw [sX, if_neg q2, if_pos q3]⟩, ⟨1, by omega, fun m => ?_⟩, W2, T2, by omega, F12, G12, rv⟩
          rw [sM]; unfold fX7_commonOf_104; rw [if_neg q2, if_pos q3.symm]
        · have c0 : c ≠ 0 := by
            intro z
            subst z
            have ea : ra1 = nI 6 := by
              rcases res1 with q | ⟨-, q⟩ | ⟨q, v0, v1, v2, v3, -⟩
              · exact absurd q q1
              · exact absurd rfl q
              · rw [v2, tf_any W1 v0 v1 v3]
            have eb : rb = nI 6 := by
              rcases res2 with q | ⟨-, q⟩ | ⟨q, v0, v1, v2, v3, -⟩
              · exact absurd q q2
              · exact absurd rfl q
              · rw [v2, tf_any W2 v0 v1 v3]
            exact q3 (eb.trans ea.symm)
          obtain ⟨p, c', u1, u2, u3, u4, r, σ3, τ3, n3, ⟨k, hk, g1⟩, ⟨k2, hk2, g2⟩, W3, T3, l3, F3, G3, res⟩ := up c0 σ2 τ2 n2 W2 T2 (by omega) F12 G12
          refine ⟨r, σ3, τ3, n3, ⟨k + 1, by omega, fun m => ?_⟩, ⟨k2 + 1, by omega, fun m => ?_⟩, W3, T3, l3, F3, G3, res⟩
          · rw [show m + (k + 1) = m + k + 1 by omega, sX, if_neg q2, if_neg q3, u1, tf_bse, tf_gle, tf_gle, nI_1]
            exact g1 m
          · rw [show m + (k2 + 1) = m + k2 + 1 by omega, sM]
            unfold fX7_commonOf_104
            rw [if_neg q2, if_neg (fun e => q3 e.symm), if_pos i12, ccn, u2, if_pos u3, tf_gle, u4]
            exact g2 m
/-- COMMON, on both sides -/
theorem tf_common_sim {σx σm : tf_S} {nC nT a b : Nat} (W : tf_WF σx nC nT) (T : tf_TM σx σm nC nT) (ha : a < nT) (hb : b < nT) (ca : σx 12 a = 0) (cb : σx 12 b = 0) :
    ∃ (r : Int32) (σx' σm' : tf_S) (nT' : Nat), fX4_commonOf σx (nI a) (nI b) = some (r, σx') ∧ fX7_commonOf σm (nI a) (nI b) = some (r, σm') ∧ tf_WF σx' nC nT' ∧ tf_TM σx' σm' nC nT' ∧ nT ≤ nT' ∧ tf_Fx σx σx' nT ∧ tf_Fm σm σm' ∧ (r = -3 ∨ r = -1 ∨ ∃ q, q < nT' ∧ r = nI q ∧ σx' 12 q = 0) := by
  have hn := W.1.2.2.2.2.2
  have hnC := W.1.2.2.2.1
  by_cases e : nI a = nI b
  · refine ⟨nI a, σx, σm, nT, ?_, ?_, W, T, Nat.le_refl _, tf_Fx.rf, tf_Fm.rf, Or.inr (Or.inr ⟨a, ha, rfl, ca⟩)⟩
    · unfold fX4_commonOf; rw [if_pos e]
    · unfold fX7_commonOf; rw [if_pos e]
  · by_cases prim : a < 4 ∨ b < 4
    · have key : ∀ x y : Int32, x ≠ y → (if y = 1 ∧ (x = 2 ∨ x = 3) then x else if x = 1 ∧ (y = 2 ∨ y = 3) then y else -1) = (if (if x = 1 then y else if y = 1 then x else -1) = 2 then (if x = 1 then y else if y = 1 then x else -1) else if (if x = 1 then y else if y = 1 then x else -1) = 3 then (if x = 1 then y else if y = 1 then x else -1) else -1) := by
        intro x y hne
        by_cases x1 : x = 1
        · have y1 : ¬ y = 1 := fun q => hne (x1.trans q.symm)
          subst x1
          by_cases y2 : y = 2 <;> by_cases y3 : y = 3 <;> simp [y1, y2, y3]
        · by_cases y1 : y = 1
          · subst y1
            by_cases x2 : x = 2 <;> by_cases x3 : x = 3 <;> simp [x1, x2, x3]
          · simp [x1, y1]
      refine ⟨if nI b = 1 ∧ (nI a = 2 ∨ nI a = 3) then nI a else if nI a = 1 ∧ (nI b = 2 ∨ nI b = 3) then nI b else -1, σx, σm, nT, ?_, ?_, W, T, Nat.le_refl _, tf_Fx.rf, tf_Fm.rf, ?_⟩
      · unfold fX4_commonOf
        rw [if_neg e, widens_eq, tf_bse]
        by_cases w : nI b = 1 ∧ (nI a = 2 ∨ nI a = 3)
        · rw [if_pos w, if_pos w]; simp
        · rw [if_neg w, if_neg w]
          simp only [if_true]
          rw [widens_eq, tf_bse]
          by_cases w2 : nI a = 1 ∧ (nI b = 2 ∨ nI b = 3)
          · rw [if_pos w2, if_pos w2]; simp
          · rw [if_neg w2, if_neg w2]
            simp only [if_true]
            rw [primX_eq _ (show a < 2 ^ 31 by omega), tf_bse]
            by_cases a4 : a < 4
            · simp [a4]
            · have b4 : b < 4 := prim.resolve_left a4
              simp only [a4, if_false, if_true]
              rw [primX_eq _ (show b < 2 ^ 31 by omega), tf_bse]
              simp [b4]
      · rw [key _ _ e]
        have c40 : ∀ z : Int32, fX7_commonOf_40 (nI a) (nI b) σm z = some (if z = 2 then z else if z = 3 then z else -1, σm) := by
          intro z
          unfold fX7_commonOf_40
          by_cases z2 : z = 2
          · rw [if_pos z2, if_pos z2]
          · rw [if_neg z2, if_neg z2]
            by_cases z3 : z = 3
            · rw [if_pos z3, if_pos z3]
            · rw [if_neg z3, if_neg z3]
        have br : (if nI a = (1 : Int32) then fX7_commonOf_40 (nI a) (nI b) σm (nI b) else if nI b = (1 : Int32) then fX7_commonOf_40 (nI a) (nI b) σm (nI a) else fX7_commonOf_40 (nI a) (nI b) σm (-1 : Int32)) = some (if (if nI a = 1 then nI b else if nI b = 1 then nI a else -1) = 2 then (if nI a = 1 then nI b else if nI b = 1 then nI a else -1) else if (if nI a = 1 then nI b else if nI b = 1 then nI a else -1) = 3 then (if nI a = 1 then nI b else if nI b = 1 then nI a else -1) else -1, σm) := by
          rw [c40, c40, c40]
          by_cases a1 : nI a = 1
          · simp only [a1, if_true]
          · by_cases b1 : nI b = 1
            · simp only [a1, b1, if_true, if_false]
            · simp only [a1, b1, if_false]
        unfold fX7_commonOf
        rw [if_neg e, primM_eq _ (show a < 2 ^ 31 by omega), tf_bse]
        by_cases a4 : a < 4
        · rw [if_pos a4, if_neg (show ¬ (1 : Int32) = 0 by decide)]; exact br
        · have b4 : b < 4 := prim.resolve_left a4
          rw [if_neg a4, if_pos rfl, primM_eq _ (show b < 2 ^ 31 by omega), tf_bse, if_pos b4, if_neg (show ¬ (1 : Int32) = 0 by decide)]; exact br
      · by_cases w : nI b = 1 ∧ (nI a = 2 ∨ nI a = 3)
        · rw [if_pos w]; exact Or.inr (Or.inr ⟨a, ha, rfl, ca⟩)
        · rw [if_neg w]
          by_cases w2 : nI a = 1 ∧ (nI b = 2 ∨ nI b = 3)
          · rw [if_pos w2]; exact Or.inr (Or.inr ⟨b, hb, rfl, cb⟩)
          · rw [if_neg w2]; exact Or.inr (Or.inl rfl)
    · have a4 : ¬ a < 4 := fun q => prim (Or.inl q)
      have b4 : ¬ b < 4 := fun q => prim (Or.inr q)
      have a6 : 6 ≤ a := (tf_closed W ca).resolve_left a4
      have b6 : 6 ≤ b := (tf_closed W cb).resolve_left b4
      have na1 : ¬ nI a = 1 := fun q => by have := (nI_eq (a := a) (b := 1) (by omega) (by decide)).mp q; omega
      have nb1 : ¬ nI b = 1 := fun q => by have := (nI_eq (a := b) (b := 1) (by omega) (by decide)).mp q; omega
      obtain ⟨c, hc, e9, -, -⟩ := W.2.2.2.2.2.1 a a6 ha
      obtain ⟨r, σ1, τ1, n1, ⟨k, hk, g1⟩, ⟨k2, hk2, g2⟩, W1, T1, l1, F1, G1, res⟩ := tf_common_rec (x2 := 0) c σx σm nT 0 W T a6 ha b6 hb ca cb hc (by omega)
      have ia : tf_inb (nI a) 80 = true := tf_ib (show a < 80 by omega) (by decide)
      have can : (nI a).toNatClampNeg = a := nI_clamp (by omega)
      refine ⟨r, σ1, τ1, n1, ?_, ?_, W1, T1, l1, F1, G1, res⟩
      · unfold fX4_commonOf
        rw [if_neg e, widens_eq, tf_bse]
        dsimp only
        rw [if_neg (show ¬ (nI b = 1 ∧ (nI a = 2 ∨ nI a = 3)) from fun q => nb1 q.1), if_pos rfl, widens_eq, tf_bse]
        dsimp only
        rw [if_neg (show ¬ (nI a = 1 ∧ (nI b = 2 ∨ nI b = 3)) from fun q => na1 q.1), if_pos rfl, primX_eq _ (show a < 2 ^ 31 by omega), tf_bse]
        dsimp only
        rw [if_neg a4, if_pos rfl, primX_eq _ (show b < 2 ^ 31 by omega), tf_bse]
        dsimp only
        rw [if_neg b4, if_pos rfl, if_pos ia, can, e9, tf_gle, show (100000 : Nat) = (100000 - k) + k by omega]
        exact g1 _
      · unfold fX7_commonOf
        rw [if_neg e, primM_eq _ (show a < 2 ^ 31 by omega), tf_bse]
        dsimp only
        rw [if_neg a4, if_pos rfl, primM_eq _ (show b < 2 ^ 31 by omega), tf_bse]
        dsimp only
        rw [if_neg b4, if_pos rfl, if_pos ia, can, (T.2.2.2 a ha).1, e9, tf_gle, show (100000 : Nat) = (100000 - k2) + k2 by omega]
        exact g2 _
