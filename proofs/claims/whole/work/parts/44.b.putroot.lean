def tf_val (σ : tf_S) (nT : Nat) (fl : Prop) (x : Int32) : Prop := x = -1 ∨ ∃ r, 4 ≤ r ∧ r < nT ∧ x = nI r ∧ (fl → σ 12 r = 0)
set_option maxHeartbeats 1000000 in
/-- PUTTING IN, on both sides -/
theorem tf_put_sim {σx σm : tf_S} {nC nT t : Nat} {x2 x3 : Int32} (fl : Prop) (h : tf_WF σx nC nT) (hM : tf_TM σx σm nC nT) (ht : t < nT) (v2 : tf_val σx nT fl x2) (v3 : tf_val σx nT fl x3) (b0 : tf_b0 (σx 12 t) → x2 ≠ -1) (b1 : tf_b1 (σx 12 t) → x3 ≠ -1) :
    ∃ (r : Int32) (σx' σm' : tf_S) (nT' : Nat), fX4_putIn σx (nI t) x2 x3 = some (r, σx') ∧ fX7_put σm (nI t) x2 x3 = some (r, σm') ∧ tf_WF σx' nC nT' ∧ tf_TM σx' σm' nC nT' ∧ nT ≤ nT' ∧ tf_Fx σx σx' nT ∧ tf_Fm σm σm' ∧
      (r = -3 ∨ ∃ q, q < nT' ∧ r = nI q ∧ (fl → σx' 12 q = 0) ∧ (4 ≤ t → 4 ≤ q) ∧ (6 ≤ t → 6 ≤ q ∧ σx' 9 q = σx 9 t)) := by
  have hT := h.1.2.1
  have hn := h.1.2.2.2.2.2
  have h7 := h.1.2.2.2.2.1
  have w := h.2.2.1
  have ex := putX_init (x1 := nI t) (x2 := x2) (x3 := x3) hT hn
  obtain ⟨f, hf⟩ : ∃ f, 100000 - nT = f + 1 := ⟨100000 - nT - 1, by omega⟩
  have es := putX_start (S := tf_hs σx 13 (tf_inX σx nT)) (x2 := x2) (x3 := x3) (nT := nT) (t := t) (by rw [tf_hs_o _ _ (by decide)]; exact hT) hn (show t < 80 by omega) f
  rw [hf, es] at ex
  have et := putM_start (S := tf_hs σm 7 (tf_inM σm 80)) (x2 := x2) (x3 := x3) (t := t) 99919
  have em : fX7_put σm (nI t) x2 x3 = (fun G : tf_S → Option (Int32 × tf_S) => G (tf_t7 (tf_hs σm 7 (tf_inM σm 80)) x2 x3 t)) (fun u => fX7_put_48 (nI t) x2 x3 100000 u) := by
    rw [← et]
    unfold fX7_put
    rw [show (0 : Int32) = nI 0 from rfl]
    exact putM_init (by decide)
  obtain ⟨N, hN⟩ : ∃ N : Nat, N = 100000 := ⟨_, rfl⟩
  obtain ⟨K, hK⟩ : ∃ K : Nat, K = 100000 := ⟨_, rfl⟩
  rw [← hN] at ex
  rw [← hK] at em
  dsimp only at ex em
  clear es et
  have k13 : ∀ j, tf_s7 (tf_hs σx 13 (tf_inX σx nT)) x2 x3 (nI t) 13 j = if j = 5 then x3 else if j = 4 then x2 else tf_inX σx nT j := by
    intro j; unfold tf_s7; rw [tf_wr_o _ _ _ (by decide), tf_wr_s, tf_wr_s, tf_hs_s]; rfl
  have k14 : tf_s7 (tf_hs σx 13 (tf_inX σx nT)) x2 x3 (nI t) 14 0 = nI t := by unfold tf_s7; rw [tf_wr_s, pk_us]
  have ko : ∀ c, c ≠ 13 → c ≠ 14 → tf_s7 (tf_hs σx 13 (tf_inX σx nT)) x2 x3 (nI t) c = σx c := by
    intro c c13 c14; unfold tf_s7; rw [tf_wr_o _ _ _ c14, tf_wr_o _ _ _ c13, tf_wr_o _ _ _ c13, tf_hs_o _ _ c13]
  have l7 : ∀ j, tf_t7 (tf_hs σm 7 (tf_inM σm 80)) x2 x3 t 7 j = if j = 5 then x3 else if j = 4 then x2 else tf_inM σm 80 j := by
    intro j; unfold tf_t7 tf_psh; rw [tf_wr_o _ _ _ (by decide), tf_wr_o _ _ _ (by decide), tf_wr_o _ _ _ (by decide), tf_wr_s, tf_wr_s, tf_hs_s]; rfl
  have l8 : tf_t7 (tf_hs σm 7 (tf_inM σm 80)) x2 x3 t 8 0 = nI t := by unfold tf_t7 tf_psh; rw [tf_wr_o _ _ _ (by decide), tf_wr_s, pk_us]
  have l10 : tf_t7 (tf_hs σm 7 (tf_inM σm 80)) x2 x3 t 0 10 = nI 1 := by unfold tf_t7 tf_psh; rw [tf_wr_s, pk_us]
  have l0 : ∀ j, j ≠ 10 → tf_t7 (tf_hs σm 7 (tf_inM σm 80)) x2 x3 t 0 j = σm 0 j := by
    intro j hj; unfold tf_t7 tf_psh; rw [tf_wr_s, pk_un hj, tf_wr_o _ _ _ (by decide), tf_wr_s, pk_un hj, tf_wr_o _ _ _ (by decide), tf_wr_o _ _ _ (by decide), tf_hs_o _ _ (by decide)]
  have lo : ∀ c, c ≠ 0 → c ≠ 7 → c ≠ 8 → tf_t7 (tf_hs σm 7 (tf_inM σm 80)) x2 x3 t c = σm c := by
    intro c c0 c7 c8; unfold tf_t7 tf_psh; rw [tf_wr_o _ _ _ c0, tf_wr_o _ _ _ c8, tf_wr_o _ _ _ c0, tf_wr_o _ _ _ c7, tf_wr_o _ _ _ c7, tf_hs_o _ _ c7]
  generalize tf_s7 (tf_hs σx 13 (tf_inX σx nT)) x2 x3 (nI t) = σ0 at ex k13 k14 ko
  generalize tf_t7 (tf_hs σm 7 (tf_inM σm 80)) x2 x3 t = τ0 at em l7 l8 l10 l0 lo
  have W0 : tf_WF σ0 nC nT := tf_WF_cong h (ko 1 (by decide) (by decide)) (ko 7 (by decide) (by decide)) (ko 8 (by decide) (by decide)) (ko 9 (by decide) (by decide)) (ko 10 (by decide) (by decide)) (ko 11 (by decide) (by decide)) (ko 12 (by decide) (by decide))
  have T0' : tf_TM σ0 τ0 nC nT := by
    obtain ⟨m1, m2, m3, m4⟩ := hM
    refine ⟨(l0 0 (by decide)).trans m1, (l0 3 (by decide)).trans m2, fun k hk => ?_, fun k hk => ?_⟩
    · rw [lo 1 (by decide) (by decide) (by decide), lo 2 (by decide) (by decide) (by decide), ko 7 (by decide) (by decide), ko 8 (by decide) (by decide)]; exact m3 k hk
    · rw [lo 3 (by decide) (by decide) (by decide), lo 4 (by decide) (by decide) (by decide), lo 5 (by decide) (by decide) (by decide), lo 6 (by decide) (by decide) (by decide), ko 9 (by decide) (by decide), ko 10 (by decide) (by decide), ko 11 (by decide) (by decide), ko 12 (by decide) (by decide)]; exact m4 k hk
  have e12 : σ0 12 = σx 12 := ko 12 (by decide) (by decide)
  have J0 : tf_J fl nT nC nT σ0 τ0 := by
    refine ⟨W0, T0', Nat.le_refl _, fun a ha hz => ?_, fun a ha hz => ?_⟩
    · rw [e12] at hz
      have n5 : a ≠ 5 := fun e => by rw [e, w.2.2.2.2.2] at hz; exact absurd hz (by decide)
      have n4 : a ≠ 4 := fun e => by rw [e, w.2.2.2.2.1] at hz; exact absurd hz (by decide)
      rw [k13, l7, if_neg n5, if_neg n4, if_neg n5, if_neg n4]
      unfold tf_inX tf_inM
      rw [if_pos ha, if_pos hz, if_pos (show a < 80 by omega)]
      exact ⟨rfl, Or.inl rfl⟩
    · rw [e12] at hz ⊢
      rw [k13, l7, ko 9 (by decide) (by decide)]
      by_cases n5 : a = 5
      · rw [if_pos n5, if_pos n5]
        exact ⟨rfl, v3.imp id (fun ⟨r, r1, r2, r3, r4⟩ => ⟨r, r1, r2, r3, r4, fun q => absurd q (by omega)⟩)⟩
      · rw [if_neg n5, if_neg n5]
        by_cases n4 : a = 4
        · rw [if_pos n4, if_pos n4]
          exact ⟨rfl, v2.imp id (fun ⟨r, r1, r2, r3, r4⟩ => ⟨r, r1, r2, r3, r4, fun q => absurd q (by omega)⟩)⟩
        · rw [if_neg n4, if_neg n4]
          unfold tf_inX tf_inM
          rw [if_pos ha, if_neg hz, if_pos (show a < 80 by omega)]
          exact ⟨rfl, Or.inl rfl⟩
  have F0 : tf_Fx σx σ0 nT := ⟨fun c _ _ _ _ _ c13 c14 => ko c c13 c14, by rw [ko 1 (by decide) (by decide)], fun t _ => by rw [ko 9 (by decide) (by decide), ko 10 (by decide) (by decide), ko 11 (by decide) (by decide), e12]; exact ⟨rfl, rfl, rfl, rfl⟩⟩
  have G0 : tf_Fm σm τ0 := ⟨fun c c0 _ _ _ _ c7 c8 => lo c c0 c7 c8, fun j _ j10 => l0 j j10⟩
  by_cases hz : σx 12 t = 0
  · -- a closed one: itself
    have c1 := (J0.2.2.2.1 t ht (by rw [e12]; exact hz)).1
    have n5 : t ≠ 5 := fun e => by rw [e, w.2.2.2.2.2] at hz; exact absurd hz (by decide)
    have n4 : t ≠ 4 := fun e => by rw [e, w.2.2.2.2.1] at hz; exact absurd hz (by decide)
    rw [if_neg (by rw [c1]; exact tf_m1ne t (by omega)), show N = N - 1 + 1 by omega, putX_exit (by omega), c1] at ex
    have e6 : τ0 6 t = 0 := by rw [(T0'.2.2.2 t ht).2.2.2, e12]; exact hz
    rw [show K = K - 2 + 1 + 1 by omega, stepM_closed (g := 1) (by decide) (by decide) l10 l8 n4 n5 (by omega) e6, putM_exit (σ := tf_wr (tf_wr τ0 7 t (nI t)) 0 10 (nI (1 - 1))) (by rw [tf_wr_s, pk_us]) (by omega), tf_wr_o _ _ _ (by decide), tf_wr_s, pk_us] at em
    refine ⟨nI t, σ0, _, nT, ex, em, W0, ?_, Nat.le_refl _, F0, ?_, Or.inr ⟨t, ht, rfl, fun _ => by rw [e12]; exact hz, id, fun q => ⟨q, by rw [ko 9 (by decide) (by decide)]⟩⟩⟩
    · obtain ⟨m1, m2, m3, m4⟩ := T0'
      refine ⟨?_, ?_, fun k hk => ?_, fun k hk => ?_⟩
      · rw [tf_wr_s, pk_un (by decide), tf_wr_o _ _ _ (by decide)]; exact m1
      · rw [tf_wr_s, pk_un (by decide), tf_wr_o _ _ _ (by decide)]; exact m2
      · rw [tf_wr_o _ _ _ (by decide), tf_wr_o _ _ _ (by decide), tf_wr_o _ _ _ (by decide), tf_wr_o _ _ _ (by decide)]; exact m3 k hk
      · simp only [tf_wr_o, ne_eq, Nat.reduceEqDiff, not_false_eq_true]; exact m4 k hk
    · refine G0.tr ⟨fun c c0 _ _ _ _ c7 _ => by rw [tf_wr_o _ _ _ c0, tf_wr_o _ _ _ c7], fun j _ j10 => by rw [tf_wr_s, pk_un j10, tf_wr_o _ _ _ (by decide)]⟩
  · rcases Nat.lt_or_ge t 6 with t6 | t6
    · -- a variable: what it is bound to
      have hv : t = 4 ∨ t = 5 := by
        rcases (show t = 0 ∨ t = 1 ∨ t = 2 ∨ t = 3 ∨ t = 4 ∨ t = 5 by omega) with e | e | e | e | e | e
        · rw [e] at hz; exact absurd w.1 hz
        · rw [e] at hz; exact absurd w.2.1 hz
        · rw [e] at hz; exact absurd w.2.2.1 hz
        · rw [e] at hz; exact absurd w.2.2.2.1 hz
        · exact Or.inl e
        · exact Or.inr e
      have hne : σ0 13 t ≠ -1 := by
        rw [k13]
        rcases hv with rfl | rfl
        · exact b0 (by rw [w.2.2.2.2.1]; exact Or.inl rfl)
        · exact b1 (by rw [w.2.2.2.2.2]; exact Or.inl rfl)
      obtain ⟨j1, j2⟩ := J0.2.2.2.2 t ht (by rw [e12]; exact hz)
      rw [if_neg hne, show N = N - 1 + 1 by omega, putX_exit (by omega)] at ex
      rw [show K = K - 2 + 1 + 1 by omega, putM_var l10 l8 hv, putM_exit (σ := tf_wr τ0 0 10 (nI 0)) (by rw [tf_wr_s, pk_us]) (by omega), tf_wr_o _ _ _ (by decide), ← j1] at em
      obtain ⟨r, r1, r2, r3, r4, -⟩ := j2.resolve_left hne
      refine ⟨σ0 13 t, σ0, _, nT, ex, em, W0, ?_, Nat.le_refl _, F0, ?_, Or.inr ⟨r, r2, r3, r4, fun _ => r1, fun q => absurd q (by omega)⟩⟩
      · obtain ⟨m1, m2, m3, m4⟩ := T0'
        refine ⟨?_, ?_, fun k hk => ?_, fun k hk => ?_⟩
        · rw [tf_wr_s, pk_un (by decide)]; exact m1
        · rw [tf_wr_s, pk_un (by decide)]; exact m2
        · rw [tf_wr_o _ _ _ (by decide), tf_wr_o _ _ _ (by decide)]; exact m3 k hk
        · simp only [tf_wr_o, ne_eq, Nat.reduceEqDiff, not_false_eq_true]; exact m4 k hk
      · refine G0.tr ⟨fun c c0 _ _ _ _ _ _ => by rw [tf_wr_o _ _ _ c0], fun j _ j10 => by rw [tf_wr_s, pk_un j10]⟩
    · -- an open class type
      have c0 : σ0 13 t = -1 := by
        rw [k13, if_neg (by omega), if_neg (by omega)]
        unfold tf_inX
        rw [if_pos ht, if_neg hz]
      rw [if_pos c0] at ex
      have ct := tf_cnt_le σ0 t
      obtain ⟨σ1, τ1, n1, kx, km, J1, l1, M1, -, res⟩ := tf_put_rec (x1 := nI t) (x2 := x2) (x3 := x3) (fl := fl) (T0 := nT) (nC := nC) t σ0 τ0 nT 1 1 0 J0 t6 ht (by rw [e12]; exact hz) c0 (fun q => by rw [e12] at q; rw [k13]; exact b0 q) (fun q => by rw [e12] at q; rw [k13]; exact b1 q) (Nat.le_refl _) (by omega) (Nat.le_refl _) (by omega) l10 k14 l8 (by omega)
      have F1 := F0.tr M1.1 (Nat.le_refl _)
      have G1 := G0.tr M1.2.1
      rcases res with ⟨r1, r2, r3, r4, r5⟩ | ⟨r3, r4, r5⟩
      · obtain ⟨i, hi⟩ : ∃ i, N = i + 1 + kx := ⟨N - 1 - kx, by omega⟩
        obtain ⟨j, hj⟩ : ∃ j, K = j + 1 + km := ⟨K - 1 - km, by omega⟩
        rw [hi, (r5 (i + 1)).1, show (1 : Nat) - 1 = 0 from rfl, putX_exit (by omega)] at ex
        rw [hj, (r5 (j + 1)).2, putM_exit r2 (by omega)] at em
        have e12' : σ1 12 t ≠ 0 := by rw [(F1.2.2 t ht).2.2.2]; exact hz
        obtain ⟨j1, j2⟩ := J1.2.2.2.2 t ht e12'
        obtain ⟨r, q1, q2, q3, q4, q5⟩ := j2.resolve_left r1
        rw [← j1] at em
        exact ⟨σ1 13 t, σ1, τ1, n1, ex, em, J1.1, J1.2.1, l1, F1, G1, Or.inr ⟨r, q2, q3, q4, fun _ => q1, fun q => ⟨(q5 q).1, by rw [(q5 q).2, (F1.2.2 t ht).1]⟩⟩⟩
      · obtain ⟨i, hi⟩ : ∃ i, N = i + kx := ⟨N - kx, by omega⟩
        obtain ⟨j, hj⟩ : ∃ j, K = j + km := ⟨K - km, by omega⟩
        rw [hi, (r5 i).1] at ex
        rw [hj, (r5 j).2] at em
        exact ⟨-3, σ1, τ1, n1, ex, em, J1.1, J1.2.1, l1, F1, G1, Or.inl rfl⟩
