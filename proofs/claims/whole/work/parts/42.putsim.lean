/-! pure part 3: putting in, both sides together -/
def tf_cnt (σ : tf_S) : Nat → Nat
  | 0 => 0
  | t + 1 => tf_cnt σ t + (if 6 ≤ t ∧ σ 12 t ≠ 0 ∧ σ 13 t = -1 then 1 else 0)
theorem tf_cnt_le (σ : tf_S) : ∀ t, tf_cnt σ t ≤ t - 6 := by
  intro t
  induction t with
  | zero => exact Nat.le_refl _
  | succ t ih =>
    rw [tf_cnt]
    by_cases h : 6 ≤ t ∧ σ 12 t ≠ 0 ∧ σ 13 t = -1
    · rw [if_pos h]; omega
    · rw [if_neg h]; omega
theorem tf_cnt_up (σ : tf_S) {a t : Nat} (h : a ≤ t) : tf_cnt σ a ≤ tf_cnt σ t := by
  induction t with
  | zero => rw [show a = 0 by omega]; exact Nat.le_refl _
  | succ t ih =>
    rcases Nat.lt_or_ge t a with q | q
    · rw [show a = t + 1 by omega]; exact Nat.le_refl _
    · have := ih q
      rw [tf_cnt]; omega
theorem tf_cnt_mono {σ σ' : tf_S} {T0 : Nat} (hi : ∀ i, i < T0 → 6 ≤ i → σ' 12 i ≠ 0 → σ' 13 i = -1 → σ 12 i ≠ 0 ∧ σ 13 i = -1) {a t : Nat} (h : a ≤ t) (ht : t ≤ T0) : tf_cnt σ' t + tf_cnt σ a ≤ tf_cnt σ t + tf_cnt σ' a := by
  induction t with
  | zero => rw [show a = 0 by omega]; exact Nat.le_refl _
  | succ t ih =>
    rcases Nat.lt_or_ge t a with q | q
    · rw [show a = t + 1 by omega]; omega
    · have := ih q (by omega)
      rw [tf_cnt, tf_cnt]
      by_cases c : 6 ≤ t ∧ σ' 12 t ≠ 0 ∧ σ' 13 t = -1
      · rw [if_pos c, if_pos (show 6 ≤ t ∧ σ 12 t ≠ 0 ∧ σ 13 t = -1 from ⟨c.1, hi t (by omega) c.1 c.2.1 c.2.2⟩)]; omega
      · rw [if_neg c]; omega
theorem tf_cnt_eq {σ σ' : tf_S} (h12 : σ' 12 = σ 12) (h13 : σ' 13 = σ 13) (t : Nat) : tf_cnt σ' t = tf_cnt σ t := by
  induction t with
  | zero => rfl
  | succ t ih => rw [tf_cnt, tf_cnt, ih, h12, h13]
theorem tf_WF_cong {σ σ' : tf_S} {nC nT : Nat} (h : tf_WF σ nC nT) (e1 : σ' 1 = σ 1) (e7 : σ' 7 = σ 7) (e8 : σ' 8 = σ 8) (e9 : σ' 9 = σ 9) (e10 : σ' 10 = σ 10) (e11 : σ' 11 = σ 11) (e12 : σ' 12 = σ 12) : tf_WF σ' nC nT := by
  unfold tf_WF tf_TY tf_CL tf_AR tf_wi at h ⊢
  rw [e1, e7, e8, e9, e10, e11, e12]
  exact h
def tf_b0 (x : Int32) : Prop := x = 1 ∨ x = 3
def tf_b1 (x : Int32) : Prop := x = 2 ∨ x = 3
theorem tf_b_or {x y : Int32} (hx : tf_w4 x) (hy : tf_w4 y) : (tf_b0 x → tf_b0 (x ||| y)) ∧ (tf_b1 x → tf_b1 (x ||| y)) ∧ (tf_b0 y → tf_b0 (x ||| y)) ∧ (tf_b1 y → tf_b1 (x ||| y)) := by
  unfold tf_b0 tf_b1
  rcases hx with rfl | rfl | rfl | rfl <;> rcases hy with rfl | rfl | rfl | rfl <;> decide
theorem tf_bits {σ : tf_S} {nC nT t a : Nat} (h : tf_WF σ nC nT) (h6 : 6 ≤ t) (ht : t < nT) (ha : a < t) (e : σ 10 t = nI a ∨ σ 11 t = nI a) : (tf_b0 (σ 12 a) → tf_b0 (σ 12 t)) ∧ (tf_b1 (σ 12 a) → tf_b1 (σ 12 t)) := by
  have hn := h.1.2.2.2.2.2
  obtain ⟨c, -, -, ar, ew⟩ := h.2.2.2.2.2.1 t h6 ht
  have w4 : ∀ x : Int32, (x = -1 ∨ ∃ a, 4 ≤ a ∧ a < t ∧ x = nI a) → tf_w4 (tf_wi σ x) := by
    intro x hx
    rcases hx with rfl | ⟨a, h4a, ha, rfl⟩
    · rw [tf_wi_n]; exact Or.inl rfl
    · rw [tf_wi_I _ (by omega)]; exact h.2.2.2.2.1 a (by omega)
  have o := tf_b_or (w4 _ ar.args.1) (w4 _ ar.args.2)
  rw [ew]
  rcases e with e | e
  · have q : σ 12 a = tf_wi σ (σ 10 t) := by rw [e, tf_wi_I _ (by omega)]
    rw [q]; exact ⟨o.1, o.2.1⟩
  · have q : σ 12 a = tf_wi σ (σ 11 t) := by rw [e, tf_wi_I _ (by omega)]
    rw [q]; exact ⟨o.2.2.1, o.2.2.2⟩
/-- tables alike, memos alike -/
def tf_J (fl : Prop) (T0 nC nT : Nat) (σx σm : tf_S) : Prop :=
  tf_WF σx nC nT ∧ tf_TM σx σm nC nT ∧ T0 ≤ nT ∧
  (∀ a, a < T0 → σx 12 a = 0 → σx 13 a = nI a ∧ (σm 7 a = -1 ∨ σm 7 a = nI a)) ∧
  (∀ a, a < T0 → σx 12 a ≠ 0 → σx 13 a = σm 7 a ∧ (σx 13 a = -1 ∨ ∃ r, 4 ≤ r ∧ r < nT ∧ σx 13 a = nI r ∧ (fl → σx 12 r = 0) ∧ (6 ≤ a → 6 ≤ r ∧ σx 9 r = σx 9 a)))
def tf_Mv (T0 nT h g : Nat) (σx σm σx' σm' : tf_S) : Prop :=
  tf_Fx σx σx' nT ∧ tf_Fm σm σm' ∧ (∀ i, i < h → σx' 14 i = σx 14 i) ∧ (∀ i, i < g → σm' 8 i = σm 8 i) ∧ (∀ a, a < T0 → σx 13 a ≠ -1 → σx' 13 a = σx 13 a) ∧ (∀ a, a < T0 → σm 7 a ≠ -1 → σm' 7 a = σm 7 a)
theorem tf_Mv.rf {T0 nT h g : Nat} {σx σm : tf_S} : tf_Mv T0 nT h g σx σm σx σm := ⟨tf_Fx.rf, tf_Fm.rf, fun _ _ => rfl, fun _ _ => rfl, fun _ _ _ => rfl, fun _ _ _ => rfl⟩
theorem tf_Mv.tr {T0 n1 n2 h h2 g g2 : Nat} {a b c d e f : tf_S} (p : tf_Mv T0 n1 h g a b c d) (q : tf_Mv T0 n2 h2 g2 c d e f) (hn : n1 ≤ n2) (hh : h ≤ h2) (hg : g ≤ g2) : tf_Mv T0 n1 h g a b e f := by
  obtain ⟨p1, p2, p3, p4, p5, p6⟩ := p
  obtain ⟨q1, q2, q3, q4, q5, q6⟩ := q
  refine ⟨p1.tr q1 hn, p2.tr q2, fun i hi => (q3 i (by omega)).trans (p3 i hi), fun i hi => (q4 i (by omega)).trans (p4 i hi), fun i hi hne => ?_, fun i hi hne => ?_⟩
  · have e := p5 i hi hne
    exact (q5 i hi (by rw [e]; exact hne)).trans e
  · have e := p6 i hi hne
    exact (q6 i hi (by rw [e]; exact hne)).trans e
def tf_PS (x1 x2 x3 : Int32) (fl : Prop) (T0 nC t : Nat) : Prop :=
  ∀ (σx σm : tf_S) (nT h g st : Nat), tf_J fl T0 nC nT σx σm → 6 ≤ t → t < T0 → σx 12 t ≠ 0 → σx 13 t = -1 → (tf_b0 (σx 12 t) → σx 13 4 ≠ -1) → (tf_b1 (σx 12 t) → σx 13 5 ≠ -1) → 1 ≤ h → h + t ≤ 80 → 1 ≤ g → g + t ≤ 160 → σm 0 10 = nI g → σx 14 (h - 1) = nI t → σm 8 (g - 1) = nI t → st + 2 * tf_cnt σx t + 1 ≤ 160 →
  ∃ (σx' σm' : tf_S) (nT' kx km : Nat), tf_J fl T0 nC nT' σx' σm' ∧ nT ≤ nT' ∧ tf_Mv T0 nT h g σx σm σx' σm' ∧ (∀ b, t < b → σx' 13 b = σx 13 b ∧ σm' 7 b = σm 7 b) ∧
    ((σx' 13 t ≠ -1 ∧ σm' 0 10 = nI (g - 1) ∧ kx + 2 * tf_cnt σx' t ≤ 2 * tf_cnt σx t + 1 ∧ km + 6 * tf_cnt σx' t ≤ 6 * tf_cnt σx t + 5 ∧ ∀ m, fX4_putIn_82 x1 x2 x3 (m + kx) σx (nI h) (nI st) = fX4_putIn_82 x1 x2 x3 m σx' (nI (h - 1)) (nI (st + kx)) ∧ fX7_put_48 x1 x2 x3 (m + km) σm = fX7_put_48 x1 x2 x3 m σm') ∨
     (kx ≤ 2 * tf_cnt σx t + 1 ∧ km ≤ 6 * tf_cnt σx t + 5 ∧ ∀ m, fX4_putIn_82 x1 x2 x3 (m + kx) σx (nI h) (nI st) = some (-3, σx') ∧ fX7_put_48 x1 x2 x3 (m + km) σm = some (-3, σm')))
theorem tf_Mv.ind {T0 nT h g nC : Nat} {fl : Prop} {σx σm σx' σm' : tf_S} (J : tf_J fl T0 nC nT σx σm) (q : tf_Mv T0 nT h g σx σm σx' σm') : ∀ i, i < T0 → 6 ≤ i → σx' 12 i ≠ 0 → σx' 13 i = -1 → σx 12 i ≠ 0 ∧ σx 13 i = -1 := by
  intro i hi _ h1 h2
  have e := (q.1.2.2 i (by have := J.2.2.1; omega)).2.2.2
  refine ⟨by rw [← e]; exact h1, ?_⟩
  by_cases c : σx 13 i = -1
  · exact c
  · rw [q.2.2.2.2.1 i hi c] at h2; exact absurd h2 c
set_option maxHeartbeats 1000000 in
theorem tf_phase {x1 x2 x3 : Int32} {fl : Prop} {T0 nC t nT h g st : Nat} {σx σm : tf_S} (IH : ∀ t', t' < t → tf_PS x1 x2 x3 fl T0 nC t') (J : tf_J fl T0 nC nT σx σm) (h6 : 6 ≤ t) (ht : t < T0) (x : Int32) (hx : x = -1 ∨ ∃ a, 4 ≤ a ∧ a < t ∧ x = nI a)
    (hb0 : ∀ a, x = nI a → a < t → tf_b0 (σx 12 a) → σx 13 4 ≠ -1) (hb1 : ∀ a, x = nI a → a < t → tf_b1 (σx 12 a) → σx 13 5 ≠ -1)
    (h1 : 1 ≤ h) (hh : h + t ≤ 80) (g1 : 1 ≤ g) (gg : g + t ≤ 160) (eg : σm 0 10 = nI g) (htx : σx 14 (h - 1) = nI t) (hst : st + 2 * tf_cnt σx t + 1 ≤ 160)
    (pX : ∀ a, 6 ≤ a → a < t → x = nI a → σx 13 a = -1 → fX4_argumentWithoutImage σx (nI t) = some (nI a, σx))
    (pM : ∀ a, 6 ≤ a → a < t → x = nI a → σm 7 a = -1 → ∀ m, fX7_put_48 x1 x2 x3 (m + 1) σm = fX7_put_48 x1 x2 x3 m (tf_psh σm g a)) :
    ∃ (σx' σm' : tf_S) (nT' kx km : Nat), tf_J fl T0 nC nT' σx' σm' ∧ nT ≤ nT' ∧ tf_Mv T0 nT h g σx σm σx' σm' ∧ (∀ b, t ≤ b → σx' 13 b = σx 13 b ∧ σm' 7 b = σm 7 b) ∧
    ((tf_rdy (σx' 13) x ∧ tf_rdy (σm' 7) x ∧ σm' 0 10 = nI g ∧ kx + 2 * tf_cnt σx' t ≤ 2 * tf_cnt σx t ∧ km + 6 * tf_cnt σx' t ≤ 6 * tf_cnt σx t + 2 ∧ ∀ m, fX4_putIn_82 x1 x2 x3 (m + kx) σx (nI h) (nI st) = fX4_putIn_82 x1 x2 x3 m σx' (nI h) (nI (st + kx)) ∧ fX7_put_48 x1 x2 x3 (m + km) σm = fX7_put_48 x1 x2 x3 m σm') ∨
     (kx ≤ 2 * tf_cnt σx t ∧ km ≤ 6 * tf_cnt σx t ∧ ∀ m, fX4_putIn_82 x1 x2 x3 (m + kx) σx (nI h) (nI st) = some (-3, σx') ∧ fX7_put_48 x1 x2 x3 (m + km) σm = some (-3, σm'))) := by
  have hn := J.1.1.2.2.2.2.2
  have hT0 := J.2.2.1
  have stay : tf_rdy (σx 13) x → tf_rdy (σm 7) x → ∃ (σx' σm' : tf_S) (nT' kx km : Nat), tf_J fl T0 nC nT' σx' σm' ∧ nT ≤ nT' ∧ tf_Mv T0 nT h g σx σm σx' σm' ∧ (∀ b, t ≤ b → σx' 13 b = σx 13 b ∧ σm' 7 b = σm 7 b) ∧
    ((tf_rdy (σx' 13) x ∧ tf_rdy (σm' 7) x ∧ σm' 0 10 = nI g ∧ kx + 2 * tf_cnt σx' t ≤ 2 * tf_cnt σx t ∧ km + 6 * tf_cnt σx' t ≤ 6 * tf_cnt σx t + 2 ∧ ∀ m, fX4_putIn_82 x1 x2 x3 (m + kx) σx (nI h) (nI st) = fX4_putIn_82 x1 x2 x3 m σx' (nI h) (nI (st + kx)) ∧ fX7_put_48 x1 x2 x3 (m + km) σm = fX7_put_48 x1 x2 x3 m σm') ∨
     (kx ≤ 2 * tf_cnt σx t ∧ km ≤ 6 * tf_cnt σx t ∧ ∀ m, fX4_putIn_82 x1 x2 x3 (m + kx) σx (nI h) (nI st) = some (-3, σx') ∧ fX7_put_48 x1 x2 x3 (m + km) σm = some (-3, σm'))) :=
    fun r1 r2 => ⟨σx, σm, nT, 0, 0, J, Nat.le_refl _, tf_Mv.rf, fun _ _ => ⟨rfl, rfl⟩, Or.inl ⟨r1, r2, eg, by omega, by omega, fun m => ⟨rfl, rfl⟩⟩⟩
  rcases hx with ex | ⟨a, a4, ha, ex⟩
  · exact stay (Or.inl ex) (Or.inl ex)
  rcases Nat.lt_or_ge a 6 with a6 | a6
  · exact stay (Or.inr ⟨a, by omega, ex, Or.inl a6⟩) (Or.inr ⟨a, by omega, ex, Or.inl a6⟩)
  have aT : a < T0 := by omega
  by_cases hc : σx 12 a = 0
  · obtain ⟨c1, c2⟩ := J.2.2.2.1 a aT hc
    have rx : tf_rdy (σx 13) x := Or.inr ⟨a, by omega, ex, Or.inr (by rw [c1]; exact tf_m1ne a (by omega))⟩
    rcases c2 with c2 | c2
    · -- the reference pushes it and takes it off again
      have p1 := pM a a6 ha ex c2
      have e6 : tf_psh σm g a 6 a = 0 := by
        unfold tf_psh
        rw [tf_wr_o _ _ _ (by decide), tf_wr_o _ _ _ (by decide), (J.2.1.2.2.2 a (by omega)).2.2.2]; exact hc
      have p2 := fun m => stepM_closed (x1 := x1) (x2 := x2) (x3 := x3) (σ := tf_psh σm g a) (t := a) (g := g + 1) (by omega) (by omega) (by unfold tf_psh; rw [tf_wr_s, pk_us]) (by unfold tf_psh; rw [tf_wr_o _ _ _ (by decide), tf_wr_s, show g + 1 - 1 = g by omega, pk_us]) (by omega) (by omega) (by omega) e6 m
      rw [show g + 1 - 1 = g by omega] at p2
      have q7 : tf_wr (tf_wr (tf_psh σm g a) 7 a (nI a)) 0 10 (nI g) 7 = upd (σm 7) a (nI a) := by
        unfold tf_psh
        rw [tf_wr_o _ _ _ (by decide), tf_wr_s, tf_wr_o _ _ _ (by decide), tf_wr_o _ _ _ (by decide)]
      have q8 : tf_wr (tf_wr (tf_psh σm g a) 7 a (nI a)) 0 10 (nI g) 8 = upd (σm 8) g (nI a) := by
        unfold tf_psh
        rw [tf_wr_o _ _ _ (by decide), tf_wr_o _ _ _ (by decide), tf_wr_o _ _ _ (by decide), tf_wr_s]
      have q0 : ∀ j, j ≠ 10 → tf_wr (tf_wr (tf_psh σm g a) 7 a (nI a)) 0 10 (nI g) 0 j = σm 0 j := by
        intro j hj
        unfold tf_psh
        rw [tf_wr_s, pk_un hj, tf_wr_o _ _ _ (by decide), tf_wr_s, pk_un hj, tf_wr_o _ _ _ (by decide)]
      have q10 : tf_wr (tf_wr (tf_psh σm g a) 7 a (nI a)) 0 10 (nI g) 0 10 = nI g := by rw [tf_wr_s, pk_us]
      have qo : ∀ c, c ≠ 0 → c ≠ 7 → c ≠ 8 → tf_wr (tf_wr (tf_psh σm g a) 7 a (nI a)) 0 10 (nI g) c = σm c := by
        intro c c0 c7 c8
        unfold tf_psh
        rw [tf_wr_o _ _ _ c0, tf_wr_o _ _ _ c7, tf_wr_o _ _ _ c0, tf_wr_o _ _ _ c8]
      generalize tf_wr (tf_wr (tf_psh σm g a) 7 a (nI a)) 0 10 (nI g) = σn at p2 q7 q8 q0 q10 qo
      refine ⟨σx, σn, nT, 0, 2, ⟨J.1, ?_, hT0, fun b hb hz => ?_, fun b hb hz => ?_⟩, Nat.le_refl _, ⟨tf_Fx.rf, ⟨fun c k0 _ _ _ _ k7 k8 => qo c k0 k7 k8, fun j _ j10 => q0 j j10⟩, fun _ _ => rfl, fun i hi => ?_, fun _ _ _ => rfl, fun b hb hne => ?_⟩, fun b hb => ⟨rfl, by rw [q7, pk_un (by omega)]⟩, Or.inl ⟨rx, Or.inr ⟨a, by omega, ex, Or.inr ?_⟩, q10, by omega, by omega, fun m => ⟨rfl, ?_⟩⟩⟩
      · obtain ⟨m1, m2, m3, m4⟩ := J.2.1
        refine ⟨(q0 0 (by decide)).trans m1, (q0 3 (by decide)).trans m2, fun k hk => ?_, fun k hk => ?_⟩
        · rw [qo 1 (by decide) (by decide) (by decide), qo 2 (by decide) (by decide) (by decide)]; exact m3 k hk
        · rw [qo 3 (by decide) (by decide) (by decide), qo 4 (by decide) (by decide) (by decide), qo 5 (by decide) (by decide) (by decide), qo 6 (by decide) (by decide) (by decide)]; exact m4 k hk
      · obtain ⟨d1, d2⟩ := J.2.2.2.1 b hb hz
        refine ⟨d1, ?_⟩
        rw [q7]
        by_cases e : b = a
        · subst e; rw [pk_us]; exact Or.inr rfl
        · rw [pk_un e]; exact d2
      · obtain ⟨d1, d2⟩ := J.2.2.2.2 b hb hz
        refine ⟨?_, d2⟩
        rw [q7, pk_un (fun e => hz (by rw [e]; exact hc))]; exact d1
      · rw [q8, pk_un (by omega)]
      · rw [q7]
        by_cases e : b = a
        · subst e; exact absurd c2 hne
        · rw [pk_un e]
      · rw [q7, pk_us]; exact tf_m1ne a (by omega)
      · rw [show m + 2 = m + 1 + 1 by omega, p1, p2]
    · exact stay rx (Or.inr ⟨a, by omega, ex, Or.inr (by rw [c2]; exact tf_m1ne a (by omega))⟩)
  · obtain ⟨c1, c2⟩ := J.2.2.2.2 a aT hc
    by_cases pend : σx 13 a = -1
    · have pm : σm 7 a = -1 := by rw [← c1]; exact pend
      have cu : tf_cnt σx (a + 1) = tf_cnt σx a + 1 := by rw [tf_cnt, if_pos ⟨a6, hc, pend⟩]
      have cm := tf_cnt_up σx (show a + 1 ≤ t by omega)
      have sX := fun m => stepX_push (x1 := x1) (x2 := x2) (x3 := x3) h1 (by omega) (show st < 160 by omega) (show t < 80 by omega) (show a < 80 by omega) htx (pX a a6 ha ex pend) m
      have sM := pM a a6 ha ex pm
      have k14 : tf_wr σx 14 h (nI a) 14 = upd (σx 14) h (nI a) := tf_wr_s _ _ _ _
      have ko : ∀ c, c ≠ 14 → tf_wr σx 14 h (nI a) c = σx c := fun c hc => tf_wr_o _ _ _ hc
      have l8 : tf_psh σm g a 8 = upd (σm 8) g (nI a) := by unfold tf_psh; rw [tf_wr_o _ _ _ (by decide), tf_wr_s]
      have l10 : tf_psh σm g a 0 10 = nI (g + 1) := by unfold tf_psh; rw [tf_wr_s, pk_us]
      have l0 : ∀ j, j ≠ 10 → tf_psh σm g a 0 j = σm 0 j := by intro j hj; unfold tf_psh; rw [tf_wr_s, pk_un hj, tf_wr_o _ _ _ (by decide)]
      have lo : ∀ c, c ≠ 0 → c ≠ 8 → tf_psh σm g a c = σm c := by intro c h0 h8; unfold tf_psh; rw [tf_wr_o _ _ _ h0, tf_wr_o _ _ _ h8]
      generalize tf_wr σx 14 h (nI a) = σx1 at sX k14 ko
      generalize tf_psh σm g a = σm1 at sM l8 l10 l0 lo
      have J1 : tf_J fl T0 nC nT σx1 σm1 := by
        refine ⟨tf_WF_cong J.1 (ko 1 (by decide)) (ko 7 (by decide)) (ko 8 (by decide)) (ko 9 (by decide)) (ko 10 (by decide)) (ko 11 (by decide)) (ko 12 (by decide)), ?_, hT0, fun b hb hz => ?_, fun b hb hz => ?_⟩
        · obtain ⟨m1, m2, m3, m4⟩ := J.2.1
          refine ⟨(l0 0 (by decide)).trans m1, (l0 3 (by decide)).trans m2, fun k hk => ?_, fun k hk => ?_⟩
          · rw [lo 1 (by decide) (by decide), lo 2 (by decide) (by decide), ko 7 (by decide), ko 8 (by decide)]; exact m3 k hk
          · rw [lo 3 (by decide) (by decide), lo 4 (by decide) (by decide), lo 5 (by decide) (by decide), lo 6 (by decide) (by decide), ko 9 (by decide), ko 10 (by decide), ko 11 (by decide), ko 12 (by decide)]; exact m4 k hk
        · rw [ko 12 (by decide)] at hz
          rw [ko 13 (by decide), lo 7 (by decide) (by decide)]; exact J.2.2.2.1 b hb hz
        · rw [ko 12 (by decide)] at hz ⊢
          rw [ko 9 (by decide), ko 13 (by decide), lo 7 (by decide) (by decide)]; exact J.2.2.2.2 b hb hz
      have M1 : tf_Mv T0 nT h g σx σm σx1 σm1 := by
        refine ⟨⟨fun c _ _ _ _ _ _ c14 => ko c c14, by rw [ko 1 (by decide)], fun b hb => ?_⟩, ⟨fun c c0 _ _ _ _ _ c8 => lo c c0 c8, fun j _ j10 => l0 j j10⟩, fun i hi => ?_, fun i hi => ?_, fun b hb hne => ?_, fun b hb hne => ?_⟩
        · rw [ko 9 (by decide), ko 10 (by decide), ko 11 (by decide), ko 12 (by decide)]; exact ⟨rfl, rfl, rfl, rfl⟩
        · rw [k14, pk_un (by omega)]
        · rw [l8, pk_un (by omega)]
        · rw [ko 13 (by decide)]
        · rw [lo 7 (by decide) (by decide)]
      have ce : ∀ b, tf_cnt σx1 b = tf_cnt σx b := tf_cnt_eq (ko 12 (by decide)) (ko 13 (by decide))
      obtain ⟨σx2, σm2, nT2, kx, km, J2, n2, M2, K2, res⟩ := IH a ha σx1 σm1 nT (h + 1) (g + 1) (st + 1) J1 a6 aT (by rw [ko 12 (by decide)]; exact hc) (by rw [ko 13 (by decide)]; exact pend) (by rw [ko 12 (by decide), ko 13 (by decide)]; exact hb0 a ex ha) (by rw [ko 12 (by decide), ko 13 (by decide)]; exact hb1 a ex ha) (by omega) (by omega) (by omega) (by omega) l10 (by rw [k14, show h + 1 - 1 = h by omega, pk_us]) (by rw [l8, show g + 1 - 1 = g by omega, pk_us]) (by rw [ce]; omega)
      have M12 := M1.tr M2 (Nat.le_refl _) (by omega) (by omega)
      refine ⟨σx2, σm2, nT2, kx + 1, km + 1, J2, n2, M12, fun b hb => ?_, ?_⟩
      · obtain ⟨k1, k2⟩ := K2 b (by omega)
        rw [k1, k2, ko 13 (by decide), lo 7 (by decide) (by decide)]; exact ⟨rfl, rfl⟩
      rw [ce] at res
      rcases res with ⟨r1, r2, r3, r4, r5⟩ | ⟨r3, r4, r5⟩
      · have r1m : σm2 7 a ≠ -1 := by
          have e12 : σx2 12 a ≠ 0 := by rw [(M12.1.2.2 a (by omega)).2.2.2]; exact hc
          rw [← (J2.2.2.2.2 a aT e12).1]; exact r1
        have cv : tf_cnt σx2 (a + 1) = tf_cnt σx2 a := by rw [tf_cnt, if_neg (fun q => r1 q.2.2)]; rfl
        have mo := tf_cnt_mono (M12.ind J) (show a + 1 ≤ t by omega) (show t ≤ T0 by omega)
        rw [cu, cv] at mo
        refine Or.inl ⟨Or.inr ⟨a, by omega, ex, Or.inr r1⟩, Or.inr ⟨a, by omega, ex, Or.inr r1m⟩, by rw [r2]; rfl, by omega, by omega, fun m => ⟨?_, ?_⟩⟩
        · rw [show m + (kx + 1) = m + kx + 1 by omega, sX, (r5 m).1, show h + 1 - 1 = h by omega, show st + 1 + kx = st + (kx + 1) by omega]
        · rw [show m + (km + 1) = m + km + 1 by omega, sM, (r5 m).2]
      · refine Or.inr ⟨by omega, by omega, fun m => ⟨?_, ?_⟩⟩
        · rw [show m + (kx + 1) = m + kx + 1 by omega, sX, (r5 m).1]
        · rw [show m + (km + 1) = m + km + 1 by omega, sM, (r5 m).2]
    · exact stay (Or.inr ⟨a, by omega, ex, Or.inr pend⟩) (Or.inr ⟨a, by omega, ex, Or.inr (by rw [← c1]; exact pend)⟩)
theorem tf_rdy.mono {f f' : Nat → Int32} {x : Int32} (h : tf_rdy f x) {t : Nat} (hx : x = -1 ∨ ∃ a, 4 ≤ a ∧ a < t ∧ x = nI a) (T0 : Nat) (hT : t ≤ T0) (ht : T0 ≤ 80) (hm : ∀ a, a < T0 → f a ≠ -1 → f' a = f a) : tf_rdy f' x := by
  rcases h with h | ⟨a, ha, e, h⟩
  · exact Or.inl h
  · rcases h with h | h
    · exact Or.inr ⟨a, ha, e, Or.inl h⟩
    · rcases hx with hx | ⟨b, b4, bt, eb⟩
      · exact Or.inl hx
      · have : a = b := (nI_eq (by omega) (by omega)).mp (e.symm.trans eb)
        subst this
        exact Or.inr ⟨a, ha, e, Or.inr (by rw [hm a (by omega) h]; exact h)⟩
theorem tf_rdy.ok {f : Nat → Int32} {x : Int32} (h : tf_rdy f x) : tf_ok80 x := h.imp id (fun ⟨a, ha, e, _⟩ => ⟨a, ha, e⟩)
/-- what stands for a ready argument -/
theorem tf_im_sim {fl : Prop} {T0 nC nT t : Nat} {σx σm : tf_S} (J : tf_J fl T0 nC nT σx σm) (h6 : 6 ≤ t) (ht : t < T0) {x : Int32} (hx : x = -1 ∨ ∃ a, 4 ≤ a ∧ a < t ∧ x = nI a) (hr : tf_rdy (σm 7) x) (hb0 : tf_b0 (σx 12 t) → σx 13 4 ≠ -1) (hb1 : tf_b1 (σx 12 t) → σx 13 5 ≠ -1) (he : σx 10 t = x ∨ σx 11 t = x) :
    tf_im (σx 13) x = tf_im (σm 7) x ∧ ((x = -1 ∧ tf_im (σx 13) x = -1) ∨ ∃ r, 4 ≤ r ∧ r < nT ∧ tf_im (σx 13) x = nI r ∧ (fl → σx 12 r = 0)) := by
  have hn := J.1.1.2.2.2.2.2
  have hT0 := J.2.2.1
  have w := J.1.2.2.1
  rcases hx with rfl | ⟨a, a4, at', rfl⟩
  · exact ⟨rfl, Or.inl ⟨rfl, rfl⟩⟩
  · have hne := tf_m1ne a (by omega)
    have e1 : tf_im (σx 13) (nI a) = σx 13 a := by unfold tf_im; rw [if_neg hne, nI_clamp (by omega)]
    have e2 : tf_im (σm 7) (nI a) = σm 7 a := by unfold tf_im; rw [if_neg hne, nI_clamp (by omega)]
    rw [e1, e2]
    have r6 : a < 6 ∨ σm 7 a ≠ -1 := by
      rcases hr with hr | ⟨b, hb, e, h⟩
      · exact absurd hr hne
      · have : a = b := (nI_eq (by omega) (by omega)).mp e
        rw [this]; exact h
    by_cases hc : σx 12 a = 0
    · obtain ⟨c1, c2⟩ := J.2.2.2.1 a (by omega) hc
      have a6 : ¬ a < 6 := by
        intro q
        rcases (show a = 4 ∨ a = 5 by omega) with rfl | rfl
        · rw [w.2.2.2.2.1] at hc; exact absurd hc (by decide)
        · rw [w.2.2.2.2.2] at hc; exact absurd hc (by decide)
      have c3 : σm 7 a = nI a := c2.resolve_left (r6.resolve_left a6)
      exact ⟨by rw [c1, c3], Or.inr ⟨a, a4, by omega, c1, fun _ => hc⟩⟩
    · obtain ⟨c1, c2⟩ := J.2.2.2.2 a (by omega) hc
      refine ⟨c1, Or.inr ?_⟩
      have hb := tf_bits J.1 h6 (by omega) at' he
      have nn : σx 13 a ≠ -1 := by
        rcases r6 with q | q
        · rcases (show a = 4 ∨ a = 5 by omega) with rfl | rfl
          · exact hb0 (hb.1 (by rw [w.2.2.2.2.1]; exact Or.inl rfl))
          · exact hb1 (hb.2 (by rw [w.2.2.2.2.2]; exact Or.inl rfl))
        · rw [c1]; exact q
      obtain ⟨r, q1, q2, q3, q4, -⟩ := c2.resolve_left nn
      exact ⟨r, q1, q2, q3, q4⟩
