/-! pure part 12: the reference's matching is tf_ms -/
def tf_PMn (K : tf_S) (nC nT : Nat) (x1 x2 : Int32) (n : Nat) : Prop :=
  ∀ (w v : Nat) (σ : tf_S) (h : Nat), w < n → n ≤ 80 → (w = 4 ∨ w = 5 ∨ 6 ≤ w) → w < nT → v < nT → tf_TM K σ nC nT → 1 ≤ h → h + w ≤ 160 → σ 0 23 = nI h → σ 16 (2 * (h - 1)) = nI w → σ 16 (2 * (h - 1) + 1) = nI v → tf_sM K nT σ (tf_bM σ) (w + 1) →
    tf_OM K nT x1 x2 (w + 1) σ (h - 1) (tf_ms K n (tf_bM σ) w v) 1
theorem tf_optM {K : tf_S} {nC nT n w : Nat} {x1 x2 : Int32} (W : tf_WF K nC nT) (IH : tf_PMn K nC nT x1 x2 n) (hw : w ≤ n) (hn : n ≤ 80) (hwT : w < nT) {σ : tf_S} {x y : Int32} {hb hh : Nat} (T : tf_TM K σ nC nT) (eh : σ 0 23 = nI hh)
    (hx : (x = -1 ∧ hh = hb) ∨ ∃ a a', 4 ≤ a ∧ a < w ∧ a' < nT ∧ x = nI a ∧ y = nI a' ∧ hh = hb + 1 ∧ σ 16 (2 * hb) = nI a ∧ σ 16 (2 * hb + 1) = nI a') (hbw : hb + w ≤ 160) (sx : tf_sM K nT σ (tf_bM σ) w) :
    tf_OM K nT x1 x2 w σ hb (if x = -1 then (0, tf_bM σ) else tf_ms K n (tf_bM σ) x.toNatClampNeg y.toNatClampNeg) 1 := by
  have hT := W.1.2.2.2.2.2
  rcases hx with ⟨e, eq⟩ | ⟨a, a', a4, aw, a't, ex, ey, eq, p1, p2⟩
  · subst eq
    rw [if_pos e]
    exact ⟨σ, 0, tf_fM.rf, fun _ _ => rfl, fun _ _ _ _ => rfl, by omega, Or.inl ⟨rfl, rfl, eh, sx, fun m => rfl⟩⟩
  · subst eq
    have q : ¬ x = -1 := by rw [ex]; exact tf_m1ne a (by omega)
    rw [if_neg q, ex, ey, nI_clamp (by omega), nI_clamp (by omega)]
    have g := IH a a' σ (hb + 1) (by omega) hn (by omega) (by omega) a't T (by omega) (by omega) eh (by rw [show hb + 1 - 1 = hb by omega]; exact p1) (by rw [show hb + 1 - 1 = hb by omega]; exact p2) (fun p q h1 h2 => sx p q h1 (by omega))
    rw [show hb + 1 - 1 = hb by omega] at g
    obtain ⟨σ', k, f1, f2, f3, f4, res⟩ := g
    refine ⟨σ', k, f1, f2, fun p q hp => f3 p q (by omega), f4, ?_⟩
    rcases res with ⟨r0, rb, rh, rs, rf⟩ | res
    · have xx : tf_ext (tf_bM σ) (tf_ms K n (tf_bM σ) a a').2 := tf_ms_ext n a a' _ _ (Prod.ext r0 rfl)
      refine Or.inl ⟨r0, rb, rh, fun p q h1 h2 h3 h4 => ?_, rf⟩
      rcases Nat.lt_or_ge p (a + 1) with z | z
      · exact rs p q h1 z h3 h4
      · rw [f3 p q z (by omega)] at h4
        exact tf_ms_mono W 80 p q _ _ h3 (by omega) (by omega) (sx p q h1 h2 h3 h4) xx
    · exact Or.inr res
theorem tf_pm_fr (σ : tf_S) (k : Nat) (x y : Int32) (e : σ 0 23 = nI k) : (∀ c, c ≠ 0 → c ≠ 16 → (tf_pm σ k x y).2 c = σ c) ∧ (∀ j, j ≠ 23 → (tf_pm σ k x y).2 0 j = σ 0 j) ∧ (tf_pm σ k x y).2 0 23 = nI (tf_pm σ k x y).1 ∧ (∀ i, i ≠ 2 * k → i ≠ 2 * k + 1 → (tf_pm σ k x y).2 16 i = σ 16 i) ∧ (x = -1 → (tf_pm σ k x y).1 = k) ∧ (x ≠ -1 → (tf_pm σ k x y).1 = k + 1 ∧ (tf_pm σ k x y).2 16 (2 * k) = x ∧ (tf_pm σ k x y).2 16 (2 * k + 1) = y) := by
  unfold tf_pm
  by_cases z : x = -1
  · rw [if_pos z]
    exact ⟨fun _ _ _ => rfl, fun _ _ => rfl, e, fun _ _ _ => rfl, fun _ => rfl, fun q => absurd z q⟩
  · rw [if_neg z]
    unfold tf_hp
    refine ⟨fun c h1 h2 => ?_, fun j hj => ?_, ?_, fun i hi hi2 => ?_, fun q => absurd q z, fun _ => ⟨rfl, ?_, ?_⟩⟩
    · show tf_wr (tf_wr (tf_wr σ 16 (2 * k) x) 16 (2 * k + 1) y) 0 23 (nI (k + 1)) c = σ c
      rw [tf_wr_o _ _ _ h1, tf_wr_o _ _ _ h2, tf_wr_o _ _ _ h2]
    · show tf_wr (tf_wr (tf_wr σ 16 (2 * k) x) 16 (2 * k + 1) y) 0 23 (nI (k + 1)) 0 j = σ 0 j
      rw [tf_wr_s, pk_un hj, tf_wr_o _ _ _ (by decide), tf_wr_o _ _ _ (by decide)]
    · show tf_wr (tf_wr (tf_wr σ 16 (2 * k) x) 16 (2 * k + 1) y) 0 23 (nI (k + 1)) 0 23 = nI (k + 1)
      rw [tf_wr_s, pk_us]
    · show tf_wr (tf_wr (tf_wr σ 16 (2 * k) x) 16 (2 * k + 1) y) 0 23 (nI (k + 1)) 16 i = σ 16 i
      rw [tf_wr_o _ _ _ (by decide), tf_wr_s, pk_un hi2, tf_wr_s, pk_un hi]
    · show tf_wr (tf_wr (tf_wr σ 16 (2 * k) x) 16 (2 * k + 1) y) 0 23 (nI (k + 1)) 16 (2 * k) = x
      rw [tf_wr_o _ _ _ (by decide), tf_wr_s, pk_un (by omega), tf_wr_s, pk_us]
    · show tf_wr (tf_wr (tf_wr σ 16 (2 * k) x) 16 (2 * k + 1) y) 0 23 (nI (k + 1)) 16 (2 * k + 1) = y
      rw [tf_wr_o _ _ _ (by decide), tf_wr_s, pk_us]
set_option maxHeartbeats 2000000 in
theorem tf_holdsM_rec {K : tf_S} {nC nT : Nat} {x1 x2 : Int32} (W : tf_WF K nC nT) : ∀ n, tf_PMn K nC nT x1 x2 n := by
  have hT := W.1.2.2.2.2.2
  intro n
  induction n with
  | zero => intro w v σ h hw; omega
  | succ n IH =>
  intro w v σ h hw hn hk hwT hvT T h1 hh eh ew ev sx
  have nv := tf_m1ne v (by omega)
  by_cases hv4 : w = 4 ∨ w = 5
  · obtain ⟨i, hi, rfl⟩ : ∃ i, i < 2 ∧ w = 4 + i := ⟨w - 4, by omega, by omega⟩
    have s := fun m => holdsM_var (x1 := x1) (x2 := x2) (σ := σ) (i := i) (v := v) (h := h) hi h1 (by omega) (by omega) eh ew ev m
    have er : (tf_ms K (n + 1) (tf_bM σ) (4 + i) v).1 = (tf_bi (σ 15 i) (nI v)).1 ∧ ((tf_bi (σ 15 i) (nI v)).1 = 0 → tf_bM (tf_wr (tf_wr σ 0 23 (nI (h - 1))) 15 i (nI v)) = (tf_ms K (n + 1) (tf_bM σ) (4 + i) v).2) := by
      have b2 : ∀ b : Int32, (tf_bi b (nI v)).1 = 0 → (tf_bi b (nI v)).2 = nI v := by
        intro b q
        unfold tf_bi at q ⊢
        by_cases z : b = -1
        · rw [if_pos z]
        · rw [if_neg z] at q ⊢
          by_cases y : b = nI v
          · rw [if_pos y]; exact y
          · rw [if_neg y] at q; exact absurd q (by show ¬ (2 : Int32) = 0; decide)
      rcases (show i = 0 ∨ i = 1 by omega) with rfl | rfl
      · rw [tf_ms, if_pos (show 4 + 0 = 4 from rfl)]
        refine ⟨rfl, fun q => ?_⟩
        show (tf_wr (tf_wr σ 0 23 (nI (h - 1))) 15 0 (nI v) 15 0, tf_wr (tf_wr σ 0 23 (nI (h - 1))) 15 0 (nI v) 15 1) = ((tf_bi (σ 15 0) (nI v)).2, σ 15 1)
        rw [b2 _ q, tf_wr_s, pk_us, pk_un (by decide), tf_wr_o _ _ _ (by decide)]
      · rw [tf_ms, if_neg (show ¬ 4 + 1 = 4 by decide), if_pos (show 4 + 1 = 5 from rfl)]
        refine ⟨rfl, fun q => ?_⟩
        show (tf_wr (tf_wr σ 0 23 (nI (h - 1))) 15 1 (nI v) 15 0, tf_wr (tf_wr σ 0 23 (nI (h - 1))) 15 1 (nI v) 15 1) = (σ 15 0, (tf_bi (σ 15 1) (nI v)).2)
        rw [b2 _ q, tf_wr_s, pk_us, pk_un (by decide), tf_wr_o _ _ _ (by decide)]
    by_cases z : (tf_bi (σ 15 i) (nI v)).1 = 0
    · refine ⟨tf_wr (tf_wr σ 0 23 (nI (h - 1))) 15 i (nI v), 1, ⟨fun c c0 c15 _ _ => by rw [tf_wr_o _ _ _ c15, tf_wr_o _ _ _ c0], fun j j23 _ => by rw [tf_wr_o _ _ _ (by decide), tf_wr_s, pk_un j23]⟩, fun j _ => by rw [tf_wr_o _ _ _ (by decide), tf_wr_o _ _ _ (by decide)], fun p q _ _ => by rw [tf_wr_o _ _ _ (by decide), tf_wr_o _ _ _ (by decide)], ?_, Or.inl ⟨er.1.trans z, er.2 z, by rw [tf_wr_o _ _ _ (by decide), tf_wr_s, pk_us], fun p q h1 h2 => absurd h1 (by omega), fun m => by rw [s, if_pos z]⟩⟩
      rw [tf_vn_cg (σ := σ) (by rw [tf_wr_o _ _ _ (by decide), tf_wr_o _ _ _ (by decide)])]; omega
    · refine ⟨tf_wr (tf_wr σ 0 23 (nI (h - 1))) 0 20 2, 1, ⟨fun c c0 _ _ _ => by rw [tf_wr_o _ _ _ c0, tf_wr_o _ _ _ c0], fun j j23 j20 => by rw [tf_wr_s, pk_un j20, tf_wr_s, pk_un j23]⟩, fun j _ => by rw [tf_wr_o _ _ _ (by decide), tf_wr_o _ _ _ (by decide)], fun p q _ _ => by rw [tf_wr_o _ _ _ (by decide), tf_wr_o _ _ _ (by decide)], ?_, Or.inr ⟨by rw [er.1]; exact z, ?_, fun m => by rw [s, if_neg z]⟩⟩
      · rw [tf_vn_cg (σ := σ) (by rw [tf_wr_o _ _ _ (by decide), tf_wr_o _ _ _ (by decide)])]; omega
      · rw [er.1, tf_wr_s, pk_us]
        unfold tf_bi at z ⊢
        by_cases y : σ 15 i = -1
        · rw [if_pos y] at z; exact absurd rfl z
        · rw [if_neg y] at z ⊢
          by_cases y2 : σ 15 i = nI v
          · rw [if_pos y2] at z; exact absurd rfl z
          · rw [if_neg y2]
  · have w6 : 6 ≤ w := by omega
    have w4 : w ≠ 4 := by omega
    have w5 : w ≠ 5 := by omega
    have s := fun m => holdsM_cls (x1 := x1) (x2 := x2) W T w6 hwT h1 (by omega) hvT eh ew ev m
    by_cases hd : σ 17 (80 * w + v) = 0
    case neg =>
      have m80 := sx w v w6 (by omega) hvT hd
      have er : tf_ms K (n + 1) (tf_bM σ) w v = (0, tf_bM σ) := by rw [tf_ms_fuel W (n + 1) 80 w v _ hw (by omega) hvT hwT hk]; exact m80
      rw [er]
      refine ⟨tf_wr σ 0 23 (nI (h - 1)), 1, ⟨fun c c0 _ _ _ => by rw [tf_wr_o _ _ _ c0], fun j j23 _ => by rw [tf_wr_s, pk_un j23]⟩, fun j _ => by rw [tf_wr_o _ _ _ (by decide)], fun p q _ _ => by rw [tf_wr_o _ _ _ (by decide)], ?_, Or.inl ⟨rfl, ?_, by rw [tf_wr_s, pk_us], fun p q h1 h2 h3 h4 => ?_, fun m => by rw [s, if_neg hd]⟩⟩
      · rw [tf_vn_cg (σ := σ) (by rw [tf_wr_o _ _ _ (by decide)])]; omega
      · unfold tf_bM; rw [tf_wr_o _ _ _ (by decide)]
      · rw [tf_wr_o _ _ _ (by decide)] at h4; exact sx p q h1 h2 h3 h4
    have o17 : tf_wr (tf_wr σ 0 23 (nI (h - 1))) 17 (80 * w + v) 1 17 = upd (σ 17) (80 * w + v) 1 := by rw [tf_wr_s, tf_wr_o _ _ _ (by decide)]
    have oo : ∀ c, c ≠ 0 → c ≠ 17 → tf_wr (tf_wr σ 0 23 (nI (h - 1))) 17 (80 * w + v) 1 c = σ c := fun c c0 c17 => by rw [tf_wr_o _ _ _ c17, tf_wr_o _ _ _ c0]
    have o23 : tf_wr (tf_wr σ 0 23 (nI (h - 1))) 17 (80 * w + v) 1 0 23 = nI (h - 1) := by rw [tf_wr_o _ _ _ (by decide), tf_wr_s, pk_us]
    have o0 : ∀ j, j ≠ 23 → tf_wr (tf_wr σ 0 23 (nI (h - 1))) 17 (80 * w + v) 1 0 j = σ 0 j := fun j hj => by rw [tf_wr_o _ _ _ (by decide), tf_wr_s, pk_un hj]
    generalize tf_wr (tf_wr σ 0 23 (nI (h - 1))) 17 (80 * w + v) 1 = σ1 at s o17 oo o23 o0
    have v1 := tf_vn_set o17 (by decide) hd 6400 (by omega)
    have idx : ∀ p q, q < 80 → (p ≠ w ∨ q ≠ v) → 80 * p + q ≠ 80 * w + v := fun p q hq hne => by omega
    by_cases e : K 9 w = K 9 v
    case neg =>
      have er : tf_ms K (n + 1) (tf_bM σ) w v = (1, tf_bM σ) := by rw [tf_ms, if_neg w4, if_neg w5, if_neg e]
      rw [er]
      refine ⟨tf_wr σ1 0 20 1, 1, ⟨fun c c0 _ _ c17 => by rw [tf_wr_o _ _ _ c0, oo c c0 c17], fun j j23 j20 => by rw [tf_wr_s, pk_un j20, o0 j j23]⟩, fun j _ => by rw [tf_wr_o _ _ _ (by decide), oo 16 (by decide) (by decide)], fun p q hp hq => by rw [tf_wr_o _ _ _ (by decide), o17, pk_un (idx p q hq (Or.inl (by omega)))], ?_, Or.inr ⟨by show (1 : Int32) ≠ 0; decide, by rw [tf_wr_s, pk_us], fun m => by rw [s, if_pos hd, if_neg e]⟩⟩
      rw [tf_vn_cg (σ := σ1) (by rw [tf_wr_o _ _ _ (by decide)])]; omega
    obtain ⟨v6, k1, k2⟩ := tf_kids W w6 hwT hvT e
    have s : ∀ m, fX7_holds_33 x1 x2 (m + 1) σ = fX7_holds_33 x1 x2 m (tf_pm (tf_pm σ1 (h - 1) (K 11 w) (K 11 v)).2 (tf_pm σ1 (h - 1) (K 11 w) (K 11 v)).1 (K 10 w) (K 10 v)).2 := fun m => by rw [s, if_pos hd, if_pos e]
    obtain ⟨p1, p0, p23, p2, p3, p4⟩ := tf_pm_fr σ1 (h - 1) (K 11 w) (K 11 v) o23
    generalize tf_pm σ1 (h - 1) (K 11 w) (K 11 v) = e2 at s p1 p0 p23 p2 p3 p4
    obtain ⟨g2, σ2⟩ := e2
    dsimp only at s p1 p0 p23 p2 p3 p4
    obtain ⟨q1, q0, q23, q2, q3, q4⟩ := tf_pm_fr σ2 g2 (K 10 w) (K 10 v) p23
    generalize tf_pm σ2 g2 (K 10 w) (K 10 v) = e3 at s q1 q0 q23 q2 q3 q4
    obtain ⟨g3, σ3⟩ := e3
    dsimp only at s q1 q0 q23 q2 q3 q4
    have g2l : h - 1 ≤ g2 ∧ g2 ≤ h := by
      by_cases z : K 11 w = -1
      · have := p3 z; omega
      · have := (p4 z).1; omega
    have fo : ∀ c, c ≠ 0 → c ≠ 16 → c ≠ 17 → σ3 c = σ c := fun c h1 h2 h3 => (q1 c h1 h2).trans ((p1 c h1 h2).trans (oo c h1 h3))
    have r17 : σ3 17 = upd (σ 17) (80 * w + v) 1 := (q1 17 (by decide) (by decide)).trans ((p1 17 (by decide) (by decide)).trans o17)
    have fm3 : tf_fM σ σ3 := ⟨fun c c0 _ c16 c17 => fo c c0 c16 c17, fun j j23 _ => (q0 j j23).trans ((p0 j j23).trans (o0 j j23))⟩
    have b3 : tf_bM σ3 = tf_bM σ := by unfold tf_bM; rw [fo 15 (by decide) (by decide) (by decide)]
    have low3 : ∀ i, i < 2 * (h - 1) → σ3 16 i = σ 16 i := fun i hi => by
      rw [q2 i (by omega) (by omega), p2 i (by omega) (by omega), oo 16 (by decide) (by decide)]
    have u3 : tf_vn σ3 6400 + 1 = tf_vn σ 6400 := by
      have := tf_vn_cg (σ := σ1) (σ' := σ3) (r17.trans o17.symm) 6400
      omega
    have sx3 : tf_sM K nT σ3 (tf_bM σ3) w := fun p q' h1 h2 h3 h4 => by
      rw [r17, pk_un (idx p q' (by omega) (Or.inl (by omega)))] at h4
      rw [b3]; exact sx p q' h1 (by omega) h3 h4
    have hx1 : (K 10 w = -1 ∧ g3 = g2) ∨ ∃ a a', 4 ≤ a ∧ a < w ∧ a' < nT ∧ K 10 w = nI a ∧ K 10 v = nI a' ∧ g3 = g2 + 1 ∧ σ3 16 (2 * g2) = nI a ∧ σ3 16 (2 * g2 + 1) = nI a' := by
      rcases k1 with ⟨z, -⟩ | ⟨a, a', a1, a2, a3, a4, a5, a6⟩
      · exact Or.inl ⟨z, q3 z⟩
      · obtain ⟨t1, t2, t3⟩ := q4 (by rw [a5]; exact tf_m1ne a (by omega))
        exact Or.inr ⟨a, a', a1, a2, by omega, a5, a6, t1, t2.trans a5, t3.trans a6⟩
    have O1 := tf_optM W IH (show w ≤ n by omega) (by omega) hwT (y := K 10 v) (hb := g2) (hh := g3) (T.keep fm3) q23 hx1 (by omega) sx3
    rw [b3] at O1
    obtain ⟨σ4, kk1, f1, f2, f3, f4, res1⟩ := O1
    have emc := tf_ms_cl (K := K) (n := n) (b := tf_bM σ) w4 w5 e
    generalize hr1 : (if K 10 w = -1 then ((0 : Int32), tf_bM σ) else tf_ms K n (tf_bM σ) (K 10 w).toNatClampNeg (K 10 v).toNatClampNeg) = r1 at res1 emc
    have emc : tf_ms K (n + 1) (tf_bM σ) w v = if r1.1 = 0 then (if K 11 w = -1 then r1 else tf_ms K n r1.2 (K 11 w).toNatClampNeg (K 11 v).toNatClampNeg) else r1 := emc
    have fm4 : tf_fM σ σ4 := fm3.tr f1
    have hi4 : ∀ p q, w + 1 ≤ p → q < 80 → σ4 17 (80 * p + q) = σ 17 (80 * p + q) := fun p q hp hq => by rw [f3 p q (by omega) hq, r17, pk_un (idx p q hq (Or.inl (by omega)))]
    have low4 : ∀ i, i < 2 * (h - 1) → σ4 16 i = σ 16 i := fun i hi => by rw [f2 i (by omega), low3 i hi]
    rcases res1 with ⟨z1, z2, z3, z4, z6⟩ | ⟨z1, z5, z6⟩
    case inr =>
      rw [if_neg z1] at emc
      rw [emc]
      refine ⟨σ4, kk1 + 1, fm4, low4, hi4, by omega, Or.inr ⟨z1, z5, fun m => ?_⟩⟩
      rw [show m + (kk1 + 1) = m + kk1 + 1 by omega, s, z6]
    rw [if_pos z1] at emc
    have hx2 : (K 11 w = -1 ∧ g2 = h - 1) ∨ ∃ a a', 4 ≤ a ∧ a < w ∧ a' < nT ∧ K 11 w = nI a ∧ K 11 v = nI a' ∧ g2 = h - 1 + 1 ∧ σ4 16 (2 * (h - 1)) = nI a ∧ σ4 16 (2 * (h - 1) + 1) = nI a' := by
      rcases k2 with ⟨z, -⟩ | ⟨a, a', a1, a2, a3, a4, a5, a6⟩
      · exact Or.inl ⟨z, p3 z⟩
      · obtain ⟨t1, t2, t3⟩ := p4 (by rw [a5]; exact tf_m1ne a (by omega))
        exact Or.inr ⟨a, a', a1, a2, by omega, a5, a6, t1, by rw [f2 _ (by omega), q2 _ (by omega) (by omega), t2]; exact a5, by rw [f2 _ (by omega), q2 _ (by omega) (by omega), t3]; exact a6⟩
    have O2 := tf_optM W IH (show w ≤ n by omega) (by omega) hwT (σ := σ4) (y := K 11 v) (hb := h - 1) (hh := g2) (T.keep fm4) z3 hx2 (by omega) (by rw [z2]; exact z4)
    rw [z2] at O2
    obtain ⟨σ5, kk2, y1, y2, y3, y4, res2⟩ := O2
    have er1 : r1 = (0, r1.2) := Prod.ext z1 rfl
    have emc2 : tf_ms K (n + 1) (tf_bM σ) w v = if K 11 w = -1 then (0, r1.2) else tf_ms K n r1.2 (K 11 w).toNatClampNeg (K 11 v).toNatClampNeg := by
      rw [emc]
      by_cases z : K 11 w = -1
      · rw [if_pos z, if_pos z]; exact er1
      · rw [if_neg z, if_neg z]
    rw [← emc2] at res2
    have fm5 : tf_fM σ σ5 := fm4.tr y1
    have hi5 : ∀ p q, w + 1 ≤ p → q < 80 → σ5 17 (80 * p + q) = σ 17 (80 * p + q) := fun p q hp hq => (y3 p q (by omega) hq).trans (hi4 p q hp hq)
    have low5 : ∀ i, i < 2 * (h - 1) → σ5 16 i = σ 16 i := fun i hi => (y2 i hi).trans (low4 i hi)
    rcases res2 with ⟨t1, t2, t3, t4, t6⟩ | ⟨t1, t5, t6⟩
    case inr =>
      refine ⟨σ5, kk1 + kk2 + 1, fm5, low5, hi5, by omega, Or.inr ⟨t1, t5, fun m => ?_⟩⟩
      rw [show m + (kk1 + kk2 + 1) = m + kk2 + kk1 + 1 by omega, s, z6, t6]
    generalize hrr : tf_ms K (n + 1) (tf_bM σ) w v = r at t1 t2 t4 t6 ⊢
    have hrr0 : tf_ms K (n + 1) (tf_bM σ) w v = (0, r.2) := by rw [hrr]; exact Prod.ext t1 rfl
    have done : tf_ms K 80 r.2 w v = (0, r.2) := by
      rw [← tf_ms_fuel W (n + 1) 80 w v _ hw (by omega) hvT hwT hk]
      exact tf_ms_idem W (n + 1) w v _ _ hvT hwT hk hrr0
    refine ⟨σ5, kk1 + kk2 + 1, fm5, low5, hi5, by omega, Or.inl ⟨t1, t2, t3, fun p q' h1 h2 h3 h4 => ?_, fun m => ?_⟩⟩
    · rcases Nat.lt_or_ge p w with z | z
      · exact t4 p q' h1 z h3 h4
      · have ep : p = w := by omega
        subst ep
        by_cases eq' : q' = v
        · rw [eq']; exact done
        · rw [y3 p q' (Nat.le_refl _) (by omega), f3 p q' (Nat.le_refl _) (by omega), r17, pk_un (idx p q' (by omega) (Or.inr eq'))] at h4
          exact tf_ms_mono W 80 p q' _ _ h3 hwT hk (sx p q' h1 (by omega) h3 h4) (tf_ms_ext _ _ _ _ _ hrr0)
    · rw [show m + (kk1 + kk2 + 1) = m + kk2 + kk1 + 1 by omega, s, z6, t6]
