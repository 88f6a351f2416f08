/-! pure part 13: a parameter takes a type -/
theorem tf_ms_cg {K K' : tf_S} {nC nT : Nat} (W : tf_WF K nC nT) (e : ∀ t, t < nT → K' 9 t = K 9 t ∧ K' 10 t = K 10 t ∧ K' 11 t = K 11 t) : ∀ (n w v : Nat) (b : Int32 × Int32), w < nT → v < nT → (w = 4 ∨ w = 5 ∨ 6 ≤ w) → tf_ms K' n b w v = tf_ms K n b w v := by
  have hn := W.1.2.2.2.2.2
  intro n
  induction n with
  | zero => intro w v b _ _ _; rw [tf_ms, tf_ms]
  | succ n ih =>
    intro w v b hw hv hk
    by_cases w4 : w = 4
    · rw [tf_ms, tf_ms, if_pos w4, if_pos w4]
    · by_cases w5 : w = 5
      · rw [tf_ms, tf_ms, if_neg w4, if_pos w5, if_neg w4, if_pos w5]
      · obtain ⟨e9, e10, e11⟩ := e w hw
        obtain ⟨f9, f10, f11⟩ := e v hv
        by_cases q : K 9 w = K 9 v
        · obtain ⟨v6, k1, k2⟩ := tf_kids W (by omega) hw hv q
          rw [tf_ms_cl w4 w5 (show K' 9 w = K' 9 v by rw [e9, f9]; exact q), tf_ms_cl w4 w5 q, e10, e11, f10, f11]
          have g1 : (if K 10 w = -1 then ((0 : Int32), b) else tf_ms K' n b (K 10 w).toNatClampNeg (K 10 v).toNatClampNeg) = (if K 10 w = -1 then ((0 : Int32), b) else tf_ms K n b (K 10 w).toNatClampNeg (K 10 v).toNatClampNeg) := by
            rcases k1 with ⟨z, -⟩ | ⟨a, a', a1, a2, a3, a4, a5, a6⟩
            · rw [if_pos z, if_pos z]
            · rw [a5, a6, nI_clamp (by omega), nI_clamp (by omega), ih a a' b (by omega) (by omega) (by omega)]
          rw [g1]
          generalize (if K 10 w = -1 then ((0 : Int32), b) else tf_ms K n b (K 10 w).toNatClampNeg (K 10 v).toNatClampNeg) = r
          dsimp only
          rcases k2 with ⟨z, -⟩ | ⟨a, a', a1, a2, a3, a4, a5, a6⟩
          · rw [if_pos z, if_pos z]
          · rw [a5, a6, nI_clamp (by omega), nI_clamp (by omega), ih a a' r.2 (by omega) (by omega) (by omega)]
        · rw [tf_ms, tf_ms, if_neg w4, if_neg w5, if_neg (show ¬ K' 9 w = K' 9 v by rw [e9, f9]; exact q), if_neg w4, if_neg w5, if_neg q]
/-- bindings: none, or a closed class type -/
def tf_pb (K : tf_S) (nT : Nat) (x : Int32) : Prop := x = -1 ∨ ∃ r, 6 ≤ r ∧ r < nT ∧ x = nI r ∧ K 12 r = 0
theorem tf_ms_val {K : tf_S} {nC nT : Nat} (W : tf_WF K nC nT) : ∀ (n w v : Nat) (b : Int32 × Int32), w < nT → v < nT → (w = 4 ∨ w = 5 ∨ 6 ≤ w) → 6 ≤ v → K 12 v = 0 → tf_pb K nT b.1 → tf_pb K nT b.2 → (tf_pb K nT (tf_ms K n b w v).2.1 ∧ tf_pb K nT (tf_ms K n b w v).2.2) ∧ ((tf_ms K n b w v).1 = 0 ∨ (tf_ms K n b w v).1 = 1 ∨ (tf_ms K n b w v).1 = 2) := by
  have hn := W.1.2.2.2.2.2
  intro n
  induction n with
  | zero => intro w v b _ _ _ _ _ p1 p2; rw [tf_ms]; exact ⟨⟨p1, p2⟩, Or.inl rfl⟩
  | succ n ih =>
    intro w v b hw hv hk v6 cv p1 p2
    have bb : ∀ x : Int32, tf_pb K nT x → tf_pb K nT (tf_bi x (nI v)).2 ∧ ((tf_bi x (nI v)).1 = 0 ∨ (tf_bi x (nI v)).1 = 1 ∨ (tf_bi x (nI v)).1 = 2) := by
      intro x px
      unfold tf_bi
      by_cases z : x = -1
      · rw [if_pos z]; exact ⟨Or.inr ⟨v, v6, hv, rfl, cv⟩, Or.inl rfl⟩
      · rw [if_neg z]
        by_cases y : x = nI v
        · rw [if_pos y]; exact ⟨px, Or.inl rfl⟩
        · rw [if_neg y]; exact ⟨px, Or.inr (Or.inr rfl)⟩
    by_cases w4 : w = 4
    · rw [tf_ms, if_pos w4]; exact ⟨⟨(bb _ p1).1, p2⟩, (bb _ p1).2⟩
    · by_cases w5 : w = 5
      · rw [tf_ms, if_neg w4, if_pos w5]; exact ⟨⟨p1, (bb _ p2).1⟩, (bb _ p2).2⟩
      · by_cases q : K 9 w = K 9 v
        · obtain ⟨-, k1, k2⟩ := tf_kids W (by omega) hw hv q
          have av := tf_argv True W v6 hv (fun _ => cv)
          have cl : ∀ (x : Int32) (a : Nat), tf_val K nT True x → x = nI a → a < 80 → 6 ≤ a ∧ K 12 a = 0 := by
            intro x a hx e ha
            rcases hx with z | ⟨r, r1, r2, r3, r4⟩
            · exact absurd (e.symm.trans z) (tf_m1ne a (by omega))
            · have : a = r := (nI_eq (by omega) (by omega)).mp (e.symm.trans r3)
              subst this
              exact ⟨(tf_closed W (r4 trivial)).resolve_left (by omega), r4 trivial⟩
          rw [tf_ms_cl w4 w5 q]
          have g1 : (tf_pb K nT (if K 10 w = -1 then ((0 : Int32), b) else tf_ms K n b (K 10 w).toNatClampNeg (K 10 v).toNatClampNeg).2.1 ∧ tf_pb K nT (if K 10 w = -1 then ((0 : Int32), b) else tf_ms K n b (K 10 w).toNatClampNeg (K 10 v).toNatClampNeg).2.2) ∧ ((if K 10 w = -1 then ((0 : Int32), b) else tf_ms K n b (K 10 w).toNatClampNeg (K 10 v).toNatClampNeg).1 = 0 ∨ (if K 10 w = -1 then ((0 : Int32), b) else tf_ms K n b (K 10 w).toNatClampNeg (K 10 v).toNatClampNeg).1 = 1 ∨ (if K 10 w = -1 then ((0 : Int32), b) else tf_ms K n b (K 10 w).toNatClampNeg (K 10 v).toNatClampNeg).1 = 2) := by
            rcases k1 with ⟨z, -⟩ | ⟨a, a', a1, a2, a3, a4, a5, a6⟩
            · rw [if_pos z]; exact ⟨⟨p1, p2⟩, Or.inl rfl⟩
            · obtain ⟨c1, c2⟩ := cl _ a' av.1 a6 (by omega)
              rw [if_neg (by rw [a5]; exact tf_m1ne a (by omega)), a5, a6, nI_clamp (by omega), nI_clamp (by omega)]
              exact ih a a' b (by omega) (by omega) (by omega) c1 c2 p1 p2
          generalize (if K 10 w = -1 then ((0 : Int32), b) else tf_ms K n b (K 10 w).toNatClampNeg (K 10 v).toNatClampNeg) = r at g1
          dsimp only
          by_cases r0 : r.1 = 0
          · rw [if_pos r0]
            rcases k2 with ⟨z, -⟩ | ⟨a, a', a1, a2, a3, a4, a5, a6⟩
            · rw [if_pos z]; exact g1
            · obtain ⟨c1, c2⟩ := cl _ a' av.2 a6 (by omega)
              rw [if_neg (by rw [a5]; exact tf_m1ne a (by omega)), a5, a6, nI_clamp (by omega), nI_clamp (by omega)]
              exact ih a a' r.2 (by omega) (by omega) (by omega) c1 c2 g1.1.1 g1.1.2
          · rw [if_neg r0]; exact g1
        · rw [tf_ms, if_neg w4, if_neg w5, if_neg q]; exact ⟨⟨p1, p2⟩, Or.inr (Or.inl rfl)⟩
theorem holdsM_init {σ : tf_S} {x1 x2 : Int32} {N : Nat} (hN : 6400 ≤ N) : fX7_holds_2 x1 x2 N σ (nI 0) = fX7_holds_2 x1 x2 (N - 6400) (tf_hs σ 17 (tf_fl (σ 17) 6400 0)) (nI 6400) := by
  have h := tf_iter (fun n (s : tf_S) y => fX7_holds_2 x1 x2 n s y) (fun k => tf_hs σ 17 (tf_fl (σ 17) k 0)) 0 6400 (Nat.zero_le _) (fun k m h1 h2 => by
    show fX7_holds_2 x1 x2 (m + 1) (tf_hs σ 17 (tf_fl (σ 17) k 0)) (nI k) = fX7_holds_2 x1 x2 m (tf_hs σ 17 (tf_fl (σ 17) (k + 1) 0)) (nI (k + 1))
    rw [fX7_holds_2, if_neg (show ¬ (6400 : Int32) ≤ nI k from nI_ge (b := 6400) h2 (by decide)), if_pos (tf_ib h2 (by decide)), nI_clamp (by omega), tf_wr_hs, tf_fl_s, tf_gle, tf_gle, nI_1]) (N - 6400)
  have h0 : tf_hs σ 17 (tf_fl (σ 17) 0 0) = σ := by rw [tf_fl_0]; exact tf_hs_id σ 17
  rw [show N - 6400 + (6400 - 0) = N by omega] at h
  have h : fX7_holds_2 x1 x2 N (tf_hs σ 17 (tf_fl (σ 17) 0 0)) (nI 0) = fX7_holds_2 x1 x2 (N - 6400) (tf_hs σ 17 (tf_fl (σ 17) 6400 0)) (nI 6400) := h
  rw [h0] at h
  exact h
theorem holdsM_exit {σ : tf_S} {x1 x2 : Int32} (e : σ 0 23 = nI 0) (m : Nat) : fX7_holds_33 x1 x2 (m + 1) σ = some (1, σ) := by
  rw [fX7_holds_33, e, if_pos (show nI 0 ≤ 0 by decide +kernel)]
theorem matchX_exit {σ : tf_S} {x1 x2 y : Int32} (m : Nat) : fX3_match_22 x1 x2 (m + 1) σ (nI 0) 0 y = some (0, σ) := by
  rw [fX3_match_22, if_pos (show nI 0 ≤ 0 by decide +kernel)]
/-- what the class remembers is sound -/
def tf_aX (K σ : tf_S) (nT : Nat) (b : Int32 × Int32) : Prop := ∀ p, 6 ≤ p → p < 80 → σ 32 p = -1 ∨ (p < nT ∧ ∃ q, q < nT ∧ σ 32 p = nI q ∧ tf_ms K 80 b p q = (0, b))
theorem tf_aX.v {K σ : tf_S} {nT : Nat} {b : Int32 × Int32} (h : tf_aX K σ nT b) : tf_vX σ nT := fun p h1 h2 => (h p h1 h2).imp id (fun ⟨_, q, q1, q2, _⟩ => ⟨q, q1, q2⟩)
theorem tf_aX.s {K σ : tf_S} {nT L : Nat} {b : Int32 × Int32} (h : tf_aX K σ nT b) (hL : L ≤ 80) (hn : nT ≤ 80) : tf_sX K nT σ b L := fun p q h1 h2 h3 h4 => by
  rcases h p h1 (by omega) with z | ⟨-, q', z1, z2, z3⟩
  · exact absurd (h4.symm.trans z) (tf_m1ne q (by omega))
  · have : q = q' := (nI_eq (by omega) (by omega)).mp (h4.symm.trans z2)
    rw [this]; exact z3
/-- MATCHING, on both sides -/
theorem tf_match_sim {σx σm : tf_S} {nC nT w v : Nat} (W : tf_WF σx nC nT) (T : tf_TM σx σm nC nT) (w6 : 6 ≤ w) (hw : w < nT) (hv : v < nT) (eb : tf_bX σx = tf_bM σm) (ax : tf_aX σx σx nT (tf_bX σx)) :
    ∃ (σx' σm' : tf_S), fX3_match σx (nI w) (nI v) = some ((tf_ms σx 80 (tf_bX σx) w v).1, σx') ∧ fX7_holds σm (nI w) (nI v) = some (if (tf_ms σx 80 (tf_bX σx) w v).1 = 0 then 1 else 0, σm') ∧ tf_fX σx σx' ∧ tf_fM σm σm' ∧
      ((tf_ms σx 80 (tf_bX σx) w v).1 = 0 → tf_bX σx' = (tf_ms σx 80 (tf_bX σx) w v).2 ∧ tf_bM σm' = (tf_ms σx 80 (tf_bX σx) w v).2 ∧ tf_aX σx σx' nT (tf_ms σx 80 (tf_bX σx) w v).2) ∧ ((tf_ms σx 80 (tf_bX σx) w v).1 ≠ 0 → σm' 0 20 = (tf_ms σx 80 (tf_bX σx) w v).1) := by
  have hn := W.1.2.2.2.2.2
  have vx := ax.v
  have sx : tf_sX σx nT σx (tf_bX σx) 80 := ax.s (Nat.le_refl _) hn
  -- the class
  have i0 : tf_inb (0 : Int32) 82 = true := by decide +kernel
  have c0 : ((0 : Int32)).toNatClampNeg = 0 := by decide +kernel
  have ex : fX3_match σx (nI w) (nI v) = fX3_match_22 (nI w) (nI v) 100000 (tf_wr (tf_wr σx 33 0 (nI w)) 34 0 (nI v)) (nI 1) 0 (nI 0) := by
    unfold fX3_match
    rw [if_pos i0, c0, tf_gle, if_pos i0, tf_gle]
    rw [show (nI 1) = (1 : Int32) from rfl, show nI 0 = (0 : Int32) from rfl]
  have oo : ∀ c, c ≠ 33 → c ≠ 34 → tf_wr (tf_wr σx 33 0 (nI w)) 34 0 (nI v) c = σx c := fun c c3 c4 => by rw [tf_wr_o _ _ _ c4, tf_wr_o _ _ _ c3]
  have o3 : tf_wr (tf_wr σx 33 0 (nI w)) 34 0 (nI v) 33 0 = nI w := by rw [tf_wr_o _ _ _ (by decide), tf_wr_s, pk_us]
  have o4 : tf_wr (tf_wr σx 33 0 (nI w)) 34 0 (nI v) 34 0 = nI v := by rw [tf_wr_s, pk_us]
  generalize tf_wr (tf_wr σx 33 0 (nI w)) 34 0 (nI v) = σ0 at ex oo o3 o4
  have e32 : σ0 32 = σx 32 := oo 32 (by decide) (by decide)
  have b0 : tf_bX σ0 = tf_bX σx := by unfold tf_bX; rw [oo 31 (by decide) (by decide)]
  have u80 := tf_un_le σ0 (w + 1)
  have OX := tf_matchX_rec (x1 := nI w) (x2 := nI v) W 80 w v σ0 1 0 (by omega) (Nat.le_refl _) (Or.inr (Or.inr w6)) hw hv (fun c _ _ c3 c4 => oo c c3 c4) (Nat.le_refl _) (by omega) o3 o4 (fun p h1 h2 => by rw [e32]; exact vx p h1 h2) (fun p q h1 h2 h3 h4 => by rw [e32] at h4; rw [b0]; exact sx p q h1 (by omega) h3 h4) (by omega)
  rw [b0] at OX
  obtain ⟨σ1, kx, f1, -, f3, resx⟩ := OX
  -- the reference
  have j1 : tf_TM σx (tf_hs σm 17 (tf_fl (σm 17) 6400 0)) nC nT := by
    obtain ⟨m1, m2, m3, m4⟩ := T
    refine ⟨by rw [tf_hs_o _ _ (by decide)]; exact m1, by rw [tf_hs_o _ _ (by decide)]; exact m2, fun k hk => ?_, fun k hk => ?_⟩
    · rw [tf_hs_o _ _ (by decide), tf_hs_o _ _ (by decide)]; exact m3 k hk
    · rw [tf_hs_o _ _ (by decide), tf_hs_o _ _ (by decide), tf_hs_o _ _ (by decide), tf_hs_o _ _ (by decide)]; exact m4 k hk
  have em : ∃ N, N = 100000 ∧ fX7_holds σm (nI w) (nI v) = fX7_holds_33 (nI w) (nI v) N (tf_hp (tf_wr (tf_hs σm 17 (tf_fl (σm 17) 6400 0)) 0 23 (nI 0)) 0 (nI w) (nI v)) := by
    refine ⟨100000, rfl, ?_⟩
    have h1 := holdsM_init (σ := σm) (x1 := nI w) (x2 := nI v) (N := 100000) (by decide)
    have h2 : fX7_holds σm (nI w) (nI v) = fX7_holds_2 (nI w) (nI v) 100000 σm (nI 0) := by
      unfold fX7_holds
      rw [show nI 0 = (0 : Int32) from rfl]
    rw [h2, h1, show 100000 - 6400 = 93599 + 1 from rfl, fX7_holds_2, if_pos (show (6400 : Int32) ≤ nI 6400 by decide +kernel), tf_gle, show (0 : Int32) = nI 0 from rfl, holdPair_eq (k := 0) (by rw [tf_wr_s, pk_us]) (by decide), tf_bse]
  obtain ⟨N, hN, em⟩ := em
  have q23 : tf_hp (tf_wr (tf_hs σm 17 (tf_fl (σm 17) 6400 0)) 0 23 (nI 0)) 0 (nI w) (nI v) 0 23 = nI 1 := by unfold tf_hp; rw [tf_wr_s, pk_us]
  have q16 : tf_hp (tf_wr (tf_hs σm 17 (tf_fl (σm 17) 6400 0)) 0 23 (nI 0)) 0 (nI w) (nI v) 16 (2 * (1 - 1)) = nI w := by unfold tf_hp; rw [tf_wr_o _ _ _ (by decide), tf_wr_s, pk_un (by decide), tf_wr_s, pk_us]
  have q16' : tf_hp (tf_wr (tf_hs σm 17 (tf_fl (σm 17) 6400 0)) 0 23 (nI 0)) 0 (nI w) (nI v) 16 (2 * (1 - 1) + 1) = nI v := by unfold tf_hp; rw [tf_wr_o _ _ _ (by decide), tf_wr_s, pk_us]
  have q17 : tf_hp (tf_wr (tf_hs σm 17 (tf_fl (σm 17) 6400 0)) 0 23 (nI 0)) 0 (nI w) (nI v) 17 = tf_fl (σm 17) 6400 0 := by unfold tf_hp; rw [tf_wr_o _ _ _ (by decide), tf_wr_o _ _ _ (by decide), tf_wr_o _ _ _ (by decide), tf_wr_o _ _ _ (by decide), tf_hs_s]
  have qf : tf_fM σm (tf_hp (tf_wr (tf_hs σm 17 (tf_fl (σm 17) 6400 0)) 0 23 (nI 0)) 0 (nI w) (nI v)) := by
    unfold tf_hp
    refine ⟨fun c d0 _ d16 d17 => ?_, fun j j23 _ => ?_⟩
    · rw [tf_wr_o _ _ _ d0, tf_wr_o _ _ _ d16, tf_wr_o _ _ _ d16, tf_wr_o _ _ _ d0, tf_hs_o _ _ d17]
    · rw [tf_wr_s, pk_un j23, tf_wr_o _ _ _ (by decide), tf_wr_o _ _ _ (by decide), tf_wr_s, pk_un j23, tf_hs_o _ _ (by decide)]
  have q15 : tf_hp (tf_wr (tf_hs σm 17 (tf_fl (σm 17) 6400 0)) 0 23 (nI 0)) 0 (nI w) (nI v) 15 = σm 15 := by unfold tf_hp; rw [tf_wr_o _ _ _ (by decide), tf_wr_o _ _ _ (by decide), tf_wr_o _ _ _ (by decide), tf_wr_o _ _ _ (by decide), tf_hs_o _ _ (by decide)]
  generalize tf_hp (tf_wr (tf_hs σm 17 (tf_fl (σm 17) 6400 0)) 0 23 (nI 0)) 0 (nI w) (nI v) = τ0 at em q23 q16 q16' q17 qf q15
  have bm : tf_bM τ0 = tf_bX σx := by rw [eb]; unfold tf_bM; rw [q15]
  have OM := tf_holdsM_rec (x1 := nI w) (x2 := nI v) W 80 w v τ0 1 (by omega) (Nat.le_refl _) (Or.inr (Or.inr w6)) hw hv (T.keep qf) (Nat.le_refl _) (by omega) q23 q16 q16' (fun p q h1 h2 h3 h4 => by
    rw [q17] at h4
    unfold tf_fl at h4
    rw [if_pos (by omega)] at h4
    exact absurd rfl h4)
  rw [bm] at OM
  have vn := tf_vn_le τ0 6400
  obtain ⟨τ1, km, g1, -, -, g4, resm⟩ := OM
  generalize hr : tf_ms σx 80 (tf_bX σx) w v = r at resx resm ⊢
  have fx : tf_fX σx σ1 := fun c h1 h2 h3 h4 => (f1 c h1 h2 h3 h4).trans (oo c h3 h4)
  have fm : tf_fM σm τ1 := qf.tr g1
  by_cases z : r.1 = 0
  · obtain ⟨x1, x2, x3, x4, x5, x6⟩ := resx.resolve_right (fun q => q.1 z)
    obtain ⟨y1, y2, y3, y4, y5⟩ := resm.resolve_right (fun q => q.1 z)
    refine ⟨σ1, τ1, ?_, ?_, fx, fm, fun _ => ⟨x2, y2, fun p h1 h2 => ?_⟩, fun q => absurd z q⟩
    · rw [ex, show (100000 : Nat) = (100000 - kx - 1) + 1 + kx by omega, x6, matchX_exit, z]
    · rw [em, show N = (N - km - 1) + 1 + km by omega, y5, holdsM_exit y3, if_pos z]
    · rcases Nat.lt_or_ge p (w + 1) with s | s
      · rcases x3 p h1 h2 with s2 | ⟨q, q1, q2⟩
        · exact Or.inl s2
        · exact Or.inr ⟨by omega, q, q1, q2, x4 p q h1 s q1 q2⟩
      · rw [f3 p s, e32]
        rcases ax p h1 h2 with s2 | ⟨s2, q, q1, q2, q3⟩
        · exact Or.inl s2
        · exact Or.inr ⟨s2, q, q1, q2, tf_ms_mono W 80 p q _ _ q1 s2 (by omega) q3 (tf_ms_ext 80 w v (tf_bX σx) r.2 (by rw [hr]; exact Prod.ext z rfl))⟩
  · obtain ⟨x1, x2, x3⟩ := resx.resolve_left (fun q => z q.1)
    obtain ⟨y1, y2, y3⟩ := resm.resolve_left (fun q => z q.1)
    refine ⟨σ1, τ1, ?_, ?_, fx, fm, fun q => absurd q z, fun _ => y2⟩
    · rw [ex, show (100000 : Nat) = (100000 - kx) + kx by omega, x3]
    · rw [em, show N = (N - km) + km by omega, y3, if_neg z]
