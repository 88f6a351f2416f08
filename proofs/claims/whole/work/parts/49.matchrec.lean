/-! pure part 10: the class's matching is tf_ms -/
def tf_PXn (K : tf_S) (nT : Nat) (x1 x2 : Int32) (n : Nat) : Prop :=
  ∀ (w v : Nat) (σ : tf_S) (h st : Nat), w < n → n ≤ 80 → (w = 4 ∨ w = 5 ∨ 6 ≤ w) → w < nT → v < nT → tf_fX K σ → 1 ≤ h → h + w ≤ 81 → σ 33 (h - 1) = nI w → σ 34 (h - 1) = nI v → tf_vX σ nT → tf_sX K nT σ (tf_bX σ) (w + 1) → st + 2 * (w + 1) + 2 * tf_un σ (w + 1) ≤ 6400 →
    tf_OX K nT x1 x2 (w + 1) σ (h - 1) h st (tf_ms K n (tf_bX σ) w v) 1 (2 * (w + 1) + 2 * tf_un σ (w + 1))
theorem tf_optX {K : tf_S} {nC nT n w : Nat} {x1 x2 : Int32} (W : tf_WF K nC nT) (IH : tf_PXn K nT x1 x2 n) (hw : w ≤ n) (hn : n ≤ 80) (hwT : w < nT) {σ : tf_S} {x y : Int32} {hb hh st : Nat}
    (hx : (x = -1 ∧ hh = hb) ∨ ∃ a a', 4 ≤ a ∧ a < w ∧ a' < nT ∧ x = nI a ∧ y = nI a' ∧ hh = hb + 1 ∧ σ 33 hb = nI a ∧ σ 34 hb = nI a') (fr : tf_fX K σ) (hbw : hb + w ≤ 81) (vx : tf_vX σ nT) (sx : tf_sX K nT σ (tf_bX σ) w) (hst : st + 2 * w + 2 * tf_un σ w ≤ 6400) :
    tf_OX K nT x1 x2 w σ hb hh st (if x = -1 then (0, tf_bX σ) else tf_ms K n (tf_bX σ) x.toNatClampNeg y.toNatClampNeg) 1 (2 * w + 2 * tf_un σ w) := by
  have hT := W.1.2.2.2.2.2
  rcases hx with ⟨e, eh⟩ | ⟨a, a', a4, aw, a't, ex, ey, eh, p1, p2⟩
  · subst eh
    rw [if_pos e]
    exact ⟨σ, 0, fun _ _ _ _ _ => rfl, fun _ _ => ⟨rfl, rfl⟩, fun _ _ => rfl, Or.inl ⟨rfl, rfl, vx, sx, by omega, fun m => rfl⟩⟩
  · subst eh
    have q : ¬ x = -1 := by rw [ex]; exact tf_m1ne a (by omega)
    rw [if_neg q, ex, ey, nI_clamp (by omega), nI_clamp (by omega)]
    have u1 := tf_un_up σ (show a + 1 ≤ w by omega)
    have g := IH a a' σ (hb + 1) st (by omega) hn (by omega) (by omega) a't fr (by omega) (by omega) (by rw [show hb + 1 - 1 = hb by omega]; exact p1) (by rw [show hb + 1 - 1 = hb by omega]; exact p2) vx (fun p q h1 h2 => sx p q h1 (by omega)) (by omega)
    rw [show hb + 1 - 1 = hb by omega] at g
    obtain ⟨σ', k, f1, f2, f3, res⟩ := g
    refine ⟨σ', k, f1, f2, fun p hp => f3 p (by omega), ?_⟩
    rcases res with ⟨r0, rb, rv, rs, rk, rf⟩ | ⟨r0, rk, rf⟩
    · have xx : tf_ext (tf_bX σ) (tf_ms K n (tf_bX σ) a a').2 := tf_ms_ext n a a' _ _ (Prod.ext r0 rfl)
      have li := tf_un_lift (show a + 1 ≤ w by omega) f3
      refine Or.inl ⟨r0, rb, rv, fun p q h1 h2 h3 h4 => ?_, by omega, rf⟩
      rcases Nat.lt_or_ge p (a + 1) with z | z
      · exact rs p q h1 z h3 h4
      · rw [f3 p z] at h4
        exact tf_ms_mono W 80 p q _ _ h3 (by omega) (by omega) (sx p q h1 h2 h3 h4) xx
    · exact Or.inr ⟨r0, by omega, rf⟩
theorem tf_fX.tr {a b c : tf_S} (p : tf_fX a b) (q : tf_fX b c) : tf_fX a c := fun k h1 h2 h3 h4 => (q k h1 h2 h3 h4).trans (p k h1 h2 h3 h4)
theorem tf_pw_fr (σ : tf_S) (k : Nat) (x y : Int32) : (∀ c, c ≠ 33 → c ≠ 34 → (tf_pw σ k x y).2 c = σ c) ∧ (∀ i, i ≠ k → (tf_pw σ k x y).2 33 i = σ 33 i ∧ (tf_pw σ k x y).2 34 i = σ 34 i) ∧ (x = -1 → (tf_pw σ k x y).1 = k) ∧ (x ≠ -1 → (tf_pw σ k x y).1 = k + 1 ∧ (tf_pw σ k x y).2 33 k = x ∧ (tf_pw σ k x y).2 34 k = y) := by
  unfold tf_pw
  by_cases z : x = -1
  · rw [if_pos z]
    exact ⟨fun _ _ _ => rfl, fun _ _ => ⟨rfl, rfl⟩, fun _ => rfl, fun q => absurd z q⟩
  · rw [if_neg z]
    refine ⟨fun c h1 h2 => ?_, fun i hi => ⟨?_, ?_⟩, fun q => absurd q z, fun _ => ⟨rfl, ?_, ?_⟩⟩
    · show tf_wr (tf_wr σ 33 k x) 34 k y c = σ c
      rw [tf_wr_o _ _ _ h2, tf_wr_o _ _ _ h1]
    · show tf_wr (tf_wr σ 33 k x) 34 k y 33 i = σ 33 i
      rw [tf_wr_o _ _ _ (by decide), tf_wr_s, pk_un hi]
    · show tf_wr (tf_wr σ 33 k x) 34 k y 34 i = σ 34 i
      rw [tf_wr_s, pk_un hi, tf_wr_o _ _ _ (by decide)]
    · show tf_wr (tf_wr σ 33 k x) 34 k y 33 k = x
      rw [tf_wr_o _ _ _ (by decide), tf_wr_s, pk_us]
    · show tf_wr (tf_wr σ 33 k x) 34 k y 34 k = y
      rw [tf_wr_s, pk_us]
set_option maxHeartbeats 2000000 in
theorem tf_matchX_rec {K : tf_S} {nC nT : Nat} {x1 x2 : Int32} (W : tf_WF K nC nT) : ∀ n, tf_PXn K nT x1 x2 n := by
  have hT := W.1.2.2.2.2.2
  intro n
  induction n with
  | zero => intro w v σ h st hw; omega
  | succ n IH =>
  intro w v σ h st hw hn hk hwT hvT fr h1 hh ew ev vx sx hst
  by_cases hv4 : w = 4 ∨ w = 5
  · -- a variable
    obtain ⟨i, hi, rfl⟩ : ∃ i, i < 2 ∧ w = 4 + i := ⟨w - 4, by omega, by omega⟩
    have s := fun m => matchX_var (x1 := x1) (x2 := x2) (σ := σ) (i := i) (v := v) (h := h) (st := st) hi h1 (by omega) (by omega) (by omega) ew ev m
    have fr' : tf_fX σ (if σ 31 i = -1 then tf_wr σ 31 i (nI v) else σ) := by
      intro c c31 _ _ _
      by_cases z : σ 31 i = -1
      · rw [if_pos z, tf_wr_o _ _ _ c31]
      · rw [if_neg z]
    have e32 : (if σ 31 i = -1 then tf_wr σ 31 i (nI v) else σ) 32 = σ 32 := by
      by_cases z : σ 31 i = -1
      · rw [if_pos z, tf_wr_o _ _ _ (by decide)]
      · rw [if_neg z]
    have e33 : (if σ 31 i = -1 then tf_wr σ 31 i (nI v) else σ) 33 = σ 33 := by
      by_cases z : σ 31 i = -1
      · rw [if_pos z, tf_wr_o _ _ _ (by decide)]
      · rw [if_neg z]
    have e34 : (if σ 31 i = -1 then tf_wr σ 31 i (nI v) else σ) 34 = σ 34 := by
      by_cases z : σ 31 i = -1
      · rw [if_pos z, tf_wr_o _ _ _ (by decide)]
      · rw [if_neg z]
    have er : (tf_ms K (n + 1) (tf_bX σ) (4 + i) v).1 = (tf_bi (σ 31 i) (nI v)).1 ∧ ((tf_bi (σ 31 i) (nI v)).1 = 0 → tf_bX (if σ 31 i = -1 then tf_wr σ 31 i (nI v) else σ) = (tf_ms K (n + 1) (tf_bX σ) (4 + i) v).2) := by
      rcases (show i = 0 ∨ i = 1 by omega) with rfl | rfl
      · rw [tf_ms, if_pos (show 4 + 0 = 4 from rfl)]
        refine ⟨rfl, fun q => ?_⟩
        unfold tf_bX tf_bi
        by_cases z : σ 31 0 = -1
        · rw [if_pos z]
          show (tf_wr σ 31 0 (nI v) 31 0, tf_wr σ 31 0 (nI v) 31 1) = ((if σ 31 0 = -1 then ((0 : Int32), nI v) else if σ 31 0 = nI v then (0, σ 31 0) else (2, σ 31 0)).2, σ 31 1)
          rw [if_pos z, tf_wr_s, pk_us, pk_un (by decide)]
        · rw [if_neg z]
          show (σ 31 0, σ 31 1) = ((if σ 31 0 = -1 then ((0 : Int32), nI v) else if σ 31 0 = nI v then (0, σ 31 0) else (2, σ 31 0)).2, σ 31 1)
          rw [if_neg z]
          by_cases y : σ 31 0 = nI v
          · rw [if_pos y]
          · rw [if_neg y]
      · rw [tf_ms, if_neg (show ¬ 4 + 1 = 4 by decide), if_pos (show 4 + 1 = 5 from rfl)]
        refine ⟨rfl, fun q => ?_⟩
        unfold tf_bX tf_bi
        by_cases z : σ 31 1 = -1
        · rw [if_pos z]
          show (tf_wr σ 31 1 (nI v) 31 0, tf_wr σ 31 1 (nI v) 31 1) = (σ 31 0, (if σ 31 1 = -1 then ((0 : Int32), nI v) else if σ 31 1 = nI v then (0, σ 31 1) else (2, σ 31 1)).2)
          rw [if_pos z, tf_wr_s, pk_us, pk_un (by decide)]
        · rw [if_neg z]
          show (σ 31 0, σ 31 1) = (σ 31 0, (if σ 31 1 = -1 then ((0 : Int32), nI v) else if σ 31 1 = nI v then (0, σ 31 1) else (2, σ 31 1)).2)
          rw [if_neg z]
          by_cases y : σ 31 1 = nI v
          · rw [if_pos y]
          · rw [if_neg y]
    generalize (if σ 31 i = -1 then tf_wr σ 31 i (nI v) else σ) = σ1 at s fr' e32 e33 e34 er
    refine ⟨σ1, 1, fr', fun j _ => by rw [e33, e34]; exact ⟨rfl, rfl⟩, fun p _ => by rw [e32], ?_⟩
    by_cases z : (tf_bi (σ 31 i) (nI v)).1 = 0
    · refine Or.inl ⟨er.1.trans z, er.2 z, fun p h1 h2 => by rw [e32]; exact vx p h1 h2, fun p q h1 h2 => absurd h1 (by omega), ?_, fun m => by rw [s, if_pos z]⟩
      rw [tf_un_cg (4 + i + 1) (fun p _ => by rw [e32])]; omega
    · exact Or.inr ⟨by rw [er.1]; exact z, by omega, fun m => by rw [s, if_neg z, er.1]⟩
  · -- a class type
    have w6 : 6 ≤ w := by omega
    have w4 : w ≠ 4 := by omega
    have w5 : w ≠ 5 := by omega
    have c9 : σ 9 = K 9 := fr 9 (by decide) (by decide) (by decide) (by decide)
    have c10 : σ 10 = K 10 := fr 10 (by decide) (by decide) (by decide) (by decide)
    have c11 : σ 11 = K 11 := fr 11 (by decide) (by decide) (by decide) (by decide)
    have kk : K 9 w = K 9 v → ((K 10 w = -1 ∧ K 10 v = -1) ∨ (K 10 w ≠ -1 ∧ K 10 v ≠ -1)) ∧ ((K 11 w = -1 ∧ K 11 v = -1) ∨ (K 11 w ≠ -1 ∧ K 11 v ≠ -1)) := by
      intro e
      obtain ⟨v6, k1, k2⟩ := tf_kids W w6 hwT hvT e
      exact ⟨k1.imp id (fun ⟨a, a', a1, a2, a3, a4, a5, a6⟩ => ⟨by rw [a5]; exact tf_m1ne a (by omega), by rw [a6]; exact tf_m1ne a' (by omega)⟩), k2.imp id (fun ⟨a, a', a1, a2, a3, a4, a5, a6⟩ => ⟨by rw [a5]; exact tf_m1ne a (by omega), by rw [a6]; exact tf_m1ne a' (by omega)⟩)⟩
    have s := fun m => matchX_cls (x1 := x1) (x2 := x2) (σ := σ) (w := w) (v := v) (h := h) (st := st) w6 (by omega) h1 (by omega) (by omega) (by omega) ew ev (fun e => by rw [c9] at e; rw [c10]; exact (kk e).1) (fun e => by rw [c9] at e; rw [c11]; exact (kk e).2) m
    rw [c9, c10, c11] at s
    by_cases e : K 9 w = K 9 v
    case neg =>
      have er : tf_ms K (n + 1) (tf_bX σ) w v = (1, tf_bX σ) := by rw [tf_ms, if_neg w4, if_neg w5, if_neg e]
      refine ⟨σ, 1, fun _ _ _ _ _ => rfl, fun _ _ => ⟨rfl, rfl⟩, fun _ _ => rfl, Or.inr ⟨by rw [er]; show (1 : Int32) ≠ 0; decide, by omega, fun m => by rw [s, if_neg e, er]⟩⟩
    obtain ⟨v6, k1, k2⟩ := tf_kids W w6 hwT hvT e
    by_cases q : σ 32 w = nI v
    · have m80 := sx w v w6 (by omega) hvT q
      have er : tf_ms K (n + 1) (tf_bX σ) w v = (0, tf_bX σ) := by rw [tf_ms_fuel W (n + 1) 80 w v _ hw (by omega) hvT hwT hk]; exact m80
      rw [er]
      exact ⟨σ, 1, fun _ _ _ _ _ => rfl, fun _ _ => ⟨rfl, rfl⟩, fun _ _ => rfl, Or.inl ⟨rfl, rfl, vx, sx, by omega, fun m => by rw [s, if_pos e, if_pos q]⟩⟩
    · -- it is gone into
      have s : ∀ m, fX3_match_22 x1 x2 (m + 1) σ (nI h) 0 (nI st) = fX3_match_22 x1 x2 m (tf_pw (tf_pw (tf_wr σ 32 w (nI v)) (h - 1) (K 11 w) (K 11 v)).2 (tf_pw (tf_wr σ 32 w (nI v)) (h - 1) (K 11 w) (K 11 v)).1 (K 10 w) (K 10 v)).2 (nI (tf_pw (tf_pw (tf_wr σ 32 w (nI v)) (h - 1) (K 11 w) (K 11 v)).2 (tf_pw (tf_wr σ 32 w (nI v)) (h - 1) (K 11 w) (K 11 v)).1 (K 10 w) (K 10 v)).1) 0 (nI (st + 1)) := fun m => by rw [s, if_pos e, if_neg q]
      have o32 : tf_wr σ 32 w (nI v) 32 = upd (σ 32) w (nI v) := tf_wr_s _ _ _ _
      have oo : ∀ c, c ≠ 32 → tf_wr σ 32 w (nI v) c = σ c := fun c hc => tf_wr_o _ _ _ hc
      generalize tf_wr σ 32 w (nI v) = σ1 at s o32 oo
      obtain ⟨p1, p2, p3, p4⟩ := tf_pw_fr σ1 (h - 1) (K 11 w) (K 11 v)
      generalize tf_pw σ1 (h - 1) (K 11 w) (K 11 v) = e2 at s p1 p2 p3 p4
      obtain ⟨g2, σ2⟩ := e2
      obtain ⟨q1, q2, q3, q4⟩ := tf_pw_fr σ2 g2 (K 10 w) (K 10 v)
      dsimp only at s p1 p2 p3 p4
      generalize tf_pw σ2 g2 (K 10 w) (K 10 v) = e3 at s q1 q2 q3 q4
      obtain ⟨g3, σ3⟩ := e3
      dsimp only at s q1 q2 q3 q4
      have g2l : h - 1 ≤ g2 ∧ g2 ≤ h := by
        by_cases z : K 11 w = -1
        · have := p3 z; omega
        · have := (p4 z).1; omega
      have fo : ∀ c, c ≠ 32 → c ≠ 33 → c ≠ 34 → σ3 c = σ c := fun c h2 h3 h4 => (q1 c h3 h4).trans ((p1 c h3 h4).trans (oo c h2))
      have r32 : σ3 32 = upd (σ 32) w (nI v) := (q1 32 (by decide) (by decide)).trans ((p1 32 (by decide) (by decide)).trans o32)
      have fr3 : tf_fX K σ3 := fun c h1 h2 h3 h4 => (fo c h2 h3 h4).trans (fr c h1 h2 h3 h4)
      have b3 : tf_bX σ3 = tf_bX σ := by unfold tf_bX; rw [fo 31 (by decide) (by decide) (by decide)]
      have low3 : ∀ i, i < h - 1 → σ3 33 i = σ 33 i ∧ σ3 34 i = σ 34 i := fun i hi => by
        have a1 := q2 i (by omega)
        have a2 := p2 i (by omega)
        rw [a1.1, a1.2, a2.1, a2.2, oo 33 (by decide), oo 34 (by decide)]; exact ⟨rfl, rfl⟩
      have u3 : tf_un σ3 w = tf_un σ w := tf_un_cg w (fun p hp => by rw [r32, pk_un (by omega)])
      have uw := tf_un_up σ (show w ≤ w + 1 by omega)
      have vx3 : tf_vX σ3 nT := fun p h1 h2 => by
        rw [r32]
        by_cases z : p = w
        · subst z; rw [pk_us]; exact Or.inr ⟨v, hvT, rfl⟩
        · rw [pk_un z]; exact vx p h1 h2
      have sx3 : tf_sX K nT σ3 (tf_bX σ3) w := fun p q' h1 h2 h3 h4 => by
        rw [r32, pk_un (by omega)] at h4
        rw [b3]; exact sx p q' h1 (by omega) h3 h4
      have hx1 : (K 10 w = -1 ∧ g3 = g2) ∨ ∃ a a', 4 ≤ a ∧ a < w ∧ a' < nT ∧ K 10 w = nI a ∧ K 10 v = nI a' ∧ g3 = g2 + 1 ∧ σ3 33 g2 = nI a ∧ σ3 34 g2 = nI a' := by
        rcases k1 with ⟨z, -⟩ | ⟨a, a', a1, a2, a3, a4, a5, a6⟩
        · exact Or.inl ⟨z, q3 z⟩
        · obtain ⟨t1, t2, t3⟩ := q4 (by rw [a5]; exact tf_m1ne a (by omega))
          exact Or.inr ⟨a, a', a1, a2, by omega, a5, a6, t1, t2.trans a5, t3.trans a6⟩
      have O1 := tf_optX W IH (show w ≤ n by omega) (by omega) hwT (y := K 10 v) (hb := g2) (hh := g3) (st := st + 1) hx1 fr3 (by omega) vx3 sx3 (by rw [u3]; omega)
      rw [b3, u3] at O1
      obtain ⟨σ4, kk1, f1, f2, f3, res1⟩ := O1
      have emc := tf_ms_cl (K := K) (n := n) (b := tf_bX σ) w4 w5 e
      generalize hr1 : (if K 10 w = -1 then ((0 : Int32), tf_bX σ) else tf_ms K n (tf_bX σ) (K 10 w).toNatClampNeg (K 10 v).toNatClampNeg) = r1 at res1 emc
      have emc : tf_ms K (n + 1) (tf_bX σ) w v = if r1.1 = 0 then (if K 11 w = -1 then r1 else tf_ms K n r1.2 (K 11 w).toNatClampNeg (K 11 v).toNatClampNeg) else r1 := emc
      have fx34 : tf_fX σ σ4 := fun c h1 h2 h3 h4 => (f1 c h1 h2 h3 h4).trans (fo c h2 h3 h4)
      have hi34 : ∀ p, w + 1 ≤ p → σ4 32 p = σ 32 p := fun p hp => by rw [f3 p (by omega), r32, pk_un (by omega)]
      have low4 : ∀ i, i < h - 1 → σ4 33 i = σ 33 i ∧ σ4 34 i = σ 34 i := fun i hi => by
        have a1 := f2 i (by omega)
        rw [a1.1, a1.2]; exact low3 i hi
      rcases res1 with ⟨z1, z2, z3, z4, z5, z6⟩ | ⟨z1, z5, z6⟩
      case inr =>
        rw [if_neg z1] at emc
        rw [emc]
        refine ⟨σ4, kk1 + 1, fx34, low4, hi34, Or.inr ⟨z1, by omega, fun m => ?_⟩⟩
        rw [show m + (kk1 + 1) = m + kk1 + 1 by omega, s, z6]
      rw [if_pos z1] at emc
      have hx2 : (K 11 w = -1 ∧ g2 = h - 1) ∨ ∃ a a', 4 ≤ a ∧ a < w ∧ a' < nT ∧ K 11 w = nI a ∧ K 11 v = nI a' ∧ g2 = h - 1 + 1 ∧ σ4 33 (h - 1) = nI a ∧ σ4 34 (h - 1) = nI a' := by
        rcases k2 with ⟨z, -⟩ | ⟨a, a', a1, a2, a3, a4, a5, a6⟩
        · exact Or.inl ⟨z, p3 z⟩
        · obtain ⟨t1, t2, t3⟩ := p4 (by rw [a5]; exact tf_m1ne a (by omega))
          have u := f2 (h - 1) (by omega)
          have u' := q2 (h - 1) (by omega)
          exact Or.inr ⟨a, a', a1, a2, by omega, a5, a6, t1, by rw [u.1, u'.1, t2]; exact a5, by rw [u.2, u'.2, t3]; exact a6⟩
      have O2 := tf_optX W IH (show w ≤ n by omega) (by omega) hwT (σ := σ4) (y := K 11 v) (hb := h - 1) (hh := g2) (st := st + 1 + kk1) hx2 (fr.tr fx34) (by omega) z3 (by rw [z2]; exact z4) (by omega)
      rw [z2] at O2
      obtain ⟨σ5, kk2, y1, y2, y3, res2⟩ := O2
      have er1 : r1 = (0, r1.2) := Prod.ext z1 rfl
      have emc2 : tf_ms K (n + 1) (tf_bX σ) w v = if K 11 w = -1 then (0, r1.2) else tf_ms K n r1.2 (K 11 w).toNatClampNeg (K 11 v).toNatClampNeg := by
        rw [emc]
        by_cases z : K 11 w = -1
        · rw [if_pos z, if_pos z]; exact er1
        · rw [if_neg z, if_neg z]
      rw [← emc2] at res2
      have fx5 : tf_fX σ σ5 := fx34.tr y1
      have hi5 : ∀ p, w + 1 ≤ p → σ5 32 p = σ 32 p := fun p hp => (y3 p (by omega)).trans (hi34 p hp)
      have low5 : ∀ i, i < h - 1 → σ5 33 i = σ 33 i ∧ σ5 34 i = σ 34 i := fun i hi => ⟨(y2 i hi).1.trans (low4 i hi).1, (y2 i hi).2.trans (low4 i hi).2⟩
      rcases res2 with ⟨t1, t2, t3, t4, t5, t6⟩ | ⟨t1, t5, t6⟩
      case inr =>
        refine ⟨σ5, kk1 + kk2 + 1, fx5, low5, hi5, Or.inr ⟨t1, by omega, fun m => ?_⟩⟩
        rw [show m + (kk1 + kk2 + 1) = m + kk2 + kk1 + 1 by omega, s, z6, t6]
      have e5w : σ5 32 w = nI v := by rw [y3 w (Nat.le_refl _), f3 w (Nat.le_refl _), r32, pk_us]
      generalize hrr : tf_ms K (n + 1) (tf_bX σ) w v = r at t1 t2 t4 t6 ⊢
      have hrr0 : tf_ms K (n + 1) (tf_bX σ) w v = (0, r.2) := by rw [hrr]; exact Prod.ext t1 rfl
      have done : tf_ms K 80 r.2 w v = (0, r.2) := by
        rw [← tf_ms_fuel W (n + 1) 80 w v _ hw (by omega) hvT hwT hk]
        exact tf_ms_idem W (n + 1) w v _ _ hvT hwT hk hrr0
      have fresh : σ 32 w = -1 := by
        rcases vx w w6 (by omega) with z | ⟨q0, hq0, z⟩
        · exact z
        · have a1 := sx w q0 w6 (by omega) hq0 z
          have a2 := tf_ms_mono W 80 w q0 _ r.2 hq0 hwT hk a1 (tf_ms_ext _ _ _ _ _ hrr0)
          have a3 := tf_ms_uniq W 80 w v q0 r.2 (by omega) hvT hq0 hwT hk done a2
          rw [a3] at q
          exact absurd z q
      have n1 : tf_un σ (w + 1) = tf_un σ w + 1 := by rw [tf_un, if_pos ⟨w6, fresh⟩]
      have n2 : tf_un σ5 (w + 1) = tf_un σ5 w := by rw [tf_un, if_neg (fun z => tf_m1ne v (by omega) (e5w.symm.trans z.2))]; rfl
      refine ⟨σ5, kk1 + kk2 + 1, fx5, low5, hi5, Or.inl ⟨t1, t2, t3, fun p q' h1 h2 h3 h4 => ?_, by omega, fun m => ?_⟩⟩
      · rcases Nat.lt_or_ge p w with z | z
        · exact t4 p q' h1 z h3 h4
        · have ep : p = w := by omega
          subst ep
          rw [e5w] at h4
          have eq' : v = q' := (nI_eq (by omega) (by omega)).mp h4
          rw [← eq']; exact done
      · rw [show m + (kk1 + kk2 + 1) = m + kk2 + kk1 + 1 by omega, s, z6, t6, show st + 1 + kk1 + kk2 = st + (kk1 + kk2 + 1) by omega]
