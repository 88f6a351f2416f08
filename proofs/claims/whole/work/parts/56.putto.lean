/-! pure part 17: PUT TO, whole -/
theorem tf_pbn (σ : tf_S) (nT : Nat) : tf_pb σ nT (-1) := Or.inl rfl
def tf_s2 (σ : tf_S) : tf_S := tf_hs (tf_hs σ 32 (tf_fl (σ 32) 80 (-1 : Int32))) 31 (tf_fl ((tf_hs σ 32 (tf_fl (σ 32) 80 (-1 : Int32))) 31) 2 (-1 : Int32))
theorem tf_s2f (σ : tf_S) : tf_fX σ (tf_s2 σ) := fun c c31 c32 _ _ => by unfold tf_s2; rw [tf_hs_o _ _ c31, tf_hs_o _ _ c32]
theorem tf_s2b (σ : tf_S) {i : Nat} (h : i < 2) : tf_s2 σ 31 i = -1 := by unfold tf_s2; rw [tf_hs_s]; unfold tf_fl; rw [if_pos h]
theorem tf_s2a (σ : tf_S) {p : Nat} (h : p < 80) : tf_s2 σ 32 p = -1 := by unfold tf_s2; rw [tf_hs_o _ _ (by decide), tf_hs_s]; unfold tf_fl; rw [if_pos h]
def tf_s4 (σ : tf_S) : tf_S := tf_wr (tf_wr σ 15 0 (-1 : Int32)) 15 1 (-1 : Int32)
theorem tf_s4f (σ : tf_S) : tf_fM σ (tf_s4 σ) := ⟨fun c _ c15 _ _ => by unfold tf_s4; rw [tf_wr_o _ _ _ c15, tf_wr_o _ _ _ c15], fun j _ _ => by unfold tf_s4; rw [tf_wr_o _ _ _ (by decide), tf_wr_o _ _ _ (by decide)]⟩
theorem tf_s4b (σ : tf_S) {i : Nat} (h : i < 2) : tf_s4 σ 15 i = -1 := by
  unfold tf_s4
  rcases (show i = 0 ∨ i = 1 by omega) with rfl | rfl
  · rw [tf_wr_s, pk_un (by decide), tf_wr_s, pk_us]
  · rw [tf_wr_s, pk_us]
theorem tf_PO.tail {σ : tf_S} : σ = σ := rfl
set_option maxHeartbeats 1000000 in
/-- PUT TO, on both sides -/
theorem tf_putTo_sim {σx σm : tf_S} {nC nT f a t w1 : Nat} {y : Int32} (W : tf_WF σx nC nT) (T : tf_TM σx σm nC nT) (hf : f < 16) (ha : a < nT) (ca : σx 12 a = 0) (e1 : σx 17 f = nI w1) (m1 : σm 11 f = nI w1) (h1 : w1 < nT)
    (e2 : (σm 12 f = -1 ∧ y = -1) ∨ ∃ w2 b, σx 18 f = nI w2 ∧ σm 12 f = nI w2 ∧ w2 < nT ∧ y = nI b ∧ b < nT ∧ σx 12 b = 0)
    (el : ∀ i, i < 2 → σm 14 (2 * f + i) = σx 20 (2 * f + i)) (pl : ∀ i, i < 2 → tf_pb σx nT (σx 20 (2 * f + i))) (er : σx 19 f = nI t) (emr : σm 13 f = nI t) (ht : t < nT) :
    ∃ r σx' σm', fX3_putTo σx (nI f) (nI a) y = some (r, σx') ∧ fX7_putTo σm (nI f) (nI a) y = some (r, σm') ∧ tf_PO σx σm nC nT r σx' σm' := by
  have hn := W.1.2.2.2.2.2
  have jf : tf_inb (nI f) 16 = true := tf_ib hf (by decide)
  have cf : (nI f).toNatClampNeg = f := nI_clamp (by omega)
  have i0 : tf_inb (0 : Int32) 2 = true := tf_ib (k := 0) (by decide) (by decide)
  have i1 : tf_inb (1 : Int32) 2 = true := tf_ib (k := 1) (by decide) (by decide)
  have fx := tf_s2f σx
  have fm := tf_s4f σm
  have b0 := tf_s2b σx (show 0 < 2 by decide)
  have b1 := tf_s2b σx (show 1 < 2 by decide)
  have c0 := tf_s4b σm (show 0 < 2 by decide)
  have c1 := tf_s4b σm (show 1 < 2 by decide)
  have al := fun p (h : p < 80) => tf_s2a σx h
  unfold fX3_putTo fX7_putTo
  rw [tf_gle, tf_gle, if_pos i0, tf_gle, if_pos i1, tf_gle, sb_cl0, tf_cl1]
  change ∃ r σx' σm', (if tf_inb (nI f) 16 = true then (fX3_take (tf_s2 σx) (tf_s2 σx 17 (nI f).toNatClampNeg) (nI a)).bind _ else none) = some (r, σx') ∧ (if tf_inb (nI f) 16 = true then (fX7_takes (tf_s4 σm) (tf_s4 σm 11 (nI f).toNatClampNeg) (nI a)).bind _ else none) = some (r, σm') ∧ _
  generalize tf_s2 σx = s at fx b0 b1 al ⊢
  generalize tf_s4 σm = m at fm c0 c1 ⊢
  have s17 : s 17 f = nI w1 := by rw [fx 17 (by decide) (by decide) (by decide) (by decide)]; exact e1
  have n11 : m 11 f = nI w1 := by rw [fm.1 11 (by decide) (by decide) (by decide) (by decide)]; exact m1
  have Ws := fx.WF W
  have Ts : tf_TM s m nC nT := (fx.TM T).keep fm
  have ebs : tf_bX s = tf_bM m := by unfold tf_bX tf_bM; rw [b0, b1, c0, c1]
  obtain ⟨c, sx, sm, n1, tx, tm, W1, T1, l1, G1, H1, o0, on, cv⟩ := tf_take_sim (w := w1) (v := a) Ws Ts h1 ha (by rw [fx 12 (by decide) (by decide) (by decide) (by decide)]; exact ca) ebs (by unfold tf_bX; rw [b0]; exact tf_pbn _ _) (by unfold tf_bX; rw [b1]; exact tf_pbn _ _) (fun p _ h => Or.inl (al p h))
  rw [if_pos jf, if_pos jf, cf, s17, n11, tx, tm, tf_bse, tf_bse, tf_gle]
  have w63 : tf_wr sx 6 3 c 6 3 = c := by rw [tf_wr_s, pk_us]
  have Hs : tf_Hx σx (tf_wr sx 6 3 c) nT := ((fx.G (nT := nT)).tr G1 (Nat.le_refl _)).H.tr (tf_Hw (nT := nT) (Or.inr rfl)) (Nat.le_refl _)
  have Gs : tf_Gm σm sm := fm.G.tr H1
  have s5 : tf_wr sx 6 3 c 5 = σx 5 := by
    rw [tf_wr_o _ _ _ (by decide), G1.1 5 (by decide) (by decide) (by decide) (by decide) (by decide) (by decide) (by decide) (by decide) (by decide) (by decide) (by decide)]
    exact fx 5 (by decide) (by decide) (by decide) (by decide)
  have W1' : tf_WF (tf_wr sx 6 3 c) nC n1 := tf_WFw (Or.inr rfl) W1
  have T1' : tf_TM (tf_wr sx 6 3 c) sm nC n1 := tf_TMw (Or.inr rfl) T1
  have k17 : ∀ k, (k = 18 ∨ k = 19 ∨ k = 20) → tf_wr sx 6 3 c k = σx k := fun k hk => Hs.1 k (by omega) (by omega) (by omega) (by omega) (by omega) (by omega) (by omega) (by omega) (by omega) (by omega) (by omega) (by omega) (by omega)
  have k12 : ∀ k, (k = 12 ∨ k = 13 ∨ k = 14) → sm k = σm k := fun k hk => Gs.1 k (by omega) (by omega) (by omega) (by omega) (by omega) (by omega) (by omega) (by omega) (by omega) (by omega)
  by_cases z : c = 0
  · obtain ⟨q1, q2, q3, q4⟩ := o0 z
    have r31 : tf_bX (tf_wr sx 6 3 c) = tf_bX sx := by unfold tf_bX; rw [tf_wr_o _ _ _ (by decide)]
    have q1' : tf_bX (tf_wr sx 6 3 c) = tf_bM sm := by rw [r31]; exact q1
    have up : ∀ x, tf_pb sx n1 x → tf_pb (tf_wr sx 6 3 c) n1 x := fun x h => h.up (fun u _ => by rw [tf_wr_o _ _ _ (by decide)]) (Nat.le_refl _)
    have q2' : tf_pb (tf_wr sx 6 3 c) n1 (tf_bX (tf_wr sx 6 3 c)).1 := by rw [r31]; exact up _ q2
    have q3' : tf_pb (tf_wr sx 6 3 c) n1 (tf_bX (tf_wr sx 6 3 c)).2 := by rw [r31]; exact up _ q3
    have el1 : ∀ i, i < 2 → sm 14 (2 * f + i) = tf_wr sx 6 3 c 20 (2 * f + i) := fun i hi => by rw [k12 14 (by omega), k17 20 (by omega)]; exact el i hi
    have pl1 : ∀ i, i < 2 → tf_pb (tf_wr sx 6 3 c) n1 (tf_wr sx 6 3 c 20 (2 * f + i)) := fun i hi => by rw [k17 20 (by omega)]; exact (pl i hi).up (fun u hu => (Hs.2.2 u hu).2.2.2) l1
    have er1 : tf_wr sx 6 3 c 19 f = nI t := by rw [k17 19 (by omega)]; exact er
    have mr1 : sm 13 f = nI t := by rw [k12 13 (by omega)]; exact emr
    dsimp only
    have zz : tf_wr sx 6 3 c 6 3 = 0 := by rw [w63]; exact z
    rw [if_pos zz, if_pos zz, if_neg (show ¬ (if c = 0 then (1 : Int32) else 0) = 0 by rw [if_pos z]; decide), if_pos jf]
    rcases e2 with ⟨y1, y2⟩ | ⟨w2, b, y1, y2, y3, y4, y5, y6⟩
    · rw [if_pos y2, if_pos jf, if_pos (show sm 12 f = -1 by rw [k12 12 (by omega)]; exact y1)]
      obtain ⟨r, x', m', ex, em, O⟩ := tf_tail_sim (x2 := nI a) (x3 := y) W1' T1' hf q1' q2' q3' el1 pl1 er1 mr1 (show t < n1 by omega)
      exact ⟨r, x', m', ex, em, O.pre Hs Gs s5 l1⟩
    · have ny : ¬ y = -1 := by rw [y4]; exact tf_m1ne _ (by omega)
      have nw : ¬ sm 12 f = -1 := by rw [k12 12 (by omega), y2]; exact tf_m1ne _ (by omega)
      rw [if_neg ny, if_neg nw, if_pos jf, if_pos jf, k17 18 (by omega), k12 12 (by omega), y1, y2, y4]
      have ax' : tf_aX (tf_wr sx 6 3 c) (tf_wr sx 6 3 c) n1 (tf_bX (tf_wr sx 6 3 c)) := by
        rw [r31]
        intro p p6 p80
        rw [tf_wr_o _ _ _ (show 32 ≠ 6 by decide)]
        refine (q4 p p6 p80).imp id (fun ⟨g1, q, g2, g3, g4⟩ => ⟨g1, q, g2, g3, ?_⟩)
        rw [tf_ms_cg W1 (fun u _ => by rw [tf_wr_o _ _ _ (by decide), tf_wr_o _ _ _ (by decide), tf_wr_o _ _ _ (by decide)]; exact ⟨rfl, rfl, rfl⟩) 80 p q _ g1 g2 (by omega)]
        exact g4
      generalize tf_wr sx 6 3 c = s' at w63 Hs s5 W1' T1' k17 q1' q2' q3' el1 pl1 er1 ax' ⊢
      obtain ⟨d, sx2, sm2, n2, tx2, tm2, W2, T2, l2, G2, H2, p0, pn, dv⟩ := tf_take_sim (w := w2) (v := b) W1' T1' (by omega) (by omega) (by rw [(Hs.2.2 b y5).2.2.2]; exact y6) q1' q2' q3' ax'
      rw [tx2, tm2, tf_bse, tf_bse, tf_gle]
      have v63 : tf_wr sx2 6 3 d 6 3 = d := by rw [tf_wr_s, pk_us]
      have Hs2 : tf_Hx σx (tf_wr sx2 6 3 d) nT := (Hs.tr G2.H l1).tr (tf_Hw (nT := n2) (Or.inr rfl)) (by omega)
      have Gs2 : tf_Gm σm sm2 := Gs.tr H2
      have s52 : tf_wr sx2 6 3 d 5 = σx 5 := by
        rw [tf_wr_o _ _ _ (by decide), G2.1 5 (by decide) (by decide) (by decide) (by decide) (by decide) (by decide) (by decide) (by decide) (by decide) (by decide) (by decide)]
        exact s5
      have W2' : tf_WF (tf_wr sx2 6 3 d) nC n2 := tf_WFw (Or.inr rfl) W2
      have T2' : tf_TM (tf_wr sx2 6 3 d) sm2 nC n2 := tf_TMw (Or.inr rfl) T2
      dsimp only
      by_cases zd : d = 0
      · obtain ⟨u1, u2, u3, u4⟩ := p0 zd
        rw [if_pos (show tf_wr sx2 6 3 d 6 3 = 0 by rw [v63]; exact zd), if_neg (show ¬ (if d = 0 then (1 : Int32) else 0) = 0 by rw [if_pos zd]; decide)]
        have r312 : tf_bX (tf_wr sx2 6 3 d) = tf_bX sx2 := by unfold tf_bX; rw [tf_wr_o _ _ _ (by decide)]
        have up2 : ∀ x, tf_pb sx2 n2 x → tf_pb (tf_wr sx2 6 3 d) n2 x := fun x h => h.up (fun u _ => by rw [tf_wr_o _ _ _ (by decide)]) (Nat.le_refl _)
        have k172 : ∀ k, (k = 18 ∨ k = 19 ∨ k = 20) → tf_wr sx2 6 3 d k = σx k := fun k hk => Hs2.1 k (by omega) (by omega) (by omega) (by omega) (by omega) (by omega) (by omega) (by omega) (by omega) (by omega) (by omega) (by omega) (by omega)
        have k122 : ∀ k, (k = 12 ∨ k = 13 ∨ k = 14) → sm2 k = σm k := fun k hk => Gs2.1 k (by omega) (by omega) (by omega) (by omega) (by omega) (by omega) (by omega) (by omega) (by omega) (by omega)
        obtain ⟨r, x', m', ex, em, O⟩ := tf_tail_sim (x2 := nI a) (x3 := nI b) (t := t) W2' T2' hf (by rw [r312]; exact u1) (by rw [r312]; exact up2 _ u2) (by rw [r312]; exact up2 _ u3) (fun i hi => by rw [k122 14 (by omega), k172 20 (by omega)]; exact el i hi) (fun i hi => by rw [k172 20 (by omega)]; exact (pl i hi).up (fun u hu => (Hs2.2.2 u hu).2.2.2) (by omega)) (by rw [k172 19 (by omega)]; exact er) (by rw [k122 13 (by omega)]; exact emr) (show t < n2 by omega)
        exact ⟨r, x', m', ex, em, O.pre Hs2 Gs2 s52 (by omega)⟩
      · rw [if_neg (show ¬ tf_wr sx2 6 3 d 6 3 = 0 by rw [v63]; exact zd), if_pos (show (if d = 0 then (1 : Int32) else 0) = 0 by rw [if_neg zd]), putX80_bad hf (by rw [v63]; exact zd)]
        refine ⟨-1, _, _, rfl, rfl, n2, W2', T2', by omega, Hs2, Gs2, s52, Or.inl ⟨rfl, ?_, ?_⟩⟩
        · rw [v63]; exact zd
        · rw [v63]; exact pn zd
  · dsimp only
    have nz : ¬ tf_wr sx 6 3 c 6 3 = 0 := by rw [w63]; exact z
    rw [if_neg nz, if_neg nz, if_pos (show (if c = 0 then (1 : Int32) else 0) = 0 by rw [if_neg z]), putX80_bad hf nz]
    refine ⟨-1, _, _, rfl, rfl, n1, W1', T1', l1, Hs, Gs, s5, Or.inl ⟨rfl, ?_, ?_⟩⟩
    · rw [w63]; exact z
    · rw [w63]; exact on z
