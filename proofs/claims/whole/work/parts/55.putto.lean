/-! pure part 16: a function put to types, both sides -/
def tf_Hx (σ σ' : tf_S) (nT : Nat) : Prop := (∀ c, c ≠ 1 → c ≠ 5 → c ≠ 6 → c ≠ 9 → c ≠ 10 → c ≠ 11 → c ≠ 12 → c ≠ 13 → c ≠ 14 → c ≠ 31 → c ≠ 32 → c ≠ 33 → c ≠ 34 → σ' c = σ c) ∧ σ' 1 0 = σ 1 0 ∧ ∀ t, t < nT → σ' 9 t = σ 9 t ∧ σ' 10 t = σ 10 t ∧ σ' 11 t = σ 11 t ∧ σ' 12 t = σ 12 t
theorem tf_Gx.H {σ σ' : tf_S} {nT : Nat} (h : tf_Gx σ σ' nT) : tf_Hx σ σ' nT := ⟨fun k q1 _ _ q2 q3 q4 q5 q6 q7 q8 q9 qa qb => h.1 k q1 q2 q3 q4 q5 q6 q7 q8 q9 qa qb, h.2.1, h.2.2⟩
theorem tf_Fx.H {σ σ' : tf_S} {nT : Nat} (h : tf_Fx σ σ' nT) : tf_Hx σ σ' nT := h.G.H
theorem tf_Hx.rf {σ : tf_S} {nT : Nat} : tf_Hx σ σ nT := tf_Gx.rf.H
theorem tf_Hx.tr {a b c : tf_S} {n m : Nat} (h1 : tf_Hx a b n) (h2 : tf_Hx b c m) (h : n ≤ m) : tf_Hx a c n := by
  refine ⟨fun k q1 q2 q3 q4 q5 q6 q7 q8 q9 qa qb qc qd => (h2.1 k q1 q2 q3 q4 q5 q6 q7 q8 q9 qa qb qc qd).trans (h1.1 k q1 q2 q3 q4 q5 q6 q7 q8 q9 qa qb qc qd), h2.2.1.trans h1.2.1, fun t ht => ?_⟩
  obtain ⟨a1, a2, a3, a4⟩ := h1.2.2 t ht
  obtain ⟨b1, b2, b3, b4⟩ := h2.2.2 t (by omega)
  exact ⟨b1.trans a1, b2.trans a2, b3.trans a3, b4.trans a4⟩
theorem tf_Hw {σ : tf_S} {c i nT : Nat} {x : Int32} (hc : c = 5 ∨ c = 6) : tf_Hx σ (tf_wr σ c i x) nT := by
  refine ⟨fun k _ q5 q6 _ _ _ _ _ _ _ _ _ _ => tf_wr_o _ _ _ (by omega), ?_, fun t _ => ?_⟩
  · rw [tf_wr_o _ _ _ (by omega)]
  · rw [tf_wr_o _ _ _ (show 9 ≠ c by omega), tf_wr_o _ _ _ (show 10 ≠ c by omega), tf_wr_o _ _ _ (show 11 ≠ c by omega), tf_wr_o _ _ _ (show 12 ≠ c by omega)]; exact ⟨rfl, rfl, rfl, rfl⟩
theorem tf_WFw {σ : tf_S} {c i nC nT : Nat} {x : Int32} (hc : c = 5 ∨ c = 6) (W : tf_WF σ nC nT) : tf_WF (tf_wr σ c i x) nC nT :=
  tf_WF_cong W (tf_wr_o _ _ _ (by omega)) (tf_wr_o _ _ _ (by omega)) (tf_wr_o _ _ _ (by omega)) (tf_wr_o _ _ _ (by omega)) (tf_wr_o _ _ _ (by omega)) (tf_wr_o _ _ _ (by omega)) (tf_wr_o _ _ _ (by omega))
theorem tf_TMw {σ τ : tf_S} {c i nC nT : Nat} {x : Int32} (hc : c = 5 ∨ c = 6) (T : tf_TM σ τ nC nT) : tf_TM (tf_wr σ c i x) τ nC nT := by
  obtain ⟨m1, m2, m3, m4⟩ := T
  refine ⟨m1, m2, fun k hk => ?_, fun k hk => ?_⟩
  · rw [tf_wr_o _ _ _ (show 7 ≠ c by omega), tf_wr_o _ _ _ (show 8 ≠ c by omega)]; exact m3 k hk
  · rw [tf_wr_o _ _ _ (show 9 ≠ c by omega), tf_wr_o _ _ _ (show 10 ≠ c by omega), tf_wr_o _ _ _ (show 11 ≠ c by omega), tf_wr_o _ _ _ (show 12 ≠ c by omega)]; exact m4 k hk
/-- what putting comes to -/
def tf_PO (σx σm : tf_S) (nC nT : Nat) (r : Int32) (σx' σm' : tf_S) : Prop := ∃ nT', tf_WF σx' nC nT' ∧ tf_TM σx' σm' nC nT' ∧ nT ≤ nT' ∧ tf_Hx σx σx' nT ∧ tf_Gm σm σm' ∧ σx' 5 = σx 5 ∧
  ((r = -1 ∧ σx' 6 3 ≠ 0 ∧ σm' 0 20 = σx' 6 3) ∨ (∃ q, q < nT' ∧ r = nI q ∧ σx' 12 q = 0 ∧ tf_bX σx' = tf_bM σm'))
theorem tf_PO.pre {a b a' b' σx' σm' : tf_S} {nC n m : Nat} {r : Int32} (h : tf_PO a' b' nC m r σx' σm') (hx : tf_Hx a a' n) (hm : tf_Gm b b') (e5 : a' 5 = a 5) (l : n ≤ m) : tf_PO a b nC n r σx' σm' := by
  obtain ⟨k, W, T, le, Hx, Gm, g5, o⟩ := h
  exact ⟨k, W, T, by omega, hx.tr Hx l, hm.tr Gm, g5.trans e5, o⟩
theorem putX80_bad {σ : tf_S} {f : Nat} {x2 x3 : Int32} (hf : f < 16) (h : σ 6 3 ≠ 0) : fX3_putTo_80 (nI f) x2 x3 σ = some (-1, σ) := by
  unfold fX3_putTo_80
  rw [if_pos (tf_ib hf (by decide)), tf_gle, if_neg h]
  unfold fX3_putTo_112
  rw [if_neg h]
theorem orRoom_eq (σ : tf_S) (x : Int32) : fX7_orRoom σ x = some (if x = -3 then -1 else x, tf_wr σ 0 20 (if x = -3 then 8 else 0)) := by
  unfold fX7_orRoom
  by_cases h : x = -3
  · simp only [if_pos h, tf_gle]
  · simp only [if_neg h, tf_gle]
theorem tf_pbv {σ : tf_S} {nT : Nat} {x : Int32} (h : tf_pb σ nT x) : tf_val σ nT True x := h.imp id (fun ⟨r, r1, r2, r3, r4⟩ => ⟨r, by omega, r2, r3, fun _ => r4⟩)
set_option maxHeartbeats 1000000 in
theorem tf_tail_sim {σx σm : tf_S} {nC nT f t : Nat} {x2 x3 : Int32} (W : tf_WF σx nC nT) (T : tf_TM σx σm nC nT) (hf : f < 16) (eb : tf_bX σx = tf_bM σm) (p1 : tf_pb σx nT (tf_bX σx).1) (p2 : tf_pb σx nT (tf_bX σx).2) (el : ∀ i, i < 2 → σm 14 (2 * f + i) = σx 20 (2 * f + i)) (pl : ∀ i, i < 2 → tf_pb σx nT (σx 20 (2 * f + i))) (er : σx 19 f = nI t) (emr : σm 13 f = nI t) (ht : t < nT) :
    ∃ r σx' σm', ((fX3_lookAtBounds σx (nI f)).bind fun u32 => tf_gl (tf_wr u32.2 6 3 u32.1) fun s34 => fX3_putTo_80 (nI f) x2 x3 s34) = some (r, σx') ∧ fX7_putTo_57 (nI f) x2 x3 100000 σm 0 = some (r, σm') ∧ tf_PO σx σm nC nT r σx' σm' := by
  have hn := W.1.2.2.2.2.2
  obtain ⟨c, sx, sm, n1, lx, W1, T1, l1, F1, G1, f1, cv, c0, cn⟩ := tf_look_sim (x2 := x2) (x3 := x3) W T hf eb p1 p2 el pl
  have hn1 := W1.1.2.2.2.2.2
  rw [lx, tf_bse, tf_gle]
  have s5 : sx 5 = σx 5 := F1.1 5 (by decide) (by decide) (by decide) (by decide) (by decide) (by decide) (by decide)
  have w5 : tf_wr sx 6 3 c 5 = σx 5 := by rw [tf_wr_o _ _ _ (by decide)]; exact s5
  have w63 : tf_wr sx 6 3 c 6 3 = c := by rw [tf_wr_s, pk_us]
  have W1' : tf_WF (tf_wr sx 6 3 c) nC n1 := tf_WFw (Or.inr rfl) W1
  have T1' : tf_TM (tf_wr sx 6 3 c) sm nC n1 := tf_TMw (Or.inr rfl) T1
  have H1 : tf_Hx σx (tf_wr sx 6 3 c) nT := F1.H.tr (tf_Hw (nT := n1) (Or.inr rfl)) l1
  have w19 : tf_wr sx 6 3 c 19 f = nI t := by
    rw [tf_wr_o _ _ _ (by decide), F1.1 19 (by decide) (by decide) (by decide) (by decide) (by decide) (by decide) (by decide)]; exact er
  have w31 : tf_wr sx 6 3 c 31 = σx 31 := by
    rw [tf_wr_o _ _ _ (by decide)]; exact F1.1 31 (by decide) (by decide) (by decide) (by decide) (by decide) (by decide) (by decide)
  have p1' : tf_pb (tf_wr sx 6 3 c) n1 (σx 31 0) := (tf_pb.Fx p1 F1 l1).up (fun u _ => by rw [tf_wr_o _ _ _ (by decide)]) (Nat.le_refl _)
  have p2' : tf_pb (tf_wr sx 6 3 c) n1 (σx 31 1) := (tf_pb.Fx p2 F1 l1).up (fun u _ => by rw [tf_wr_o _ _ _ (by decide)]) (Nat.le_refl _)
  by_cases z : c = 0
  · have m13 : sm 13 f = nI t := by
      rw [G1.1 13 (by decide) (by decide) (by decide) (by decide) (by decide) (by decide) (by decide) (by decide) (by decide) (by decide)]; exact emr
    rw [c0 z]
    rw [z] at w5 w63 W1' T1' H1 w19 w31 p1' p2' ⊢
    generalize tf_wr sx 6 3 0 = s at w5 w63 W1' T1' H1 w19 w31 p1' p2' ⊢
    have e12 : sm 6 t = s 12 t := (T1'.2.2.2 t (by omega)).2.2.2
    have hw : tf_w4 (s 12 t) := W1'.2.2.2.2.1 t (by omega)
    have ebb : tf_bX s = tf_bM sm := by
      unfold tf_bX tf_bM
      rw [w31, f1]; exact eb
    unfold fX3_putTo_80
    rw [if_pos (tf_ib hf (by decide)), tf_gle, nI_clamp (show f < 2 ^ 31 by omega), w19, if_pos w63]
    obtain ⟨x1, x0⟩ := withinX_eq (σ := s) (t := t) (by omega) hw
    obtain ⟨m1, m0⟩ := unboundM_eq (σ := sm) (x2 := x2) (x3 := x3) hf m13 (show t < 80 by omega) (by rw [e12]; exact hw)
    by_cases b : tf_has (tf_bX s) (s 12 t)
    · rw [x1 b, tf_bse, m1 (by rw [← ebb, e12]; exact b)]
      dsimp only
      rw [if_neg (show ¬ (1 : Int32) = 0 by decide)]
      unfold fX3_putTo_112
      rw [if_pos w63, if_pos (show tf_inb (0 : Int32) 2 = true from tf_ib (k := 0) (by decide) (by decide)), if_pos (show tf_inb (1 : Int32) 2 = true from tf_ib (k := 1) (by decide) (by decide)), sb_cl0, tf_cl1, w31, f1]
      have q0 : σm 15 0 = σx 31 0 := (congrArg Prod.fst eb).symm
      have q1 : σm 15 1 = σx 31 1 := (congrArg Prod.snd eb).symm
      rw [q0, q1]
      have bb0 : tf_b0 (s 12 t) → σx 31 0 ≠ -1 := fun q => by have := b.1 q; unfold tf_bX at this; rw [w31] at this; exact this
      have bb1 : tf_b1 (s 12 t) → σx 31 1 ≠ -1 := fun q => by have := b.2 q; unfold tf_bX at this; rw [w31] at this; exact this
      obtain ⟨r, sx', sm', n2, px, pm, W2, T2, l2, F2, G2, rv⟩ := tf_put_sim True W1' T1' (show t < n1 by omega) (tf_pbv p1') (tf_pbv p2') bb0 bb1
      rw [px, pm, tf_bse, tf_bse, tf_gle, orRoom_eq, tf_bse]
      have s5' : sx' 5 = s 5 := F2.1 5 (by decide) (by decide) (by decide) (by decide) (by decide) (by decide) (by decide)
      rcases rv with rfl | ⟨q, hq, rfl, qc, -, -⟩
      · refine ⟨-1, tf_wr sx' 6 3 8, tf_wr sm' 0 20 8, ?_, ?_, n2, tf_WFw (Or.inr rfl) W2, tf_wr20 (tf_TMw (Or.inr rfl) T2), by omega, (H1.tr F2.H l1).tr (tf_Hw (nT := n2) (Or.inr rfl)) (by omega), (G1.tr G2.G).tr (tf_wr20G _ _), ?_, Or.inl ⟨rfl, ?_, ?_⟩⟩
        · simp only [tf_gle, if_true]
        · simp only [if_true]
        · rw [tf_wr_o _ _ _ (by decide), s5', w5]
        · rw [tf_wr_s, pk_us]; decide
        · rw [tf_wr_s, pk_us, tf_wr_s, pk_us]
      · have q3 : ¬ nI q = -3 := tf_n3 (by have := W2.1.2.2.2.2.2; omega)
        refine ⟨nI q, tf_wr sx' 6 3 0, tf_wr sm' 0 20 0, ?_, ?_, n2, tf_WFw (Or.inr rfl) W2, tf_wr20 (tf_TMw (Or.inr rfl) T2), by omega, (H1.tr F2.H l1).tr (tf_Hw (nT := n2) (Or.inr rfl)) (by omega), (G1.tr G2.G).tr (tf_wr20G _ _), ?_, Or.inr ⟨q, hq, rfl, ?_, ?_⟩⟩
        · simp only [q3, if_false, tf_gle]
        · simp only [q3, if_false]
        · rw [tf_wr_o _ _ _ (by decide), s5', w5]
        · rw [tf_wr_o _ _ _ (by decide)]; exact qc trivial
        · unfold tf_bX tf_bM
          rw [tf_wr_o _ _ _ (by decide), tf_wr_o _ _ _ (by decide), F2.1 31 (by decide) (by decide) (by decide) (by decide) (by decide) (by decide) (by decide), G2.1 15 (by decide) (by decide) (by decide) (by decide) (by decide) (by decide) (by decide)]
          exact ebb
    · rw [x0 b, tf_bse, m0 (by rw [← ebb, e12]; exact b)]
      dsimp only
      rw [if_pos rfl, tf_gle]
      have k63 : tf_wr s 6 3 4 6 3 = 4 := by rw [tf_wr_s, pk_us]
      unfold fX3_putTo_112
      rw [if_neg (by rw [k63]; decide)]
      refine ⟨-1, tf_wr s 6 3 4, tf_wr sm 0 20 4, rfl, rfl, n1, tf_WFw (Or.inr rfl) W1', tf_wr20 (tf_TMw (Or.inr rfl) T1'), l1, H1.tr (tf_Hw (nT := n1) (Or.inr rfl)) l1, G1.tr (tf_wr20G _ _), ?_, Or.inl ⟨rfl, ?_, ?_⟩⟩
      · rw [tf_wr_o _ _ _ (by decide), w5]
      · rw [k63]; decide
      · rw [k63, tf_wr_s, pk_us]
  · obtain ⟨m0, m20⟩ := cn z
    rw [putX80_bad hf (by rw [w63]; exact z), m0]
    refine ⟨-1, tf_wr sx 6 3 c, sm, rfl, rfl, n1, W1', T1', l1, H1, G1, w5, Or.inl ⟨rfl, ?_, ?_⟩⟩
    · rw [w63]; exact z
    · rw [w63]; exact m20
