/-! pure part 15: looking at bounds, both sides; the bits that must be bound -/
theorem tf_two' (k i : Nat) : nI k * (2 : Int32) + nI i = nI (2 * k + i) := by
  have h : nI k * (2 : Int32) = nI (2 * k) := by
    have := pk_mul k 2
    rw [Nat.mul_comm k 2] at this
    exact this
  rw [h, nI_add]
theorem tf_two'' (k i : Nat) : (2 : Int32) * nI k + nI i = nI (2 * k + i) := by
  rw [tf_two, nI_add]
theorem tf_wr20r (σ : tf_S) (x : Int32) : tf_wr σ 0 20 x 0 20 = x := by rw [tf_wr_s, pk_us]
theorem tf_wr20o (σ : tf_S) (x : Int32) {c : Nat} (h : c ≠ 0) : tf_wr σ 0 20 x c = σ c := tf_wr_o _ _ _ h
set_option maxHeartbeats 1000000 in
theorem tf_look_step {σx σm : tf_S} {nC nT f i : Nat} {x2 x3 : Int32} (W : tf_WF σx nC nT) (T : tf_TM σx σm nC nT) (hf : f < 16) (hi : i < 2) (eb : σm 15 i = σx 31 i) (pb : tf_pb σx nT (σx 31 i)) (el : σm 14 (2 * f + i) = σx 20 (2 * f + i)) (pl : tf_pb σx nT (σx 20 (2 * f + i))) :
    ∃ (c : Int32) (σx' σm' : tf_S) (nT' : Nat), tf_WF σx' nC nT' ∧ tf_TM σx' σm' nC nT' ∧ nT ≤ nT' ∧ tf_Fx σx σx' nT ∧ tf_Gm σm σm' ∧ σm' 15 = σm 15 ∧ (c = 0 ∨ c = 3 ∨ c = 8) ∧
      (c = 0 → (∀ n, fX3_lookAtBounds_2 (nI f) (n + 1) σx (nI i) = fX3_lookAtBounds_2 (nI f) n σx' (nI (i + 1))) ∧ ∀ n, fX7_putTo_57 (nI f) x2 x3 (n + 1) σm (nI i) = fX7_putTo_57 (nI f) x2 x3 n σm' (nI (i + 1))) ∧
      (c ≠ 0 → (∀ n, fX3_lookAtBounds_2 (nI f) (n + 1) σx (nI i) = some (c, σx')) ∧ (∀ n, fX7_putTo_57 (nI f) x2 x3 (n + 1) σm (nI i) = some (-1, σm')) ∧ σm' 0 20 = c) := by
  have hn := W.1.2.2.2.2.2
  have h2 : ¬ (2 : Int32) ≤ nI i := nI_ge (b := 2) (by omega) (by decide)
  have i2 : tf_inb (nI i) 2 = true := tf_ib hi (by decide)
  have i32 : tf_inb (nI (2 * f + i)) 32 = true := tf_ib (by omega) (by decide)
  have ci : (nI i).toNatClampNeg = i := nI_clamp (by omega)
  have cl : (nI (2 * f + i)).toNatClampNeg = 2 * f + i := nI_clamp (by omega)
  by_cases b : σx 31 i = -1
  · refine ⟨0, σx, σm, nT, W, T, Nat.le_refl _, tf_Fx.rf, tf_Gm.rf, rfl, Or.inl rfl, fun _ => ⟨fun n => ?_, fun n => ?_⟩, fun q => absurd rfl q⟩
    · rw [fX3_lookAtBounds_2, if_neg h2, tf_two', if_pos i32, tf_gle, if_pos i2, ci, if_pos b, tf_gle, nI_1]
    · rw [fX7_putTo_57, if_neg h2, if_pos i2, ci, if_pos (by rw [eb]; exact b), tf_gle, nI_1]
  · by_cases l : σx 20 (2 * f + i) = -1
    · refine ⟨0, σx, σm, nT, W, T, Nat.le_refl _, tf_Fx.rf, tf_Gm.rf, rfl, Or.inl rfl, fun _ => ⟨fun n => ?_, fun n => ?_⟩, fun q => absurd rfl q⟩
      · rw [fX3_lookAtBounds_2, if_neg h2, tf_two', if_pos i32, tf_gle, if_pos i2, ci, if_neg b, cl, if_pos l, tf_gle, nI_1]
      · rw [fX7_putTo_57, if_neg h2, if_pos i2, ci, if_neg (by rw [eb]; exact b), tf_two'', if_pos i32, cl, if_pos (by rw [el]; exact l), tf_gle, nI_1]
    · obtain ⟨r, r6, rn, re, rc⟩ := pb.resolve_left b
      obtain ⟨s, s6, sn, se, sc⟩ := pl.resolve_left l
      obtain ⟨g, σx', σm', nT', gx, gm, W', T', le, Fx, Fm, gv⟩ := tf_goes_sim W T rn sn rc sc
      have f15 : σm' 15 = σm 15 := Fm.1 15 (by decide) (by decide) (by decide) (by decide) (by decide) (by decide) (by decide)
      have X : ∀ n, fX3_lookAtBounds_2 (nI f) (n + 1) σx (nI i) = if g = 1 then fX3_lookAtBounds_2 (nI f) n σx' (nI (i + 1)) else if g = -3 then some (8, σx') else some (3, σx') := fun n => by
        rw [fX3_lookAtBounds_2, if_neg h2, tf_two', if_pos i32, tf_gle, if_pos i2, ci, if_neg b, cl, if_neg l, if_pos i2, re, se, gx, tf_bse, tf_gle]
        simp only [tf_gle, nI_1]
      have M : ∀ n, fX7_putTo_57 (nI f) x2 x3 (n + 1) σm (nI i) = if g = 1 then fX7_putTo_57 (nI f) x2 x3 n σm' (nI (i + 1)) else if g = -3 then some (-1, tf_wr σm' 0 20 8) else some (-1, tf_wr σm' 0 20 3) := fun n => by
        rw [fX7_putTo_57, if_neg h2, if_pos i2, ci, if_neg (by rw [eb]; exact b), tf_two'', if_pos i32, cl, if_neg (by rw [el]; exact l), if_pos i2, if_pos i32, eb, el, re, se, gm, tf_bse, tf_gle]
        simp only [tf_gle, nI_1]
      rcases gv with rfl | rfl | rfl
      · refine ⟨8, σx', tf_wr σm' 0 20 8, nT', W', tf_wr20 T', le, Fx, Fm.G.tr (tf_wr20G _ _), by rw [tf_wr20o _ _ (by decide)]; exact f15, Or.inr (Or.inr rfl), fun q => absurd q (by decide), fun _ => ⟨fun n => ?_, fun n => ?_, tf_wr20r _ _⟩⟩
        · rw [X, if_neg (by decide), if_pos rfl]
        · rw [M, if_neg (by decide), if_pos rfl]
      · refine ⟨3, σx', tf_wr σm' 0 20 3, nT', W', tf_wr20 T', le, Fx, Fm.G.tr (tf_wr20G _ _), by rw [tf_wr20o _ _ (by decide)]; exact f15, Or.inr (Or.inl rfl), fun q => absurd q (by decide), fun _ => ⟨fun n => ?_, fun n => ?_, tf_wr20r _ _⟩⟩
        · rw [X, if_neg (by decide), if_neg (by decide)]
        · rw [M, if_neg (by decide), if_neg (by decide)]
      · refine ⟨0, σx', σm', nT', W', T', le, Fx, Fm.G, f15, Or.inl rfl, fun _ => ⟨fun n => ?_, fun n => ?_⟩, fun q => absurd rfl q⟩
        · rw [X, if_pos rfl]
        · rw [M, if_pos rfl]
theorem tf_pb.Fx {σ σ' : tf_S} {nT nT' : Nat} {x : Int32} (h : tf_pb σ nT x) (F : tf_Fx σ σ' nT) (l : nT ≤ nT') : tf_pb σ' nT' x := h.up (fun t ht => (F.2.2 t ht).2.2.2) l
/-- BOUNDS LOOKED AT, on both sides -/
theorem tf_look_sim {σx σm : tf_S} {nC nT f : Nat} {x2 x3 : Int32} (W : tf_WF σx nC nT) (T : tf_TM σx σm nC nT) (hf : f < 16) (eb : tf_bX σx = tf_bM σm) (p1 : tf_pb σx nT (tf_bX σx).1) (p2 : tf_pb σx nT (tf_bX σx).2) (el : ∀ i, i < 2 → σm 14 (2 * f + i) = σx 20 (2 * f + i)) (pl : ∀ i, i < 2 → tf_pb σx nT (σx 20 (2 * f + i))) :
    ∃ (c : Int32) (σx' σm' : tf_S) (nT' : Nat), fX3_lookAtBounds σx (nI f) = some (c, σx') ∧ tf_WF σx' nC nT' ∧ tf_TM σx' σm' nC nT' ∧ nT ≤ nT' ∧ tf_Fx σx σx' nT ∧ tf_Gm σm σm' ∧ σm' 15 = σm 15 ∧ (c = 0 ∨ c = 3 ∨ c = 8) ∧
      (c = 0 → fX7_putTo_57 (nI f) x2 x3 100000 σm 0 = fX7_putTo_147 (nI f) x2 x3 100000 σm' 0) ∧
      (c ≠ 0 → fX7_putTo_57 (nI f) x2 x3 100000 σm 0 = some (-1, σm') ∧ σm' 0 20 = c) := by
  have e0 : σm 15 0 = σx 31 0 := (congrArg Prod.fst eb).symm
  have e1 : σm 15 1 = σx 31 1 := (congrArg Prod.snd eb).symm
  obtain ⟨c, sx, sm, n1, W1, T1, l1, F1, G1, f1, cv, c0, cn⟩ := tf_look_step (x2 := x2) (x3 := x3) W T hf (show 0 < 2 by decide) e0 p1 (el 0 (by decide)) (pl 0 (by decide))
  unfold fX3_lookAtBounds
  rw [show (100000 : Nat) = 99997 + 1 + 1 + 1 by rfl, show (0 : Int32) = nI 0 from rfl]
  by_cases z : c = 0
  · obtain ⟨x0, m0⟩ := c0 z
    have s31 : sx 31 = σx 31 := F1.1 31 (by decide) (by decide) (by decide) (by decide) (by decide) (by decide) (by decide)
    have s20 : sx 20 = σx 20 := F1.1 20 (by decide) (by decide) (by decide) (by decide) (by decide) (by decide) (by decide)
    have m14 : sm 14 = σm 14 := G1.1 14 (by decide) (by decide) (by decide) (by decide) (by decide) (by decide) (by decide) (by decide) (by decide) (by decide)
    obtain ⟨d, sx', sm', n2, W2, T2, l2, F2, G2, f2, dv, d0, dn⟩ := tf_look_step (x2 := x2) (x3 := x3) (i := 1) W1 T1 hf (by decide) (by rw [f1, s31]; exact e1) (by rw [s31]; exact tf_pb.Fx p2 F1 l1) (by rw [m14, s20]; exact el 1 (by decide)) (by rw [s20]; exact (pl 1 (by decide)).Fx F1 l1)
    refine ⟨d, sx', sm', n2, ?_, W2, T2, by omega, F1.tr F2 l1, G1.tr G2, f2.trans f1, dv, fun q => ?_, fun q => ?_⟩
    · rw [x0]
      by_cases y : d = 0
      · rw [(d0 y).1, fX3_lookAtBounds_2, if_pos (by decide), y]
      · rw [(dn y).1]
    · rw [m0, (d0 q).2, fX7_putTo_57, if_pos (by decide)]; rfl
    · rw [m0, (dn q).2.1]; exact ⟨rfl, (dn q).2.2⟩
  · obtain ⟨x0, m0, m20⟩ := cn z
    refine ⟨c, sx, sm, n1, x0 _, W1, T1, l1, F1, G1, f1, cv, fun q => absurd q z, fun _ => ⟨m0 _, m20⟩⟩
/-- which variables are bound -/
def tf_has (b : Int32 × Int32) (w : Int32) : Prop := (tf_b0 w → b.1 ≠ -1) ∧ (tf_b1 w → b.2 ≠ -1)
theorem tf_bitz (w v : Int32) (hw : tf_w4 w) (hv : tf_w4 v) : ((w &&& (v ^^^ (-1 : Int32))) = 0 ↔ (tf_b0 w → tf_b0 v) ∧ (tf_b1 w → tf_b1 v)) := by
  rcases hw with rfl | rfl | rfl | rfl <;> rcases hv with rfl | rfl | rfl | rfl <;> (unfold tf_b0 tf_b1; decide)
theorem tf_bit0 (w : Int32) (hw : tf_w4 w) : (((w >>> (nI 0 &&& 31)) &&& (1 : Int32)) = (1 : Int32) ↔ tf_b0 w) := by
  rcases hw with rfl | rfl | rfl | rfl <;> (unfold tf_b0; decide)
theorem tf_bit1 (w : Int32) (hw : tf_w4 w) : (((w >>> (nI 1 &&& 31)) &&& (1 : Int32)) = (1 : Int32) ↔ tf_b1 w) := by
  rcases hw with rfl | rfl | rfl | rfl <;> (unfold tf_b1; decide)
theorem tf_nbz {b0 b1 : Int32} {w : Int32} (hw : tf_w4 w) : ((w &&& (((if b0 = -1 then (0 : Int32) else 1) ||| (if b1 = -1 then (0 : Int32) else 2)) ^^^ (-1 : Int32))) = 0 ↔ tf_has (b0, b1) w) := by
  unfold tf_has
  by_cases h0 : b0 = -1 <;> by_cases h1 : b1 = -1
  · rw [if_pos h0, if_pos h1]
    rw [tf_bitz w _ hw (by unfold tf_w4; decide)]
    simp [h0, h1, tf_b0, tf_b1]
  · rw [if_pos h0, if_neg h1]
    rw [tf_bitz w _ hw (by unfold tf_w4; decide)]
    simp [h0, h1, tf_b0, tf_b1]
  · rw [if_neg h0, if_pos h1]
    rw [tf_bitz w _ hw (by unfold tf_w4; decide)]
    simp [h0, h1, tf_b0, tf_b1]
  · rw [if_neg h0, if_neg h1]
    rw [tf_bitz w _ hw (by unfold tf_w4; decide), show (1 : Int32) ||| 2 = 3 by decide]
    simp [h0, h1, tf_b0, tf_b1]
theorem tf_cl1 : (1 : Int32).toNatClampNeg = 1 := by decide
theorem withinX_eq {σ : tf_S} {t : Nat} (ht : t < 80) (hw : tf_w4 (σ 12 t)) : (tf_has (tf_bX σ) (σ 12 t) → fX3_isBoundWithin σ (nI t) = some (1, σ)) ∧ (¬ tf_has (tf_bX σ) (σ 12 t) → fX3_isBoundWithin σ (nI t) = some (0, σ)) := by
  have i0 : tf_inb (0 : Int32) 2 = true := tf_ib (k := 0) (by decide) (by decide)
  have i1 : tf_inb (1 : Int32) 2 = true := tf_ib (k := 1) (by decide) (by decide)
  have it : tf_inb (nI t) 80 = true := tf_ib ht (by decide)
  have ct : (nI t).toNatClampNeg = t := nI_clamp (by omega)
  have E : fX3_isBoundWithin σ (nI t) = if (σ 12 t &&& (((if σ 31 0 = -1 then (0 : Int32) else 1) ||| (if σ 31 1 = -1 then (0 : Int32) else 2)) ^^^ (-1 : Int32))) = 0 then some (1, σ) else some (0, σ) := by
    unfold fX3_isBoundWithin
    rw [if_pos i0, sb_cl0, tf_cl1]
    by_cases h0 : σ 31 0 = -1 <;> by_cases h1 : σ 31 1 = -1
    · rw [if_pos h0, if_pos h0, if_pos h1, if_pos i1, if_pos h1]
      unfold fX3_isBoundWithin_30; rw [tf_gle, if_pos it, ct]
    · rw [if_pos h0, if_pos h0, if_neg h1, if_pos i1, if_neg h1]
      unfold fX3_isBoundWithin_30; rw [tf_gle, if_pos it, ct]
    · rw [if_neg h0, if_neg h0, if_pos h1, if_pos i1, if_pos h1]
      unfold fX3_isBoundWithin_30; rw [tf_gle, if_pos it, ct]
    · rw [if_neg h0, if_neg h0, if_neg h1, if_pos i1, if_neg h1]
      unfold fX3_isBoundWithin_30; rw [tf_gle, if_pos it, ct]
  refine ⟨fun h => ?_, fun h => ?_⟩
  · rw [E, if_pos ((tf_nbz hw).mpr h)]
  · rw [E, if_neg (fun q => h ((tf_nbz hw).mp q))]
theorem unboundM_eq {σ : tf_S} {f t : Nat} {x2 x3 : Int32} (hf : f < 16) (et : σ 13 f = nI t) (ht : t < 80) (hw : tf_w4 (σ 6 t)) :
    (tf_has (tf_bM σ) (σ 6 t) → fX7_putTo_147 (nI f) x2 x3 100000 σ 0 = (fX7_put σ (nI t) (σ 15 0) (σ 15 1)).bind fun u16 => (fX7_orRoom u16.2 u16.1).bind fun u18 => some (u18.1, u18.2)) ∧ (¬ tf_has (tf_bM σ) (σ 6 t) → fX7_putTo_147 (nI f) x2 x3 100000 σ 0 = some (-1, tf_wr σ 0 20 4)) := by
  have i0 : tf_inb (0 : Int32) 2 = true := tf_ib (k := 0) (by decide) (by decide)
  have i1 : tf_inb (1 : Int32) 2 = true := tf_ib (k := 1) (by decide) (by decide)
  have it : tf_inb (nI t) 80 = true := tf_ib ht (by decide)
  have jf : tf_inb (nI f) 16 = true := tf_ib hf (by decide)
  have ct : (nI t).toNatClampNeg = t := nI_clamp (by omega)
  have cf : (nI f).toNatClampNeg = f := nI_clamp (by omega)
  have S : ∀ i n, i < 2 → fX7_putTo_147 (nI f) x2 x3 (n + 1) σ (nI i) = if (((σ 6 t) >>> (nI i &&& 31)) &&& (1 : Int32)) = (1 : Int32) then (if σ 15 i = -1 then some (-1, tf_wr σ 0 20 4) else fX7_putTo_147 (nI f) x2 x3 n σ (nI (i + 1))) else fX7_putTo_147 (nI f) x2 x3 n σ (nI (i + 1)) := fun i n hi => by
    rw [fX7_putTo_147, if_neg (show ¬ (2 : Int32) ≤ nI i from nI_ge (b := 2) (by omega) (by decide)), if_pos jf, cf, et, if_pos it, ct, if_pos (tf_ib hi (by decide)), nI_clamp (show i < 2 ^ 31 by omega), tf_gle, tf_gle, nI_1]
  have E : ∀ n, fX7_putTo_147 (nI f) x2 x3 (n + 1) σ (nI 2) = (fX7_put σ (nI t) (σ 15 0) (σ 15 1)).bind fun u16 => (fX7_orRoom u16.2 u16.1).bind fun u18 => some (u18.1, u18.2) := fun n => by
    rw [fX7_putTo_147, if_pos (by decide), if_pos jf, if_pos i0, if_pos i1, cf, et, sb_cl0, tf_cl1]
  rw [show (100000 : Nat) = 99997 + 1 + 1 + 1 by rfl, show (0 : Int32) = nI 0 from rfl, S 0 _ (by decide), S 1 _ (by decide), E]
  have q0 := tf_bit0 _ hw
  have q1 := tf_bit1 _ hw
  unfold tf_has tf_bM
  by_cases a0 : tf_b0 (σ 6 t) <;> by_cases a1 : tf_b1 (σ 6 t) <;> by_cases c0 : σ 15 0 = -1 <;> by_cases c1 : σ 15 1 = -1 <;> simp [q0, q1, a0, a1, c0, c1]
