/-! pure part 23: what is kept of an operator's turn; the flow -/
def tf_kx (s : tf_S) (k : Nat) (r f z b1 b2 : Int32) : tf_S := tf_wr (tf_wr (tf_wr (tf_wr (tf_wr s 27 k r) 28 k f) 29 k z) 30 (2 * k) b1) 30 (2 * k + 1) b2
def tf_km (s : tf_S) (k : Nat) (r t b1 b2 : Int32) : tf_S := tf_wr (tf_wr (tf_wr (tf_wr s 24 k r) 25 k t) 27 (2 * k) b1) 27 (2 * k + 1) b2
def tf_kb (kd : Nat) (r : Int32) (p : Int32 × Int32) : Int32 × Int32 := if r = -1 then (-1, -1) else if kd = 1 ∨ kd = 2 ∨ kd = 5 then p else (-1, -1)
theorem tf_tw0 (k : Nat) : nI k * (2 : Int32) = nI (2 * k) := by
  have := pk_mul k 2
  rw [Nat.mul_comm k 2] at this
  exact this
theorem tf_bz2 {x : Int32} (h : x = 0 ∨ x = 1) : tf_bz x = true := by
  rcases h with rfl | rfl <;> decide
theorem tell_eq {s : tf_S} {k : Nat} {r f z : Int32} (hk : k < 24) (hz : z = 0 ∨ z = 1) : fX2_tell s (nI k) r f z = some (tf_wr (tf_wr (tf_wr s 27 k r) 28 k f) 29 k z) := by
  have jk : tf_inb (nI k) 24 = true := tf_ib hk (by decide)
  unfold fX2_tell
  simp only [jk, if_true, tf_gle, tf_bz2 hz, nI_clamp (show k < 2 ^ 31 by omega)]
theorem bindXX_eq {s : tf_S} {k : Nat} {x y : Int32} (hk : k < 24) : fX2_bind s (nI k) x y = some (tf_wr (tf_wr s 30 (2 * k) x) 30 (2 * k + 1) y) := by
  unfold fX2_bind
  rw [tf_tw0, nI_1, if_pos (tf_ib (show 2 * k < 48 by omega) (by decide)), tf_gle, if_pos (tf_ib (show 2 * k + 1 < 48 by omega) (by decide)), tf_gle, nI_clamp (show 2 * k < 2 ^ 31 by omega), nI_clamp (show 2 * k + 1 < 2 ^ 31 by omega)]
theorem tf_kinds {kd : Nat} (h8 : kd < 8) : (nI kd = (1 : Int32) ↔ kd = 1) ∧ (nI kd = (2 : Int32) ↔ kd = 2) ∧ (nI kd = (5 : Int32) ↔ kd = 5) :=
  ⟨nI_eq (b := 1) (by omega) (by decide), nI_eq (b := 2) (by omega) (by decide), nI_eq (b := 5) (by omega) (by decide)⟩
theorem keepX_eq {s : tf_S} {k kd : Nat} {r : Int32} (hk : k < 24) (e : s 21 k = nI kd) (h8 : kd < 8) (hz : s 5 5 = 0 ∨ s 5 5 = 1) :
    fX5_keep s (nI k) r = some (tf_kx s k r (s 5 4) (s 5 5) (tf_kb kd r (tf_bX s)).1 (tf_kb kd r (tf_bX s)).2) := by
  have jk : tf_inb (nI k) 24 = true := tf_ib hk (by decide)
  obtain ⟨k1, k2, k5⟩ := tf_kinds h8
  unfold fX5_keep tf_kx tf_kb
  rw [tell_eq hk hz, tf_bse, if_pos jk, tf_gle, nI_clamp (show k < 2 ^ 31 by omega)]
  have e1 : tf_wr (tf_wr (tf_wr s 27 k r) 28 k (s 5 4)) 29 k (s 5 5) 21 k = nI kd := by rw [tf_wr_o _ _ _ (by decide), tf_wr_o _ _ _ (by decide), tf_wr_o _ _ _ (by decide)]; exact e
  have e31 : tf_wr (tf_wr (tf_wr s 27 k r) 28 k (s 5 4)) 29 k (s 5 5) 31 = s 31 := by rw [tf_wr_o _ _ _ (by decide), tf_wr_o _ _ _ (by decide), tf_wr_o _ _ _ (by decide)]
  rw [e1]
  simp only [k1, k2, k5]
  generalize tf_wr (tf_wr (tf_wr s 27 k r) 28 k (s 5 4)) 29 k (s 5 5) = s' at e31 ⊢
  have P : fX5_keep_47 (nI k) r s' = some (tf_wr (tf_wr s' 30 (2 * k) (s 31 0)) 30 (2 * k + 1) (s 31 1)) := by
    unfold fX5_keep_47
    rw [if_pos (show tf_inb (0 : Int32) 2 = true from tf_ib (k := 0) (by decide) (by decide)), if_pos (show tf_inb (1 : Int32) 2 = true from tf_ib (k := 1) (by decide) (by decide)), sb_cl0, tf_cl1, e31, bindXX_eq hk, tf_bse]
  rw [P, bindXX_eq hk, tf_bse]
  unfold tf_bX
  by_cases r1 : r = -1
  · simp only [r1, if_true]
  · by_cases c1 : kd = 1
    · simp only [r1, c1, if_true, if_false, true_or]
    · by_cases c2 : kd = 2
      · simp only [r1, c1, c2, if_true, if_false, true_or, or_true]
        simp
      · by_cases c5 : kd = 5
        · simp only [r1, c1, c2, c5, if_true, if_false, or_true]
          simp
        · simp only [r1, c1, c2, c5, if_false, or_self]
theorem flow101 {s : tf_S} {K : tf_S → Int32 → Int32 → Option (Int32 × tf_S)} {k : Nat} {y1 r y4 : Int32} (hk : k < 24) :
    fX7_flow_101 K 100000 s y1 (nI k) r y4 0 = K (tf_wr (tf_wr s 27 (2 * k) (if y4 = 0 then -1 else s 15 0)) 27 (2 * k + 1) (if y4 = 0 then -1 else s 15 1)) (if r = -1 then y1 else y1 + 1) (nI (k + 1)) := by
  have S : ∀ i n (s : tf_S), i < 2 → fX7_flow_101 K (n + 1) s y1 (nI k) r y4 (nI i) = fX7_flow_101 K n (tf_wr s 27 (2 * k + i) (if y4 = 0 then -1 else s 15 i)) y1 (nI k) r y4 (nI (i + 1)) := fun i n s hi => by
    rw [fX7_flow_101, if_neg (show ¬ (2 : Int32) ≤ nI i from nI_ge (b := 2) (by omega) (by decide)), tf_two'', if_pos (tf_ib (show 2 * k + i < 48 by omega) (by decide)), if_pos (tf_ib hi (by decide)), nI_clamp (show 2 * k + i < 2 ^ 31 by omega), nI_clamp (show i < 2 ^ 31 by omega), if_pos (tf_ib (show 2 * k + i < 48 by omega) (by decide)), tf_gle, tf_gle, tf_gle, tf_gle, nI_1]
    by_cases h : y4 = 0
    · rw [if_pos h, if_pos h]
    · rw [if_neg h, if_neg h]
  have E : fX7_flow_101 K 100000 s y1 (nI k) r y4 0 = fX7_flow_101 K (99997 + 1 + 1 + 1) s y1 (nI k) r y4 (nI 0) := congrArg (fun n => fX7_flow_101 K n s y1 (nI k) r y4 0) (show (100000 : Nat) = 99997 + 1 + 1 + 1 from rfl)
  rw [E, S 0 _ _ (by decide), S 1 _ _ (by decide), fX7_flow_101, if_pos (show (2 : Int32) ≤ nI (1 + 1) by decide), tf_wr_o _ _ _ (show 15 ≠ 27 by decide)]
  rw [tf_gle, tf_gle, tf_gle, tf_gle, nI_1, Int32.add_zero y1]
  by_cases h : r = -1
  · rw [if_pos h, if_pos h]; rfl
  · rw [if_neg h, if_neg h]; rfl
theorem flow55 {m : tf_S} {K : tf_S → Int32 → Int32 → Option (Int32 × tf_S)} {k kd : Nat} {y1 r t : Int32} (hk : k < 24) (e : m 18 k = nI kd) (h8 : kd < 8) :
    fX7_flow_55 K (tf_wr m 24 k r) y1 (nI k) r t (nI k) = K (tf_km m k r t (tf_kb kd r (tf_bM m)).1 (tf_kb kd r (tf_bM m)).2) (if r = -1 then y1 else y1 + 1) (nI (k + 1)) := by
  have jk : tf_inb (nI k) 24 = true := tf_ib hk (by decide)
  obtain ⟨k1, k2, k5⟩ := tf_kinds h8
  unfold fX7_flow_55
  rw [if_pos jk, tf_gle, nI_clamp (show k < 2 ^ 31 by omega)]
  have e1 : tf_wr (tf_wr m 24 k r) 25 k t 18 k = nI kd := by rw [tf_wr_o _ _ _ (by decide), tf_wr_o _ _ _ (by decide)]; exact e
  have e15 : tf_wr (tf_wr m 24 k r) 25 k t 15 = m 15 := by rw [tf_wr_o _ _ _ (by decide), tf_wr_o _ _ _ (by decide)]
  rw [e1]
  simp only [k1, k2, k5, flow101 hk, e15]
  unfold tf_km tf_kb tf_bM
  simp only [jk, if_true, show ¬ (1 : Int32) = 0 by decide, if_false]
  by_cases r1 : r = -1
  · simp only [r1, if_true]
  · by_cases c1 : kd = 1
    · simp only [r1, c1, if_true, if_false, true_or]
    · by_cases c2 : kd = 2
      · simp only [r1, c1, c2, if_true, if_false, true_or, or_true]
        simp
      · by_cases c5 : kd = 5
        · simp only [r1, c1, c2, c5, if_true, if_false, or_true]
          simp
        · simp only [r1, c1, c2, c5, if_false, or_self]
/-- THE RELATION, with its numbers -/
def tf_Rl (σx σm : tf_S) (nC nT nM nF nO : Nat) : Prop := tf_WF σx nC nT ∧ tf_TM σx σm nC nT ∧ (σx 2 0 = nI nM ∧ σm 0 11 = nI nM ∧ nM ≤ 24) ∧ (∀ m, m < nM → tf_MV σx σm nC nT m) ∧ (σx 3 0 = nI nF ∧ σm 0 14 = nI nF ∧ nF ≤ 16) ∧ (∀ f, f < nF → tf_FV σx σm nT f) ∧ (σx 4 0 = nI nO ∧ σm 0 24 = nI nO ∧ nO ≤ 24) ∧ (∀ k, k < nO → tf_OV σx σm nC nT nM nF k) ∧ ∀ k, k < nO → tf_RV σx σm nT k
theorem tf_OV.up {a b a' b' : tf_S} {nC nT nT' nM nF k o : Nat} (h : tf_OV a b nC nT nM nF k) (H : tf_Hx a a' nT) (K : tf_Km b b' o) (l : nT ≤ nT') : tf_OV a' b' nC nT' nM nF k := by
  obtain ⟨kd, h8, ek, mk, V1, V2, V07, V12, V5, V3, V6⟩ := h
  have x : ∀ c, c = 7 ∨ (14 < c ∧ c < 31) → a' c = a c := fun c hc => H.k (by omega)
  have y : ∀ c, (17 < c ∧ c < 26) → b' c = b c := fun c hc => K.k (by omega)
  unfold tf_OV
  rw [x 21 (by omega), x 22 (by omega), x 23 (by omega), x 24 (by omega), x 25 (by omega), x 26 (by omega), x 7 (by omega), x 18 (by omega), y 18 (by omega), y 19 (by omega), y 20 (by omega), y 21 (by omega), y 22 (by omega), y 23 (by omega)]
  exact ⟨kd, h8, ek, mk, V1, V2, fun z => (V07 z).imp (fun u ⟨u1, u2, u3, u4⟩ => ⟨by omega, u2, u3, by rw [(H.2.2 u u1).2.2.2]; exact u4⟩), V12, V5, V3, V6⟩
theorem tf_MV.K {a b a' b' : tf_S} {nC n m k o : Nat} (h : tf_MV a b nC n k) (H : tf_Hx a a' n) (G : tf_Km b b' o) (l : n ≤ m) : tf_MV a' b' nC m k := by
  obtain ⟨c, t, q1, q2, q3, q4, q5, q6, q7⟩ := h
  refine ⟨c, t, ?_, ?_, q3, ?_, ?_, by omega, ?_⟩
  · rw [H.k (by omega)]; exact q1
  · rw [G.k (by omega)]; exact q2
  · rw [H.k (by omega)]; exact q4
  · rw [G.k (by omega)]; exact q5
  · rw [(H.2.2 t q6).2.2.2, H.k (c := 7) (by omega)]; exact q7
theorem tf_FV.K {a b a' b' : tf_S} {n m k o : Nat} (h : tf_FV a b n k) (H : tf_Hx a a' n) (G : tf_Km b b' o) (l : n ≤ m) : tf_FV a' b' m k := by
  obtain ⟨w, t, q1, q2, q3, q4, q5, q6, q7, q8⟩ := h
  refine ⟨w, t, ?_, ?_, by omega, ?_, ?_, by omega, ?_, fun i hi => ⟨?_, ?_⟩⟩
  · rw [H.k (by omega)]; exact q1
  · rw [G.k (by omega)]; exact q2
  · rw [H.k (by omega)]; exact q4
  · rw [G.k (by omega)]; exact q5
  · rw [H.k (by omega), G.k (by omega)]
    exact q7.imp id (fun ⟨u, u1, u2, u3⟩ => ⟨u, u1, u2, by omega⟩)
  · rw [H.k (by omega), G.k (by omega)]; exact (q8 i hi).1
  · rw [H.k (c := 20) (by omega)]; exact (q8 i hi).2.up (fun u hu => (H.2.2 u hu).2.2.2) l
