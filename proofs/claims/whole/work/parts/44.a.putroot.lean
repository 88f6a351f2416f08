/-! pure part 5: putting in, from its call -/
theorem tf_wr_hs (σ : tf_S) (c : Nat) (f : Nat → Int32) (i : Nat) (x : Int32) : tf_wr (tf_hs σ c f) c i x = tf_hs σ c (upd f i x) := by
  funext c'
  unfold tf_wr tf_hs
  by_cases h : c' = c <;> simp [h]
theorem tf_hs_id (σ : tf_S) (c : Nat) : tf_hs σ c (σ c) = σ := by
  funext c'
  unfold tf_hs
  by_cases h : c' = c <;> simp [h]
def tf_inX (σ : tf_S) (k : Nat) : Nat → Int32 := fun j => if j < k then (if σ 12 j = 0 then nI j else -1) else σ 13 j
theorem tf_inX_s (σ : tf_S) (k : Nat) : upd (tf_inX σ k) k (if σ 12 k = 0 then nI k else -1) = tf_inX σ (k + 1) := by
  funext j
  unfold upd tf_inX
  by_cases h : j = k
  · subst h; simp
  · by_cases h2 : j < k
    · have h3 : j < k + 1 := by omega
      simp [h, h2, h3]
    · have h3 : ¬ j < k + 1 := by omega
      simp [h, h2, h3]
theorem putX_init {σ : tf_S} {x1 x2 x3 : Int32} {nT : Nat} (hT : σ 1 3 = nI nT) (hn : nT ≤ 80) : fX4_putIn σ x1 x2 x3 = fX4_putIn_3 x1 x2 x3 (100000 - nT) (tf_hs σ 13 (tf_inX σ nT)) (nI nT) := by
  unfold fX4_putIn
  have h := tf_iter (fun n (s : tf_S) y => fX4_putIn_3 x1 x2 x3 n s y) (fun k => tf_hs σ 13 (tf_inX σ k)) 0 nT (Nat.zero_le _) (fun k m h1 h2 => by
    show fX4_putIn_3 x1 x2 x3 (m + 1) (tf_hs σ 13 (tf_inX σ k)) (nI k) = fX4_putIn_3 x1 x2 x3 m (tf_hs σ 13 (tf_inX σ (k + 1))) (nI (k + 1))
    rw [fX4_putIn_3, tf_hs_o _ _ (show (1 : Nat) ≠ 13 by decide), hT, if_neg (nI_ge h2 (by omega))]
    simp only [tf_ib (n := 80) (k := k) (by omega) (by decide), if_true, nI_clamp (show k < 2 ^ 31 by omega), tf_hs_o _ _ (show (12 : Nat) ≠ 13 by decide), tf_gl, nI_1, tf_wr_hs]
    by_cases c : σ 12 k = 0
    · rw [if_pos c, ← tf_inX_s, if_pos c]
    · rw [if_neg c, ← tf_inX_s, if_neg c]) (100000 - nT)
  have h0 : tf_hs σ 13 (tf_inX σ 0) = σ := by
    rw [show tf_inX σ 0 = σ 13 from by funext j; simp [tf_inX]]
    exact tf_hs_id σ 13
  rw [show 100000 - nT + (nT - 0) = 100000 by omega] at h
  have h : fX4_putIn_3 x1 x2 x3 100000 (tf_hs σ 13 (tf_inX σ 0)) (nI 0) = fX4_putIn_3 x1 x2 x3 (100000 - nT) (tf_hs σ 13 (tf_inX σ nT)) (nI nT) := h
  rw [h0] at h
  rw [show (0 : Int32) = nI 0 from rfl]
  exact h
def tf_s7 (S : tf_S) (x2 x3 x1 : Int32) : tf_S := tf_wr (tf_wr (tf_wr S 13 4 x2) 13 5 x3) 14 0 x1
theorem tf_gle {α β : Type} (v : α) (f : α → β) : tf_gl v f = f v := Eq.trans rfl rfl
theorem putX_start {S : tf_S} {x2 x3 : Int32} {nT t : Nat} (hT : S 1 3 = nI nT) (hn : nT ≤ 80) (ht : t < 80) (m : Nat) :
    fX4_putIn_3 (nI t) x2 x3 (m + 1) S (nI nT) = (fun G : tf_S → Int32 → Int32 → Option (Int32 × tf_S) => if tf_s7 S x2 x3 (nI t) 13 t = -1 then G (tf_s7 S x2 x3 (nI t)) (nI 1) (nI 0) else G (tf_s7 S x2 x3 (nI t)) (nI 0) (nI 0)) (fX4_putIn_82 (nI t) x2 x3 100000) := by
  rw [fX4_putIn_3, hT, if_pos (nI_le (Nat.le_refl _) (by omega))]
  generalize fX4_putIn_82 (nI t) x2 x3 100000 = G
  have h4 : tf_inb (4 : Int32) 80 = true := by decide +kernel
  have h5 : tf_inb (5 : Int32) 80 = true := by decide +kernel
  have h0 : tf_inb (0 : Int32) 80 = true := by decide +kernel
  have htt : tf_inb (nI t) 80 = true := tf_ib ht (by decide)
  have e4 : ((4 : Int32)).toNatClampNeg = 4 := by decide +kernel
  have e5 : ((5 : Int32)).toNatClampNeg = 5 := by decide +kernel
  have e0 : ((0 : Int32)).toNatClampNeg = 0 := by decide +kernel
  rw [if_pos h4, tf_gle, if_pos h5, tf_gle, if_pos h0, tf_gle, if_pos htt, nI_clamp (show t < 2 ^ 31 by omega), e4, e5, e0]
  unfold tf_s7
  rfl
theorem putX_exit {σ : tf_S} {x2 x3 : Int32} {t : Nat} {y : Int32} (ht : t < 80) (m : Nat) : fX4_putIn_82 (nI t) x2 x3 (m + 1) σ (nI 0) y = some (σ 13 t, σ) := by
  rw [fX4_putIn_82, if_pos (show nI 0 ≤ 0 by decide +kernel), if_pos (tf_ib ht (by decide)), nI_clamp (by omega)]
def tf_inM (σ : tf_S) (k : Nat) : Nat → Int32 := fun j => if j < k then -1 else σ 7 j
theorem tf_inM_s (σ : tf_S) (k : Nat) : upd (tf_inM σ k) k (-1) = tf_inM σ (k + 1) := by
  funext j
  unfold upd tf_inM
  by_cases h : j = k
  · subst h; rw [if_pos rfl, if_pos (by omega)]
  · rw [if_neg h]
    by_cases h2 : j < k
    · rw [if_pos h2, if_pos (by omega)]
    · rw [if_neg h2, if_neg (by omega)]
theorem putM_init {σ : tf_S} {x1 x2 x3 : Int32} {N : Nat} (hN : 80 ≤ N) : fX7_put_3 x1 x2 x3 N σ (nI 0) = fX7_put_3 x1 x2 x3 (N - 80) (tf_hs σ 7 (tf_inM σ 80)) (nI 80) := by
  have h := tf_iter (fun n (s : tf_S) y => fX7_put_3 x1 x2 x3 n s y) (fun k => tf_hs σ 7 (tf_inM σ k)) 0 80 (Nat.zero_le _) (fun k m h1 h2 => by
    show fX7_put_3 x1 x2 x3 (m + 1) (tf_hs σ 7 (tf_inM σ k)) (nI k) = fX7_put_3 x1 x2 x3 m (tf_hs σ 7 (tf_inM σ (k + 1))) (nI (k + 1))
    rw [fX7_put_3, if_neg (show ¬ (80 : Int32) ≤ nI k from nI_ge (b := 80) h2 (by decide))]
    simp only [tf_ib (n := 80) (k := k) h2 (by decide), if_true, nI_clamp (show k < 2 ^ 31 by omega), tf_gl, nI_1, tf_wr_hs, tf_inM_s]) (N - 80)
  have h0 : tf_hs σ 7 (tf_inM σ 0) = σ := by
    rw [show tf_inM σ 0 = σ 7 from by funext j; simp [tf_inM]]
    exact tf_hs_id σ 7
  rw [show N - 80 + (80 - 0) = N by omega] at h
  have h : fX7_put_3 x1 x2 x3 N (tf_hs σ 7 (tf_inM σ 0)) (nI 0) = fX7_put_3 x1 x2 x3 (N - 80) (tf_hs σ 7 (tf_inM σ 80)) (nI 80) := h
  rw [h0] at h
  exact h
def tf_t7 (S : tf_S) (x2 x3 : Int32) (t : Nat) : tf_S := tf_psh (tf_wr (tf_wr (tf_wr S 7 4 x2) 7 5 x3) 0 10 (nI 0)) 0 t
theorem putM_start {S : tf_S} {x2 x3 : Int32} {t : Nat} (m : Nat) :
    fX7_put_3 (nI t) x2 x3 (m + 1) S (nI 80) = (fun G : tf_S → Option (Int32 × tf_S) => G (tf_t7 S x2 x3 t)) (fun u => fX7_put_48 (nI t) x2 x3 100000 u) := by
  rw [fX7_put_3, if_pos (show (80 : Int32) ≤ nI 80 by decide +kernel)]
  have e : fX7_push (tf_wr (tf_wr (tf_wr S 7 4 x2) 7 5 x3) 0 10 (0 : Int32)) (nI t) = some (tf_t7 S x2 x3 t) := push_eq (g := 0) (by decide) (by rw [tf_wr_s, pk_us]; rfl)
  generalize (fun u => fX7_put_48 (nI t) x2 x3 100000 u) = G
  have h4 : tf_inb (4 : Int32) 80 = true := by decide +kernel
  have h5 : tf_inb (5 : Int32) 80 = true := by decide +kernel
  have e4 : ((4 : Int32)).toNatClampNeg = 4 := by decide +kernel
  have e5 : ((5 : Int32)).toNatClampNeg = 5 := by decide +kernel
  rw [if_pos h4, tf_gle, if_pos h5, tf_gle, tf_gle, e4, e5, e]
  rfl
theorem putM_exit {σ : tf_S} {x2 x3 : Int32} {t : Nat} (eh : σ 0 10 = nI 0) (ht : t < 80) (m : Nat) : fX7_put_48 (nI t) x2 x3 (m + 1) σ = some (σ 7 t, σ) := by
  rw [fX7_put_48, eh, if_pos (show nI 0 ≤ 0 by decide +kernel), if_pos (tf_ib ht (by decide)), nI_clamp (by omega)]
theorem putM_var {σ : tf_S} {x1 x2 x3 : Int32} {t : Nat} (eh : σ 0 10 = nI 1) (etop : σ 8 0 = nI t) (h : t = 4 ∨ t = 5) (m : Nat) : fX7_put_48 x1 x2 x3 (m + 1) σ = fX7_put_48 x1 x2 x3 m (tf_wr σ 0 10 (nI 0)) := by
  rw [fX7_put_48, eh, if_neg (show ¬ nI 1 ≤ 0 by decide +kernel), tf_pred (by decide)]
  simp only [show tf_inb (nI (1 - 1)) 200 = true from by decide +kernel, if_true, nI_clamp (show 1 - 1 < 2 ^ 31 by decide), etop, tf_gl]
  unfold fX7_put_99
  rcases h with rfl | rfl
  · rw [if_pos (show nI 4 = (4 : Int32) from rfl), if_pos (show nI 4 = (4 : Int32) from rfl), eh, tf_pred (by decide)]
    rfl
  · rw [if_neg (show ¬ nI 5 = (4 : Int32) by decide +kernel), if_pos (show nI 5 = (5 : Int32) from rfl), if_neg (show ¬ nI 5 = (4 : Int32) by decide +kernel), if_pos (show nI 5 = (5 : Int32) from rfl), eh, tf_pred (by decide)]
    rfl
