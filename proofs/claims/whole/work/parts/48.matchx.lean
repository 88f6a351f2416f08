/-! pure part 9: matching in the class -/
def tf_un (σ : tf_S) : Nat → Nat
  | 0 => 0
  | p + 1 => tf_un σ p + (if 6 ≤ p ∧ σ 32 p = -1 then 1 else 0)
theorem tf_un_le (σ : tf_S) : ∀ p, tf_un σ p ≤ p := by
  intro p
  induction p with
  | zero => exact Nat.le_refl _
  | succ p ih =>
    rw [tf_un]
    by_cases h : 6 ≤ p ∧ σ 32 p = -1
    · rw [if_pos h]; omega
    · rw [if_neg h]; omega
theorem tf_un_up (σ : tf_S) {a t : Nat} (h : a ≤ t) : tf_un σ a ≤ tf_un σ t := by
  induction t with
  | zero => rw [show a = 0 by omega]; exact Nat.le_refl _
  | succ t ih =>
    rcases Nat.lt_or_ge t a with q | q
    · rw [show a = t + 1 by omega]; exact Nat.le_refl _
    · have := ih q
      rw [tf_un]; omega
theorem tf_un_lift {σ σ' : tf_S} {a L : Nat} (h : a ≤ L) (e : ∀ p, a ≤ p → σ' 32 p = σ 32 p) : tf_un σ' L + tf_un σ a = tf_un σ L + tf_un σ' a := by
  induction L with
  | zero => rw [show a = 0 by omega]; omega
  | succ L ih =>
    rcases Nat.lt_or_ge L a with q | q
    · rw [show a = L + 1 by omega]; omega
    · have := ih q
      rw [tf_un, tf_un, e L q]; omega
theorem tf_un_cg {σ σ' : tf_S} (L : Nat) (e : ∀ p, p < L → σ' 32 p = σ 32 p) : tf_un σ' L = tf_un σ L := by
  induction L with
  | zero => rfl
  | succ L ih => rw [tf_un, tf_un, e L (by omega), ih (fun p hp => e p (by omega))]
def tf_bX (σ : tf_S) : Int32 × Int32 := (σ 31 0, σ 31 1)
def tf_vX (σ : tf_S) (nT : Nat) : Prop := ∀ p, 6 ≤ p → p < 80 → σ 32 p = -1 ∨ ∃ q, q < nT ∧ σ 32 p = nI q
def tf_sX (K : tf_S) (nT : Nat) (σ : tf_S) (b : Int32 × Int32) (L : Nat) : Prop := ∀ p q, 6 ≤ p → p < L → q < nT → σ 32 p = nI q → tf_ms K 80 b p q = (0, b)
def tf_fX (σ σ' : tf_S) : Prop := ∀ c, c ≠ 31 → c ≠ 32 → c ≠ 33 → c ≠ 34 → σ' c = σ c
def tf_OX (K : tf_S) (nT : Nat) (x1 x2 : Int32) (L : Nat) (σ : tf_S) (h0 hh st : Nat) (r : Int32 × Int32 × Int32) (bs bf : Nat) : Prop :=
  ∃ (σ' : tf_S) (k : Nat), tf_fX σ σ' ∧ (∀ i, i < h0 → σ' 33 i = σ 33 i ∧ σ' 34 i = σ 34 i) ∧ (∀ p, L ≤ p → σ' 32 p = σ 32 p) ∧
    ((r.1 = 0 ∧ tf_bX σ' = r.2 ∧ tf_vX σ' nT ∧ tf_sX K nT σ' r.2 L ∧ k + 2 * tf_un σ' L ≤ bs + 2 * tf_un σ L ∧ ∀ m, fX3_match_22 x1 x2 (m + k) σ (nI hh) 0 (nI st) = fX3_match_22 x1 x2 m σ' (nI h0) 0 (nI (st + k))) ∨
     (r.1 ≠ 0 ∧ k ≤ bf ∧ ∀ m, fX3_match_22 x1 x2 (m + k) σ (nI hh) 0 (nI st) = some (r.1, σ')))
theorem bindX_eq {σ : tf_S} {i v : Nat} (hi : i < 2) (hv : v < 2 ^ 31) : fX3_bindTo σ (nI (4 + i)) (nI v) = some ((tf_bi (σ 31 i) (nI v)).1, if σ 31 i = -1 then tf_wr σ 31 i (nI v) else σ) := by
  unfold fX3_bindTo tf_bi
  have e : nI (4 + i) - (4 : Int32) = nI i := by
    have : nI (4 + i) - nI 4 = nI (4 + i - 4) := pk_sub (by omega)
    rw [show 4 + i - 4 = i by omega] at this
    exact this
  rw [tf_gle, e]
  have ii : tf_inb (nI i) 2 = true := tf_ib hi (by decide)
  have ci : (nI i).toNatClampNeg = i := nI_clamp (by omega)
  rw [if_pos ii, ci, if_pos ii, tf_gle, if_pos ii, if_pos ii]
  by_cases c : σ 31 i = -1
  · rw [if_pos c, if_pos c, if_pos c, tf_wr_s, pk_us, if_pos rfl]
  · rw [if_neg c, if_neg c, if_neg c]
    by_cases d : σ 31 i = nI v
    · rw [if_pos d, if_pos d]
    · rw [if_neg d, if_neg d]
theorem isVar_eq (σ : tf_S) {w : Nat} (hw : w < 2 ^ 31) : fX6_isVariable σ (nI w) = some (if w = 4 ∨ w = 5 then 1 else 0, σ) := by
  unfold fX6_isVariable
  by_cases a : w = 4
  · rw [if_pos (show nI w = (4 : Int32) by rw [a]; rfl), if_pos (Or.inl a)]
  · rw [if_neg (show ¬ nI w = (4 : Int32) from fun e => a ((nI_eq (a := w) (b := 4) hw (by decide)).mp e))]
    by_cases b : w = 5
    · rw [if_pos (show nI w = (5 : Int32) by rw [b]; rfl), if_pos (Or.inr b)]
    · rw [if_neg (show ¬ nI w = (5 : Int32) from fun e => b ((nI_eq (a := w) (b := 5) hw (by decide)).mp e)), if_neg (by omega)]
def tf_pw (σ : tf_S) (k : Nat) (x y : Int32) : Nat × tf_S := if x = -1 then (k, σ) else (k + 1, tf_wr (tf_wr σ 33 k x) 34 k y)
theorem await_eq {σ : tf_S} {k : Nat} {x y : Int32} (hk : k < 82) (h : (x = -1 ∧ y = -1) ∨ (x ≠ -1 ∧ y ≠ -1)) : fX3_await σ x y (nI k) = some (nI (tf_pw σ k x y).1, (tf_pw σ k x y).2) := by
  unfold fX3_await tf_pw
  have ik : tf_inb (nI k) 82 = true := tf_ib hk (by decide)
  rcases h with ⟨a, b⟩ | ⟨a, b⟩
  · rw [if_pos a, if_pos a]
  · rw [if_neg a, if_neg b, if_neg a, if_pos (show nI k < (82 : Int32) from nI_lt (b := 82) hk (by decide)), if_pos ik, tf_gle, if_pos ik, tf_gle, nI_clamp (by omega), nI_1]
/-- one step over a variable -/
theorem matchX_var {σ : tf_S} {x1 x2 : Int32} {i v h st : Nat} (hi : i < 2) (h1 : 1 ≤ h) (hh : h ≤ 82) (hs : st < 6400) (hv : v < 80) (ew : σ 33 (h - 1) = nI (4 + i)) (ev : σ 34 (h - 1) = nI v) (m : Nat) :
    fX3_match_22 x1 x2 (m + 1) σ (nI h) 0 (nI st) = if (tf_bi (σ 31 i) (nI v)).1 = 0 then fX3_match_22 x1 x2 m (if σ 31 i = -1 then tf_wr σ 31 i (nI v) else σ) (nI (h - 1)) 0 (nI (st + 1)) else some ((tf_bi (σ 31 i) (nI v)).1, if σ 31 i = -1 then tf_wr σ 31 i (nI v) else σ) := by
  have ih : tf_inb (nI (h - 1)) 82 = true := tf_ib (by omega) (by decide)
  rw [fX3_match_22, if_neg (show ¬ nI h ≤ 0 from nI_nle (by omega) (by omega)), if_neg (show ¬ (6400 : Int32) ≤ nI st from nI_ge (b := 6400) hs (by decide)), tf_gle, tf_pred' h1, if_pos ih, nI_clamp (by omega), ew, tf_gle, if_pos ih, ev, tf_gle, isVar_eq σ (by omega), tf_bse, if_pos (show 4 + i = 4 ∨ 4 + i = 5 by omega)]
  dsimp only
  rw [if_neg (show ¬ (1 : Int32) = 0 by decide), bindX_eq hi (by omega), tf_bse, tf_gle]
  by_cases c : (tf_bi (σ 31 i) (nI v)).1 = 0
  · rw [if_pos c, if_pos c, tf_gle, nI_1, c]
  · rw [if_neg c, if_neg c]
/-- one step over a class type -/
theorem matchX_cls {σ : tf_S} {x1 x2 : Int32} {w v h st : Nat} (w6 : 6 ≤ w) (hw : w < 80) (h1 : 1 ≤ h) (hh : h ≤ 81) (hs : st < 6400) (hv : v < 80) (ew : σ 33 (h - 1) = nI w) (ev : σ 34 (h - 1) = nI v)
    (k1 : σ 9 w = σ 9 v → (σ 10 w = -1 ∧ σ 10 v = -1) ∨ (σ 10 w ≠ -1 ∧ σ 10 v ≠ -1)) (k2 : σ 9 w = σ 9 v → (σ 11 w = -1 ∧ σ 11 v = -1) ∨ (σ 11 w ≠ -1 ∧ σ 11 v ≠ -1)) (m : Nat) :
    fX3_match_22 x1 x2 (m + 1) σ (nI h) 0 (nI st) = if σ 9 w = σ 9 v then (if σ 32 w = nI v then fX3_match_22 x1 x2 m σ (nI (h - 1)) 0 (nI (st + 1)) else
      fX3_match_22 x1 x2 m (tf_pw (tf_pw (tf_wr σ 32 w (nI v)) (h - 1) (σ 11 w) (σ 11 v)).2 (tf_pw (tf_wr σ 32 w (nI v)) (h - 1) (σ 11 w) (σ 11 v)).1 (σ 10 w) (σ 10 v)).2 (nI (tf_pw (tf_pw (tf_wr σ 32 w (nI v)) (h - 1) (σ 11 w) (σ 11 v)).2 (tf_pw (tf_wr σ 32 w (nI v)) (h - 1) (σ 11 w) (σ 11 v)).1 (σ 10 w) (σ 10 v)).1) 0 (nI (st + 1))) else some (1, σ) := by
  have ih : tf_inb (nI (h - 1)) 82 = true := tf_ib (by omega) (by decide)
  have iw : tf_inb (nI w) 80 = true := tf_ib hw (by decide)
  have iv : tf_inb (nI v) 80 = true := tf_ib hv (by decide)
  have cw : (nI w).toNatClampNeg = w := nI_clamp (by omega)
  have cv : (nI v).toNatClampNeg = v := nI_clamp (by omega)
  rw [fX3_match_22, if_neg (show ¬ nI h ≤ 0 from nI_nle (by omega) (by omega)), if_neg (show ¬ (6400 : Int32) ≤ nI st from nI_ge (b := 6400) hs (by decide)), tf_gle, tf_pred' h1, if_pos ih, nI_clamp (by omega), ew, tf_gle, if_pos ih, ev, tf_gle, isVar_eq σ (by omega), tf_bse, if_neg (show ¬ (w = 4 ∨ w = 5) by omega)]
  dsimp only
  rw [if_pos rfl, if_pos iw, if_pos iv, cw, cv]
  by_cases e : σ 9 w = σ 9 v
  · rw [if_pos e, if_pos e, if_pos iw]
    by_cases q : σ 32 w = nI v
    · rw [if_pos q, if_pos q, if_pos rfl, tf_gle, nI_1]
    · rw [if_neg q, if_neg q, if_pos iw, tf_gle, if_pos iw, if_pos iv]
      have o10 : tf_wr σ 32 w (nI v) 10 = σ 10 := tf_wr_o _ _ _ (by decide)
      have o11 : tf_wr σ 32 w (nI v) 11 = σ 11 := tf_wr_o _ _ _ (by decide)
      have p10 : (tf_pw (tf_wr σ 32 w (nI v)) (h - 1) (σ 11 w) (σ 11 v)).2 10 = σ 10 := by
        unfold tf_pw
        by_cases z : σ 11 w = -1
        · rw [if_pos z]; exact o10
        · rw [if_neg z]
          show tf_wr (tf_wr (tf_wr σ 32 w (nI v)) 33 (h - 1) (σ 11 w)) 34 (h - 1) (σ 11 v) 10 = σ 10
          rw [tf_wr_o _ _ _ (by decide), tf_wr_o _ _ _ (by decide), o10]
      have pl : (tf_pw (tf_wr σ 32 w (nI v)) (h - 1) (σ 11 w) (σ 11 v)).1 < 82 := by
        unfold tf_pw
        by_cases z : σ 11 w = -1
        · rw [if_pos z]; show h - 1 < 82; omega
        · rw [if_neg z]; show h - 1 + 1 < 82; omega
      rw [o11, await_eq (show h - 1 < 82 by omega) (k2 e), tf_bse, tf_gle, if_pos iw, if_pos iv]
      dsimp only
      rw [p10, await_eq pl (k1 e), tf_bse, tf_gle]
      dsimp only
      rw [if_pos rfl, tf_gle, nI_1]
  · rw [if_neg e, if_neg e, if_neg (show ¬ (1 : Int32) = 0 by decide)]
