/-! pure part 11: matching in the reference -/
def tf_vn (σ : tf_S) : Nat → Nat
  | 0 => 0
  | i + 1 => tf_vn σ i + (if σ 17 i = 0 then 1 else 0)
theorem tf_vn_le (σ : tf_S) : ∀ i, tf_vn σ i ≤ i := by
  intro i
  induction i with
  | zero => exact Nat.le_refl _
  | succ i ih =>
    rw [tf_vn]
    by_cases h : σ 17 i = 0
    · rw [if_pos h]; omega
    · rw [if_neg h]; omega
theorem tf_vn_set {σ σ' : tf_S} {j : Nat} {x : Int32} (e : σ' 17 = upd (σ 17) j x) (hx : x ≠ 0) (h0 : σ 17 j = 0) : ∀ i, j < i → tf_vn σ' i + 1 = tf_vn σ i := by
  have lo : ∀ i, i ≤ j → tf_vn σ' i = tf_vn σ i := by
    intro i
    induction i with
    | zero => intro _; rfl
    | succ i ih => intro hi; rw [tf_vn, tf_vn, ih (by omega), e, pk_un (by omega)]
  intro i
  induction i with
  | zero => intro h; omega
  | succ i ih =>
    intro h
    by_cases c : j = i
    · subst c
      rw [tf_vn, tf_vn, lo j (Nat.le_refl _), e, pk_us, if_neg hx, if_pos h0]
    · have := ih (by omega)
      rw [tf_vn, tf_vn, e, pk_un (Ne.symm c)]; omega
theorem tf_vn_cg {σ σ' : tf_S} (e : σ' 17 = σ 17) (i : Nat) : tf_vn σ' i = tf_vn σ i := by
  induction i with
  | zero => rfl
  | succ i ih => rw [tf_vn, tf_vn, ih, e]
def tf_bM (σ : tf_S) : Int32 × Int32 := (σ 15 0, σ 15 1)
def tf_sM (K : tf_S) (nT : Nat) (σ : tf_S) (b : Int32 × Int32) (L : Nat) : Prop := ∀ p q, 6 ≤ p → p < L → q < nT → σ 17 (80 * p + q) ≠ 0 → tf_ms K 80 b p q = (0, b)
def tf_fM (σ σ' : tf_S) : Prop := (∀ c, c ≠ 0 → c ≠ 15 → c ≠ 16 → c ≠ 17 → σ' c = σ c) ∧ ∀ j, j ≠ 23 → j ≠ 20 → σ' 0 j = σ 0 j
theorem tf_fM.rf {σ : tf_S} : tf_fM σ σ := ⟨fun _ _ _ _ _ => rfl, fun _ _ _ => rfl⟩
theorem tf_fM.tr {a b c : tf_S} (p : tf_fM a b) (q : tf_fM b c) : tf_fM a c := ⟨fun k h1 h2 h3 h4 => (q.1 k h1 h2 h3 h4).trans (p.1 k h1 h2 h3 h4), fun j h1 h2 => (q.2 j h1 h2).trans (p.2 j h1 h2)⟩
theorem tf_TM.keep {K σ σ' : tf_S} {nC nT : Nat} (T : tf_TM K σ nC nT) (f : tf_fM σ σ') : tf_TM K σ' nC nT := by
  obtain ⟨m1, m2, m3, m4⟩ := T
  refine ⟨(f.2 0 (by decide) (by decide)).trans m1, (f.2 3 (by decide) (by decide)).trans m2, fun k hk => ?_, fun k hk => ?_⟩
  · rw [f.1 1 (by decide) (by decide) (by decide) (by decide), f.1 2 (by decide) (by decide) (by decide) (by decide)]; exact m3 k hk
  · rw [f.1 3 (by decide) (by decide) (by decide) (by decide), f.1 4 (by decide) (by decide) (by decide) (by decide), f.1 5 (by decide) (by decide) (by decide) (by decide), f.1 6 (by decide) (by decide) (by decide) (by decide)]; exact m4 k hk
def tf_OM (K : tf_S) (nT : Nat) (x1 x2 : Int32) (L : Nat) (σ : tf_S) (h0 : Nat) (r : Int32 × Int32 × Int32) (bs : Nat) : Prop :=
  ∃ (σ' : tf_S) (k : Nat), tf_fM σ σ' ∧ (∀ i, i < 2 * h0 → σ' 16 i = σ 16 i) ∧ (∀ p q, L ≤ p → q < 80 → σ' 17 (80 * p + q) = σ 17 (80 * p + q)) ∧ k + 2 * tf_vn σ' 6400 ≤ bs + 2 * tf_vn σ 6400 ∧
    ((r.1 = 0 ∧ tf_bM σ' = r.2 ∧ σ' 0 23 = nI h0 ∧ tf_sM K nT σ' r.2 L ∧ ∀ m, fX7_holds_33 x1 x2 (m + k) σ = fX7_holds_33 x1 x2 m σ') ∨
     (r.1 ≠ 0 ∧ σ' 0 20 = r.1 ∧ ∀ m, fX7_holds_33 x1 x2 (m + k) σ = some (0, σ')))
theorem tf_two (k : Nat) : (2 : Int32) * nI k = nI (2 * k) := pk_mul 2 k
def tf_hp (σ : tf_S) (k : Nat) (x y : Int32) : tf_S := tf_wr (tf_wr (tf_wr σ 16 (2 * k) x) 16 (2 * k + 1) y) 0 23 (nI (k + 1))
theorem holdPair_eq {σ : tf_S} {k : Nat} {x y : Int32} (e : σ 0 23 = nI k) (hk : k < 199) : fX7_holdPair σ x y = some (tf_hp σ k x y) := by
  unfold fX7_holdPair tf_hp
  have i1 : tf_inb (nI (2 * k)) 400 = true := tf_ib (by omega) (by decide)
  have i2 : tf_inb (nI (2 * k + 1)) 400 = true := tf_ib (by omega) (by decide)
  rw [e, tf_two, if_pos i1, nI_clamp (by omega), tf_gle, tf_wr_o _ _ _ (by decide), e, tf_two, nI_1, if_pos i2, nI_clamp (by omega), tf_gle, tf_wr_o _ _ _ (by decide), tf_wr_o _ _ _ (by decide), e, nI_1, tf_gle]
def tf_pm (σ : tf_S) (k : Nat) (x y : Int32) : Nat × tf_S := if x = -1 then (k, σ) else (k + 1, tf_hp σ k x y)
theorem bindsM_eq {σ : tf_S} {i v : Nat} (hi : i < 2) (hv : v < 2 ^ 31) : fX7_binds σ (nI i) (nI v) = some (if (tf_bi (σ 15 i) (nI v)).1 = 0 then 1 else 0, if (tf_bi (σ 15 i) (nI v)).1 = 0 then tf_wr σ 15 i (nI v) else tf_wr σ 0 20 2) := by
  have ii : tf_inb (nI i) 2 = true := tf_ib hi (by decide)
  have ci : (nI i).toNatClampNeg = i := nI_clamp (by omega)
  unfold fX7_binds
  rw [if_pos ii, ci]
  by_cases c : σ 15 i = -1
  · have t0 : (tf_bi (σ 15 i) (nI v)).1 = 0 := by unfold tf_bi; rw [if_pos c]
    rw [if_pos c, if_pos ii, tf_gle, if_pos t0, if_pos t0]
  · rw [if_neg c, if_pos ii]
    by_cases d : σ 15 i = nI v
    · have t0 : (tf_bi (σ 15 i) (nI v)).1 = 0 := by unfold tf_bi; rw [if_neg c, if_pos d]
      rw [if_pos d, if_pos ii, tf_gle, if_pos t0, if_pos t0]
    · have t0 : ¬ (tf_bi (σ 15 i) (nI v)).1 = 0 := by unfold tf_bi; rw [if_neg c, if_neg d]; show ¬ (2 : Int32) = 0; decide
      rw [if_neg d, if_neg t0, if_neg t0]
      unfold fX7_fails
      rw [tf_gle, tf_bse]
      rfl
theorem holdsM_var {σ : tf_S} {x1 x2 : Int32} {i v h : Nat} (hi : i < 2) (h1 : 1 ≤ h) (hh : h ≤ 199) (hv : v < 80) (eh : σ 0 23 = nI h) (ew : σ 16 (2 * (h - 1)) = nI (4 + i)) (ev : σ 16 (2 * (h - 1) + 1) = nI v) (m : Nat) :
    fX7_holds_33 x1 x2 (m + 1) σ = if (tf_bi (σ 15 i) (nI v)).1 = 0 then fX7_holds_33 x1 x2 m (tf_wr (tf_wr σ 0 23 (nI (h - 1))) 15 i (nI v)) else some (0, tf_wr (tf_wr σ 0 23 (nI (h - 1))) 0 20 2) := by
  have i1 : tf_inb (nI (2 * (h - 1))) 400 = true := tf_ib (by omega) (by decide)
  have i2 : tf_inb (nI (2 * (h - 1) + 1)) 400 = true := tf_ib (by omega) (by decide)
  have e23 : tf_wr σ 0 23 (nI (h - 1)) 0 23 = nI (h - 1) := by rw [tf_wr_s, pk_us]
  have e16 : tf_wr σ 0 23 (nI (h - 1)) 16 = σ 16 := tf_wr_o _ _ _ (by decide)
  have e15 : tf_wr σ 0 23 (nI (h - 1)) 15 = σ 15 := tf_wr_o _ _ _ (by decide)
  have e : nI (4 + i) - (4 : Int32) = nI i := by
    have : nI (4 + i) - nI 4 = nI (4 + i - 4) := pk_sub (by omega)
    rw [show 4 + i - 4 = i by omega] at this
    exact this
  rw [fX7_holds_33, eh, if_neg (show ¬ nI h ≤ 0 from nI_nle (by omega) (by omega)), tf_pred h1, tf_gle, e23, tf_two, if_pos i1, nI_clamp (by omega), e16, ew, tf_gle, nI_1, if_pos i2, nI_clamp (by omega), ev, tf_gle, e, bindsM_eq hi (by omega), e15, tf_bse]
  have key : (if (if (tf_bi (σ 15 i) (nI v)).1 = 0 then (1 : Int32) else 0) = 0 then some ((0 : Int32), if (tf_bi (σ 15 i) (nI v)).1 = 0 then tf_wr (tf_wr σ 0 23 (nI (h - 1))) 15 i (nI v) else tf_wr (tf_wr σ 0 23 (nI (h - 1))) 0 20 2) else fX7_holds_33 x1 x2 m (if (tf_bi (σ 15 i) (nI v)).1 = 0 then tf_wr (tf_wr σ 0 23 (nI (h - 1))) 15 i (nI v) else tf_wr (tf_wr σ 0 23 (nI (h - 1))) 0 20 2)) = if (tf_bi (σ 15 i) (nI v)).1 = 0 then fX7_holds_33 x1 x2 m (tf_wr (tf_wr σ 0 23 (nI (h - 1))) 15 i (nI v)) else some (0, tf_wr (tf_wr σ 0 23 (nI (h - 1))) 0 20 2) := by
    by_cases c : (tf_bi (σ 15 i) (nI v)).1 = 0
    · rw [if_pos c, if_pos c, if_pos c, if_neg (show ¬ (1 : Int32) = 0 by decide)]
    · rw [if_neg c, if_neg c, if_neg c, if_pos rfl]
  rcases (show i = 0 ∨ i = 1 by omega) with rfl | rfl
  · rw [if_pos (show nI (4 + 0) = (4 : Int32) from rfl)]; exact key
  · rw [if_neg (show ¬ nI (4 + 1) = (4 : Int32) by decide +kernel), if_pos (show nI (4 + 1) = (5 : Int32) from rfl)]; exact key
theorem holdsM_cls {K σ : tf_S} {x1 x2 : Int32} {nC nT w v h : Nat} (W : tf_WF K nC nT) (T : tf_TM K σ nC nT) (w6 : 6 ≤ w) (hw : w < nT) (h1 : 1 ≤ h) (hh : h ≤ 190) (hv : v < nT) (eh : σ 0 23 = nI h) (ew : σ 16 (2 * (h - 1)) = nI w) (ev : σ 16 (2 * (h - 1) + 1) = nI v) (m : Nat) :
    fX7_holds_33 x1 x2 (m + 1) σ = if σ 17 (80 * w + v) = 0 then (if K 9 w = K 9 v then
      fX7_holds_33 x1 x2 m (tf_pm (tf_pm (tf_wr (tf_wr σ 0 23 (nI (h - 1))) 17 (80 * w + v) 1) (h - 1) (K 11 w) (K 11 v)).2 (tf_pm (tf_wr (tf_wr σ 0 23 (nI (h - 1))) 17 (80 * w + v) 1) (h - 1) (K 11 w) (K 11 v)).1 (K 10 w) (K 10 v)).2
      else some (0, tf_wr (tf_wr (tf_wr σ 0 23 (nI (h - 1))) 17 (80 * w + v) 1) 0 20 1)) else fX7_holds_33 x1 x2 m (tf_wr σ 0 23 (nI (h - 1))) := by
  have hT := W.1.2.2.2.2.2
  have i1 : tf_inb (nI (2 * (h - 1))) 400 = true := tf_ib (by omega) (by decide)
  have i2 : tf_inb (nI (2 * (h - 1) + 1)) 400 = true := tf_ib (by omega) (by decide)
  have e23 : tf_wr σ 0 23 (nI (h - 1)) 0 23 = nI (h - 1) := by rw [tf_wr_s, pk_us]
  have e16 : tf_wr σ 0 23 (nI (h - 1)) 16 = σ 16 := tf_wr_o _ _ _ (by decide)
  have e17 : tf_wr σ 0 23 (nI (h - 1)) 17 = σ 17 := tf_wr_o _ _ _ (by decide)
  have n4 : ¬ nI w = (4 : Int32) := fun e => by have := (nI_eq (a := w) (b := 4) (by omega) (by decide)).mp e; omega
  have n5 : ¬ nI w = (5 : Int32) := fun e => by have := (nI_eq (a := w) (b := 5) (by omega) (by decide)).mp e; omega
  have ix : (80 : Int32) * nI w + nI v = nI (80 * w + v) := by rw [show (80 : Int32) * nI w = nI (80 * w) from pk_mul 80 w, nI_add]
  have ii : tf_inb (nI (80 * w + v)) 6400 = true := tf_ib (by omega) (by decide)
  have ci : (nI (80 * w + v)).toNatClampNeg = 80 * w + v := nI_clamp (by omega)
  have iw : tf_inb (nI w) 80 = true := tf_ib (by omega) (by decide)
  have iv : tf_inb (nI v) 80 = true := tf_ib (by omega) (by decide)
  have cw : (nI w).toNatClampNeg = w := nI_clamp (by omega)
  have cv : (nI v).toNatClampNeg = v := nI_clamp (by omega)
  rw [fX7_holds_33, eh, if_neg (show ¬ nI h ≤ 0 from nI_nle (by omega) (by omega)), tf_pred h1, tf_gle, e23, tf_two, if_pos i1, nI_clamp (by omega), e16, ew, tf_gle, nI_1, if_pos i2, nI_clamp (by omega), ev, tf_gle, if_neg n4, if_neg n5, ix, if_pos ii, ci, e17]
  by_cases c : σ 17 (80 * w + v) = 0
  · rw [if_pos c, if_pos c, if_pos ii, tf_gle, if_pos iw, if_pos iv, cw, cv]
    have oo : ∀ k, k ≠ 0 → k ≠ 17 → tf_wr (tf_wr σ 0 23 (nI (h - 1))) 17 (80 * w + v) 1 k = σ k := fun k k0 k17 => by rw [tf_wr_o _ _ _ k17, tf_wr_o _ _ _ k0]
    have o23 : tf_wr (tf_wr σ 0 23 (nI (h - 1))) 17 (80 * w + v) 1 0 23 = nI (h - 1) := by rw [tf_wr_o _ _ _ (by decide), e23]
    generalize tf_wr (tf_wr σ 0 23 (nI (h - 1))) 17 (80 * w + v) 1 = σ1 at oo o23 ⊢
    rw [oo 3 (by decide) (by decide), (T.2.2.2 w hw).1, (T.2.2.2 v hv).1]
    by_cases e : K 9 w = K 9 v
    · obtain ⟨v6, k1, k2⟩ := tf_kids W w6 hw hv e
      rw [if_pos e, if_pos e, if_pos iw, oo 5 (by decide) (by decide), (T.2.2.2 w hw).2.2.1, (T.2.2.2 v hv).2.2.1]
      have fin : ∀ (σ2 : tf_S) (g : Nat), (∀ k, k ≠ 0 → k ≠ 16 → σ2 k = σ1 k) → σ2 0 23 = nI g → g < 199 → fX7_holds_177 x1 x2 (fX7_holds_33 x1 x2 m) σ2 (nI w) (nI v) = fX7_holds_33 x1 x2 m (tf_pm σ2 g (K 10 w) (K 10 v)).2 := by
        intro σ2 g o2 g23 hg
        unfold fX7_holds_177 tf_pm
        rw [if_pos iw, cw, cv, o2 4 (by decide) (by decide), oo 4 (by decide) (by decide), (T.2.2.2 w hw).2.1, (T.2.2.2 v hv).2.1]
        rcases k1 with ⟨z, -⟩ | ⟨a, a', a1, a2, a3, a4, a5, a6⟩
        · rw [if_pos z, z, if_pos (by decide)]
        · rw [a5, a6, if_neg (nI_pos (by omega)), if_pos iw, if_pos iv, holdPair_eq g23 hg, tf_bse, if_neg (tf_m1ne a (by omega))]
      rcases k2 with ⟨z, -⟩ | ⟨a, a', a1, a2, a3, a4, a5, a6⟩
      · rw [z, if_pos (by decide), fin σ1 (h - 1) (fun _ _ _ => rfl) o23 (by omega)]
        unfold tf_pm
        rw [if_pos rfl]
      · rw [a5, a6, if_neg (nI_pos (by omega)), if_pos iw, if_pos iv, holdPair_eq o23 (by omega), tf_bse]
        have f := fin (tf_hp σ1 (h - 1) (nI a) (nI a')) (h - 1 + 1) (fun k k0 k16 => by unfold tf_hp; rw [tf_wr_o _ _ _ k0, tf_wr_o _ _ _ k16, tf_wr_o _ _ _ k16]) (by unfold tf_hp; rw [tf_wr_s, pk_us]) (by omega)
        rw [f]
        have ep : tf_pm σ1 (h - 1) (nI a) (nI a') = (h - 1 + 1, tf_hp σ1 (h - 1) (nI a) (nI a')) := by unfold tf_pm; rw [if_neg (tf_m1ne a (by omega))]
        rw [ep]
    · rw [if_neg e, if_neg e]
      unfold fX7_fails
      rw [tf_gle, tf_bse]
      rfl
  · rw [if_neg c, if_neg c]
