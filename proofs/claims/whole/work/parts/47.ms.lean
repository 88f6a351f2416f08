/-! pure part 8: what matching means -/
def tf_bi (b v : Int32) : Int32 × Int32 := if b = -1 then (0, v) else if b = v then (0, b) else (2, b)
def tf_ms (K : tf_S) : Nat → Int32 × Int32 → Nat → Nat → Int32 × Int32 × Int32
  | 0, b, _, _ => (0, b)
  | n + 1, b, w, v =>
    if w = 4 then ((tf_bi b.1 (nI v)).1, (tf_bi b.1 (nI v)).2, b.2)
    else if w = 5 then ((tf_bi b.2 (nI v)).1, b.1, (tf_bi b.2 (nI v)).2)
    else if K 9 w = K 9 v then
      (fun r1 : Int32 × Int32 × Int32 => if r1.1 = 0 then (if K 11 w = -1 then r1 else tf_ms K n r1.2 (K 11 w).toNatClampNeg (K 11 v).toNatClampNeg) else r1)
        (if K 10 w = -1 then (0, b) else tf_ms K n b (K 10 w).toNatClampNeg (K 10 v).toNatClampNeg)
    else (1, b)
def tf_ext (b b' : Int32 × Int32) : Prop := (b.1 ≠ -1 → b'.1 = b.1) ∧ (b.2 ≠ -1 → b'.2 = b.2)
theorem tf_ext.rf (b : Int32 × Int32) : tf_ext b b := ⟨fun _ => rfl, fun _ => rfl⟩
theorem tf_ext.tr {a b c : Int32 × Int32} (p : tf_ext a b) (q : tf_ext b c) : tf_ext a c :=
  ⟨fun h => (q.1 (by rw [p.1 h]; exact h)).trans (p.1 h), fun h => (q.2 (by rw [p.2 h]; exact h)).trans (p.2 h)⟩
theorem tf_ext.as {a b : Int32 × Int32} (p : tf_ext a b) (q : tf_ext b a) : a = b := by
  obtain ⟨a1, a2⟩ := a
  obtain ⟨b1, b2⟩ := b
  have e1 : a1 = b1 := by
    by_cases h : a1 = -1
    · by_cases h2 : b1 = -1
      · rw [h, h2]
      · exact q.1 h2
    · exact (p.1 h).symm
  have e2 : a2 = b2 := by
    by_cases h : a2 = -1
    · by_cases h2 : b2 = -1
      · rw [h, h2]
      · exact q.2 h2
    · exact (p.2 h).symm
  rw [e1, e2]
/-- the pairs under a pair of the same class -/
theorem tf_kids {K : tf_S} {nC nT w v : Nat} (W : tf_WF K nC nT) (w6 : 6 ≤ w) (hw : w < nT) (hv : v < nT) (e : K 9 w = K 9 v) :
    6 ≤ v ∧ ((K 10 w = -1 ∧ K 10 v = -1) ∨ ∃ a a', 4 ≤ a ∧ a < w ∧ 4 ≤ a' ∧ a' < v ∧ K 10 w = nI a ∧ K 10 v = nI a') ∧ ((K 11 w = -1 ∧ K 11 v = -1) ∨ ∃ a a', 4 ≤ a ∧ a < w ∧ 4 ≤ a' ∧ a' < v ∧ K 11 w = nI a ∧ K 11 v = nI a') := by
  have hnC := W.1.2.2.2.1
  obtain ⟨c, hc, e9, ar, -⟩ := W.2.2.2.2.2.1 w w6 hw
  have v6 : 6 ≤ v := by
    rcases Nat.lt_or_ge v 6 with q | q
    · have := (W.2.1 v q).1
      rw [← e, e9] at this
      exact absurd this (tf_m1ne c (by omega))
    · exact q
  obtain ⟨c2, hc2, e92, ar2, -⟩ := W.2.2.2.2.2.1 v v6 hv
  have ec : c2 = c := (nI_eq (by omega) (by omega)).mp (e92.symm.trans (e.symm.trans e9))
  subst ec
  refine ⟨v6, ?_⟩
  rcases ar with ⟨q1, q2, q3⟩ | ⟨q1, ⟨a, a1, a2, a3⟩, q3⟩ | ⟨q1, ⟨a, a1, a2, a3⟩, b, b1, b2, b3⟩ <;> rcases ar2 with ⟨p1, p2, p3⟩ | ⟨p1, ⟨d, d1, d2, d3⟩, p3⟩ | ⟨p1, ⟨d, d1, d2, d3⟩, f, f1, f2, f3⟩
  · exact ⟨Or.inl ⟨q2, p2⟩, Or.inl ⟨q3, p3⟩⟩
  · rw [q1] at p1; exact absurd p1 (by decide)
  · rw [q1] at p1; exact absurd p1 (by decide)
  · rw [q1] at p1; exact absurd p1 (by decide)
  · exact ⟨Or.inr ⟨a, d, a1, a2, d1, d2, a3, d3⟩, Or.inl ⟨q3, p3⟩⟩
  · rw [q1] at p1; exact absurd p1 (by decide)
  · rw [q1] at p1; exact absurd p1 (by decide)
  · rw [q1] at p1; exact absurd p1 (by decide)
  · exact ⟨Or.inr ⟨a, d, a1, a2, d1, d2, a3, d3⟩, Or.inr ⟨b, f, b1, b2, f1, f2, b3, f3⟩⟩
theorem tf_bi_ext {b v b' : Int32} (h : tf_bi b v = (0, b')) : b ≠ -1 → b' = b := by
  intro hne
  unfold tf_bi at h
  rw [if_neg hne] at h
  by_cases c : b = v
  · rw [if_pos c] at h; exact (Prod.mk.inj h).2.symm
  · rw [if_neg c] at h; exact absurd (Prod.mk.inj h).1 (by decide)
/-- the arm of a class pair, in words -/
theorem tf_ms_cl {K : tf_S} {n w v : Nat} {b : Int32 × Int32} (w4 : w ≠ 4) (w5 : w ≠ 5) (e : K 9 w = K 9 v) :
    tf_ms K (n + 1) b w v = (fun r1 : Int32 × Int32 × Int32 => if r1.1 = 0 then (if K 11 w = -1 then r1 else tf_ms K n r1.2 (K 11 w).toNatClampNeg (K 11 v).toNatClampNeg) else r1)
        (if K 10 w = -1 then (0, b) else tf_ms K n b (K 10 w).toNatClampNeg (K 10 v).toNatClampNeg) := by
  rw [tf_ms, if_neg w4, if_neg w5, if_pos e]
theorem tf_ms_ok {K : tf_S} {n w v : Nat} {b b' : Int32 × Int32} (w4 : w ≠ 4) (w5 : w ≠ 5) (h : tf_ms K (n + 1) b w v = (0, b')) :
    K 9 w = K 9 v ∧ ∃ b1, (if K 10 w = -1 then (0, b) else tf_ms K n b (K 10 w).toNatClampNeg (K 10 v).toNatClampNeg) = ((0 : Int32), b1) ∧ (if K 11 w = -1 then (0, b1) else tf_ms K n b1 (K 11 w).toNatClampNeg (K 11 v).toNatClampNeg) = ((0 : Int32), b') := by
  by_cases e : K 9 w = K 9 v
  · refine ⟨e, ?_⟩
    rw [tf_ms_cl w4 w5 e] at h
    generalize (if K 10 w = -1 then ((0 : Int32), b) else tf_ms K n b (K 10 w).toNatClampNeg (K 10 v).toNatClampNeg) = r at h
    obtain ⟨r0, r1⟩ := r
    dsimp only at h
    by_cases z : r0 = 0
    · subst z
      rw [if_pos rfl] at h
      exact ⟨r1, rfl, h⟩
    · rw [if_neg z] at h
      exact absurd (Prod.mk.inj h).1 z
  · rw [tf_ms, if_neg w4, if_neg w5, if_neg e] at h
    exact absurd (Prod.mk.inj h).1 (by decide)
theorem tf_ms_ext {K : tf_S} : ∀ (n w v : Nat) (b b' : Int32 × Int32), tf_ms K n b w v = (0, b') → tf_ext b b' := by
  intro n
  induction n with
  | zero =>
    intro w v b b' h
    rw [tf_ms] at h
    rw [(Prod.mk.inj h).2]; exact tf_ext.rf _
  | succ n ih =>
    intro w v b b' h
    by_cases w4 : w = 4
    · rw [tf_ms, if_pos w4] at h
      obtain ⟨h1, h2⟩ := Prod.mk.inj h
      rw [← h2]
      exact ⟨fun q => tf_bi_ext (b' := (tf_bi b.1 (nI v)).2) (by rw [← h1]) q, fun _ => rfl⟩
    · by_cases w5 : w = 5
      · rw [tf_ms, if_neg w4, if_pos w5] at h
        obtain ⟨h1, h2⟩ := Prod.mk.inj h
        rw [← h2]
        exact ⟨fun _ => rfl, fun q => tf_bi_ext (b' := (tf_bi b.2 (nI v)).2) (by rw [← h1]) q⟩
      · obtain ⟨e, b1, g1, g2⟩ := tf_ms_ok w4 w5 h
        have x1 : tf_ext b b1 := by
          by_cases c : K 10 w = -1
          · rw [if_pos c] at g1; rw [(Prod.mk.inj g1).2]; exact tf_ext.rf _
          · rw [if_neg c] at g1; exact ih _ _ _ _ g1
        have x2 : tf_ext b1 b' := by
          by_cases c : K 11 w = -1
          · rw [if_pos c] at g2; rw [(Prod.mk.inj g2).2]; exact tf_ext.rf _
          · rw [if_neg c] at g2; exact ih _ _ _ _ g2
        exact x1.tr x2
theorem tf_snd {a b : Int32} {p : Int32 × Int32} (h : (a, b) = p) : b = p.2 := by rw [← h]
theorem tf_bi_mono {b v c : Int32} (h : tf_bi b v = (0, b)) (hv : v ≠ -1) (hc : b ≠ -1 → c = b) : tf_bi c v = (0, c) := by
  unfold tf_bi at h
  by_cases z : b = -1
  · rw [if_pos z] at h
    have := (Prod.mk.inj h).2
    rw [z] at this
    exact absurd this hv
  · rw [if_neg z] at h
    by_cases q : b = v
    · have := hc z
      unfold tf_bi
      rw [this, if_neg z, if_pos q]
    · rw [if_neg q] at h; exact absurd (Prod.mk.inj h).1 (by decide)
theorem tf_ms_mono {K : tf_S} {nC nT : Nat} (W : tf_WF K nC nT) : ∀ (n w v : Nat) (b c : Int32 × Int32), v < nT → w < nT → (w = 4 ∨ w = 5 ∨ 6 ≤ w) → tf_ms K n b w v = (0, b) → tf_ext b c → tf_ms K n c w v = (0, c) := by
  have hn := W.1.2.2.2.2.2
  intro n
  induction n with
  | zero => intro w v b c _ _ _ _ _; rw [tf_ms]
  | succ n ih =>
    intro w v b c hv hw hk h x
    have nv := tf_m1ne v (by omega)
    by_cases w4 : w = 4
    · rw [tf_ms, if_pos w4] at h ⊢
      obtain ⟨h1, h2⟩ := Prod.mk.inj h
      have hb : tf_bi b.1 (nI v) = (0, b.1) := Prod.ext h1 (congrArg Prod.fst h2)
      rw [tf_bi_mono hb nv x.1]
    · by_cases w5 : w = 5
      · rw [tf_ms, if_neg w4, if_pos w5] at h ⊢
        obtain ⟨h1, h2⟩ := Prod.mk.inj h
        have hb : tf_bi b.2 (nI v) = (0, b.2) := Prod.ext h1 (show (tf_bi b.2 (nI v)).2 = b.2 from tf_snd h2)
        rw [tf_bi_mono hb nv x.2]
      · have w6 : 6 ≤ w := by omega
        obtain ⟨e, b1, g1, g2⟩ := tf_ms_ok w4 w5 h
        obtain ⟨v6, k1, k2⟩ := tf_kids W w6 hw hv e
        have x1 : tf_ext b b1 := by
          by_cases q : K 10 w = -1
          · rw [if_pos q] at g1; rw [(Prod.mk.inj g1).2]; exact tf_ext.rf _
          · rw [if_neg q] at g1; exact tf_ms_ext _ _ _ _ _ g1
        have x2 : tf_ext b1 b := by
          by_cases q : K 11 w = -1
          · rw [if_pos q] at g2; rw [(Prod.mk.inj g2).2]; exact tf_ext.rf _
          · rw [if_neg q] at g2; exact tf_ms_ext _ _ _ _ _ g2
        have eb := x1.as x2
        subst eb
        have f1 : (if K 10 w = -1 then ((0 : Int32), c) else tf_ms K n c (K 10 w).toNatClampNeg (K 10 v).toNatClampNeg) = (0, c) := by
          rcases k1 with ⟨q, -⟩ | ⟨a, a', a1, a2, a3, a4, a5, a6⟩
          · rw [if_pos q]
          · have q : ¬ K 10 w = -1 := by rw [a5]; exact tf_m1ne a (by omega)
            rw [if_neg q] at g1 ⊢
            rw [a5, a6, nI_clamp (by omega), nI_clamp (by omega)] at g1 ⊢
            exact ih a a' b c (by omega) (by omega) (by omega) g1 x
        have f2 : (if K 11 w = -1 then ((0 : Int32), c) else tf_ms K n c (K 11 w).toNatClampNeg (K 11 v).toNatClampNeg) = (0, c) := by
          rcases k2 with ⟨q, -⟩ | ⟨a, a', a1, a2, a3, a4, a5, a6⟩
          · rw [if_pos q]
          · have q : ¬ K 11 w = -1 := by rw [a5]; exact tf_m1ne a (by omega)
            rw [if_neg q] at g2 ⊢
            rw [a5, a6, nI_clamp (by omega), nI_clamp (by omega)] at g2 ⊢
            exact ih a a' b c (by omega) (by omega) (by omega) g2 x
        rw [tf_ms_cl w4 w5 e, f1]
        show (if (0 : Int32) = 0 then (if K 11 w = -1 then ((0 : Int32), c) else tf_ms K n c (K 11 w).toNatClampNeg (K 11 v).toNatClampNeg) else (0, c)) = (0, c)
        rw [if_pos rfl, f2]
theorem tf_bi_idem {b v b' : Int32} (h : tf_bi b v = (0, b')) (hv : v ≠ -1) : tf_bi b' v = (0, b') := by
  unfold tf_bi at h
  by_cases z : b = -1
  · rw [if_pos z] at h
    have := (Prod.mk.inj h).2
    subst this
    unfold tf_bi; rw [if_neg hv, if_pos rfl]
  · rw [if_neg z] at h
    by_cases q : b = v
    · rw [if_pos q] at h
      have := (Prod.mk.inj h).2
      subst this
      unfold tf_bi; rw [if_neg z, if_pos q]
    · rw [if_neg q] at h; exact absurd (Prod.mk.inj h).1 (by decide)
theorem tf_ms_idem {K : tf_S} {nC nT : Nat} (W : tf_WF K nC nT) : ∀ (n w v : Nat) (b b' : Int32 × Int32), v < nT → w < nT → (w = 4 ∨ w = 5 ∨ 6 ≤ w) → tf_ms K n b w v = (0, b') → tf_ms K n b' w v = (0, b') := by
  have hn := W.1.2.2.2.2.2
  intro n
  induction n with
  | zero => intro w v b c _ _ _ _; rw [tf_ms]
  | succ n ih =>
    intro w v b c hv hw hk h
    have nv := tf_m1ne v (by omega)
    by_cases w4 : w = 4
    · rw [tf_ms, if_pos w4] at h ⊢
      obtain ⟨h1, h2⟩ := Prod.mk.inj h
      subst h2
      dsimp only
      rw [tf_bi_idem (b := b.1) (b' := (tf_bi b.1 (nI v)).2) (Prod.ext h1 rfl) nv]
    · by_cases w5 : w = 5
      · rw [tf_ms, if_neg w4, if_pos w5] at h ⊢
        obtain ⟨h1, h2⟩ := Prod.mk.inj h
        subst h2
        dsimp only
        rw [tf_bi_idem (b := b.2) (b' := (tf_bi b.2 (nI v)).2) (Prod.ext h1 rfl) nv]
      · have w6 : 6 ≤ w := by omega
        obtain ⟨e, b1, g1, g2⟩ := tf_ms_ok w4 w5 h
        obtain ⟨v6, k1, k2⟩ := tf_kids W w6 hw hv e
        have x2 : tf_ext b1 c := by
          by_cases q : K 11 w = -1
          · rw [if_pos q] at g2; rw [(Prod.mk.inj g2).2]; exact tf_ext.rf _
          · rw [if_neg q] at g2; exact tf_ms_ext _ _ _ _ _ g2
        have f1 : (if K 10 w = -1 then ((0 : Int32), c) else tf_ms K n c (K 10 w).toNatClampNeg (K 10 v).toNatClampNeg) = (0, c) := by
          rcases k1 with ⟨q, -⟩ | ⟨a, a', a1, a2, a3, a4, a5, a6⟩
          · rw [if_pos q]
          · have q : ¬ K 10 w = -1 := by rw [a5]; exact tf_m1ne a (by omega)
            rw [if_neg q] at g1 ⊢
            rw [a5, a6, nI_clamp (by omega), nI_clamp (by omega)] at g1 ⊢
            exact tf_ms_mono W n a a' b1 c (by omega) (by omega) (by omega) (ih a a' b b1 (by omega) (by omega) (by omega) g1) x2
        have f2 : (if K 11 w = -1 then ((0 : Int32), c) else tf_ms K n c (K 11 w).toNatClampNeg (K 11 v).toNatClampNeg) = (0, c) := by
          rcases k2 with ⟨q, -⟩ | ⟨a, a', a1, a2, a3, a4, a5, a6⟩
          · rw [if_pos q]
          · have q : ¬ K 11 w = -1 := by rw [a5]; exact tf_m1ne a (by omega)
            rw [if_neg q] at g2 ⊢
            rw [a5, a6, nI_clamp (by omega), nI_clamp (by omega)] at g2 ⊢
            exact ih a a' b1 c (by omega) (by omega) (by omega) g2
        rw [tf_ms_cl w4 w5 e, f1]
        show (if (0 : Int32) = 0 then (if K 11 w = -1 then ((0 : Int32), c) else tf_ms K n c (K 11 w).toNatClampNeg (K 11 v).toNatClampNeg) else (0, c)) = (0, c)
        rw [if_pos rfl, f2]
/-- the fuel doesn't matter -/
theorem tf_ms_fuel {K : tf_S} {nC nT : Nat} (W : tf_WF K nC nT) : ∀ (n m w v : Nat) (b : Int32 × Int32), w < n → w < m → v < nT → w < nT → (w = 4 ∨ w = 5 ∨ 6 ≤ w) → tf_ms K n b w v = tf_ms K m b w v := by
  have hn := W.1.2.2.2.2.2
  intro n
  induction n with
  | zero => intro m w v b h; omega
  | succ n ih =>
    intro m w v b h1 h2 hv hw hk
    obtain ⟨m, rfl⟩ : ∃ k, m = k + 1 := ⟨m - 1, by omega⟩
    by_cases w4 : w = 4
    · rw [tf_ms, tf_ms, if_pos w4, if_pos w4]
    · by_cases w5 : w = 5
      · rw [tf_ms, tf_ms, if_neg w4, if_pos w5, if_neg w4, if_pos w5]
      · by_cases e : K 9 w = K 9 v
        · have w6 : 6 ≤ w := by omega
          obtain ⟨v6, k1, k2⟩ := tf_kids W w6 hw hv e
          rw [tf_ms_cl w4 w5 e, tf_ms_cl w4 w5 e]
          have f1 : (if K 10 w = -1 then ((0 : Int32), b) else tf_ms K n b (K 10 w).toNatClampNeg (K 10 v).toNatClampNeg) = (if K 10 w = -1 then ((0 : Int32), b) else tf_ms K m b (K 10 w).toNatClampNeg (K 10 v).toNatClampNeg) := by
            rcases k1 with ⟨q, -⟩ | ⟨a, a', a1, a2, a3, a4, a5, a6⟩
            · rw [if_pos q, if_pos q]
            · rw [a5, a6, nI_clamp (by omega), nI_clamp (by omega), ih m a a' b (by omega) (by omega) (by omega) (by omega) (by omega)]
          rw [f1]
          generalize (if K 10 w = -1 then ((0 : Int32), b) else tf_ms K m b (K 10 w).toNatClampNeg (K 10 v).toNatClampNeg) = r
          dsimp only
          rcases k2 with ⟨q, -⟩ | ⟨a, a', a1, a2, a3, a4, a5, a6⟩
          · rw [if_pos q, if_pos q]
          · rw [a5, a6, nI_clamp (by omega), nI_clamp (by omega), ih m a a' r.2 (by omega) (by omega) (by omega) (by omega) (by omega)]
        · rw [tf_ms, tf_ms, if_neg w4, if_neg w5, if_neg e, if_neg w4, if_neg w5, if_neg e]
/-- what stands for a pattern is one type -/
theorem tf_ms_uniq {K : tf_S} {nC nT : Nat} (W : tf_WF K nC nT) : ∀ (n w v v' : Nat) (b : Int32 × Int32), w < n → v < nT → v' < nT → w < nT → (w = 4 ∨ w = 5 ∨ 6 ≤ w) → tf_ms K n b w v = (0, b) → tf_ms K n b w v' = (0, b) → v = v' := by
  have hn := W.1.2.2.2.2.2
  intro n
  induction n with
  | zero => intro w v v' b h; omega
  | succ n ih =>
    intro w v v' b h1 hv hv' hw hk g g'
    have bb : ∀ x : Int32, tf_bi x (nI v) = (0, x) → tf_bi x (nI v') = (0, x) → v = v' := by
      intro x p q
      have px : ∀ y : Nat, y < nT → tf_bi x (nI y) = (0, x) → x = nI y := by
        intro y hy p
        unfold tf_bi at p
        by_cases z : x = -1
        · rw [if_pos z] at p
          have := (Prod.mk.inj p).2
          exact this.symm
        · rw [if_neg z] at p
          by_cases s : x = nI y
          · exact s
          · rw [if_neg s] at p; exact absurd (Prod.mk.inj p).1 (by decide)
      exact (nI_eq (by omega) (by omega)).mp ((px v hv p).symm.trans (px v' hv' q))
    by_cases w4 : w = 4
    · rw [tf_ms, if_pos w4] at g g'
      exact bb b.1 (Prod.ext (Prod.mk.inj g).1 (congrArg Prod.fst (Prod.mk.inj g).2)) (Prod.ext (Prod.mk.inj g').1 (congrArg Prod.fst (Prod.mk.inj g').2))
    · by_cases w5 : w = 5
      · rw [tf_ms, if_neg w4, if_pos w5] at g g'
        exact bb b.2 (Prod.ext (Prod.mk.inj g).1 (show (tf_bi b.2 (nI v)).2 = b.2 from tf_snd (Prod.mk.inj g).2)) (Prod.ext (Prod.mk.inj g').1 (show (tf_bi b.2 (nI v')).2 = b.2 from tf_snd (Prod.mk.inj g').2))
      · have w6 : 6 ≤ w := by omega
        obtain ⟨e, b1, p1, p2⟩ := tf_ms_ok w4 w5 g
        obtain ⟨e', b1', q1, q2⟩ := tf_ms_ok w4 w5 g'
        obtain ⟨v6, k1, k2⟩ := tf_kids W w6 hw hv e
        obtain ⟨v6', k1', k2'⟩ := tf_kids W w6 hw hv' e'
        have mid : ∀ (y : Nat) (c : Int32 × Int32), (if K 10 w = -1 then ((0 : Int32), b) else tf_ms K n b (K 10 w).toNatClampNeg (K 10 y).toNatClampNeg) = (0, c) → (if K 11 w = -1 then ((0 : Int32), c) else tf_ms K n c (K 11 w).toNatClampNeg (K 11 y).toNatClampNeg) = (0, b) → c = b := by
          intro y c r1 r2
          have x1 : tf_ext b c := by
            by_cases q : K 10 w = -1
            · rw [if_pos q] at r1; rw [(Prod.mk.inj r1).2]; exact tf_ext.rf _
            · rw [if_neg q] at r1; exact tf_ms_ext _ _ _ _ _ r1
          have x2 : tf_ext c b := by
            by_cases q : K 11 w = -1
            · rw [if_pos q] at r2; rw [(Prod.mk.inj r2).2]; exact tf_ext.rf _
            · rw [if_neg q] at r2; exact tf_ms_ext _ _ _ _ _ r2
          exact (x1.as x2).symm
        have m1 := mid v b1 p1 p2
        have m2 := mid v' b1' q1 q2
        subst m1
        subst m2
        have a10 : K 10 v = K 10 v' := by
          rcases k1 with ⟨u, u2⟩ | ⟨a, a', a1, a2, a3, a4, a5, a6⟩ <;> rcases k1' with ⟨z, z2⟩ | ⟨d, d', d1, d2, d3, d4, d5, d6⟩
          · rw [u2, z2]
          · exact absurd (u.symm.trans d5).symm (tf_m1ne d (by omega))
          · exact absurd (z.symm.trans a5).symm (tf_m1ne a (by omega))
          · have q : ¬ K 10 w = -1 := by rw [a5]; exact tf_m1ne a (by omega)
            rw [if_neg q, a5, a6, nI_clamp (by omega), nI_clamp (by omega)] at p1
            rw [if_neg q, a5, d6, nI_clamp (by omega), nI_clamp (by omega)] at q1
            rw [a6, d6, ih a a' d' _ (by omega) (by omega) (by omega) (by omega) (by omega) p1 q1]
        have a11 : K 11 v = K 11 v' := by
          rcases k2 with ⟨u, u2⟩ | ⟨a, a', a1, a2, a3, a4, a5, a6⟩ <;> rcases k2' with ⟨z, z2⟩ | ⟨d, d', d1, d2, d3, d4, d5, d6⟩
          · rw [u2, z2]
          · exact absurd (u.symm.trans d5).symm (tf_m1ne d (by omega))
          · exact absurd (z.symm.trans a5).symm (tf_m1ne a (by omega))
          · have q : ¬ K 11 w = -1 := by rw [a5]; exact tf_m1ne a (by omega)
            rw [if_neg q, a5, a6, nI_clamp (by omega), nI_clamp (by omega)] at p2
            rw [if_neg q, a5, d6, nI_clamp (by omega), nI_clamp (by omega)] at q2
            rw [a6, d6, ih a a' d' _ (by omega) (by omega) (by omega) (by omega) (by omega) p2 q2]
        exact W.2.2.2.2.2.2.1 v v' v6 hv v6' hv' (e.symm.trans e') a10 a11
