/-! pure part 6: from which class, seen as -/
def tf_anc (σ : tf_S) (o : Nat) : Nat → Nat → Prop
  | 0, c => c = o
  | n + 1, c => c = o ∨ (c ≠ 0 ∧ ∃ p c', p < 80 ∧ c' < c ∧ c < 12 ∧ σ 8 c = nI p ∧ σ 9 p = nI c' ∧ tf_anc σ o n c')
theorem tf_anc_up {σ : tf_S} {o : Nat} : ∀ {n m c : Nat}, n ≤ m → tf_anc σ o n c → tf_anc σ o m c := by
  intro n
  induction n with
  | zero =>
    intro m c _ h
    cases m with
    | zero => exact h
    | succ m => exact Or.inl h
  | succ n ih =>
    intro m c hm h
    obtain ⟨m, rfl⟩ : ∃ k, m = k + 1 := ⟨m - 1, by omega⟩
    rcases h with h | ⟨h0, p, c', u1, u2, u3, h1, h2, h3⟩
    · exact Or.inl h
    · exact Or.inr ⟨h0, p, c', u1, u2, u3, h1, h2, ih (by omega) h3⟩
theorem classAbove_eq {σ : tf_S} {c p : Nat} (h1 : 1 ≤ c) (hc : c < 12) (e : σ 8 c = nI p) (hp : p < 80) : fX4_classAbove σ (nI c) = some (σ 9 p, σ) := by
  unfold fX4_classAbove
  rw [if_neg (nI_ne0 (by omega) (by omega)), if_pos (tf_ib hc (by decide)), nI_clamp (by omega), e, if_pos (tf_ib hp (by decide)), nI_clamp (by omega)]
theorem fromM_lt {σx σm : tf_S} {nC nT o : Nat} {x1 : Int32} (h : tf_WF σx nC nT) (hM : tf_TM σx σm nC nT) (ho : o < nC) : ∀ c, c < o → ∃ k, k ≤ c + 1 ∧ ∀ m, fX7_comesFrom_2 x1 (nI o) (m + k) σm (nI c) = some (0, σm) := by
  have hn := h.1.2.2.2.1
  have hnT := h.1.2.2.2.2.2
  intro c
  induction c using Nat.strongRecOn with
  | ind c IH =>
  intro hc
  have ne : ¬ nI c = nI o := fun e => by have := (nI_eq (a := c) (b := o) (by omega) (by omega)).mp e; omega
  rcases Nat.eq_zero_or_pos c with c0 | c1
  · refine ⟨1, by omega, fun m => ?_⟩
    rw [fX7_comesFrom_2, if_neg ne, if_pos (by rw [c0]; rfl), if_neg ne]
  · obtain ⟨-, p, c', p6, pn, cc, e8, e9, -⟩ := h.2.2.2.2.2.2.2.2 c c1 (by omega)
    obtain ⟨k, hk, f⟩ := IH c' cc (by omega)
    refine ⟨k + 1, by omega, fun m => ?_⟩
    rw [show m + (k + 1) = m + k + 1 by omega, fX7_comesFrom_2, if_neg ne, if_neg (nI_ne0 c1 (by omega)), if_pos (tf_ib (show c < 12 by omega) (by decide)), nI_clamp (by omega), (hM.2.2.1 c (by omega)).2, e8, if_pos (tf_ib (show p < 80 by omega) (by decide)), nI_clamp (by omega), (hM.2.2.2 p pn).1, e9]
    exact f m
theorem tf_from_rec {σx σm : tf_S} {nC nT o : Nat} {x1 : Int32} (h : tf_WF σx nC nT) (hM : tf_TM σx σm nC nT) (ho : o < nC) : ∀ c, c < nC → ∀ st, st + c ≤ 12 → ∃ r : Int32, (r = 0 ∨ r = 1) ∧ (r = 1 → tf_anc σx o c c) ∧ (o = 0 → r = 1) ∧ (∃ k, k ≤ c + 1 ∧ ∀ m, fX4_isFrom_5 x1 (nI o) (m + k) σx (nI c) (nI st) = some (r, σx)) ∧ (∃ k, k ≤ c + 1 ∧ ∀ m, fX7_comesFrom_2 x1 (nI o) (m + k) σm (nI c) = some (r, σm)) := by
  have hn := h.1.2.2.2.1
  have hnT := h.1.2.2.2.2.2
  intro c
  induction c using Nat.strongRecOn with
  | ind c IH =>
  intro hc st hst
  rcases Nat.lt_trichotomy c o with lt | eq | gt
  · have ne : ¬ nI c = nI o := fun e => by have := (nI_eq (a := c) (b := o) (by omega) (by omega)).mp e; omega
    refine ⟨0, Or.inl rfl, fun e => absurd e (by decide), fun e => absurd lt (by omega), ⟨1, by omega, fun m => ?_⟩, fromM_lt h hM ho c lt⟩
    rw [fX4_isFrom_5, if_pos (nI_le (by omega) (by omega)), if_neg ne]
  · subst eq
    refine ⟨1, Or.inr rfl, fun _ => ?_, fun _ => rfl, ⟨1, by omega, fun m => ?_⟩, ⟨1, by omega, fun m => ?_⟩⟩
    · cases c with
      | zero => rfl
      | succ c => exact Or.inl rfl
    · rw [fX4_isFrom_5, if_pos (nI_le (Nat.le_refl _) (by omega)), if_pos rfl]
    · rw [fX7_comesFrom_2, if_pos rfl, if_pos rfl]
  · have ne : ¬ nI c = nI o := fun e => by have := (nI_eq (a := c) (b := o) (by omega) (by omega)).mp e; omega
    obtain ⟨-, p, c', p6, pn, cc, e8, e9, -⟩ := h.2.2.2.2.2.2.2.2 c (by omega) hc
    obtain ⟨r, r01, ra, r0, ⟨k, hk, f⟩, ⟨k2, hk2, f2⟩⟩ := IH c' cc (by omega) (st + 1) (by omega)
    refine ⟨r, r01, fun e => ?_, r0, ⟨k + 1, by omega, fun m => ?_⟩, ⟨k2 + 1, by omega, fun m => ?_⟩⟩
    · obtain ⟨d, rfl⟩ : ∃ d, c = d + 1 := ⟨c - 1, by omega⟩
      exact Or.inr ⟨by omega, p, c', by omega, cc, by omega, e8, e9, tf_anc_up (by omega) (ra e)⟩
    · rw [show m + (k + 1) = m + k + 1 by omega, fX4_isFrom_5, if_neg (nI_ge gt (by omega)), if_neg (show ¬ (12 : Int32) ≤ nI st from nI_ge (b := 12) (by omega) (by decide)), classAbove_eq (by omega) (by omega) e8 (by omega), e9]
      show fX4_isFrom_5 x1 (nI o) (m + k) σx (nI c') (nI st + 1) = _
      rw [nI_1]; exact f m
    · rw [show m + (k2 + 1) = m + k2 + 1 by omega, fX7_comesFrom_2, if_neg ne, if_neg (nI_ne0 (by omega) (by omega)), if_pos (tf_ib (show c < 12 by omega) (by decide)), nI_clamp (by omega), (hM.2.2.1 c (by omega)).2, e8, if_pos (tf_ib (show p < 80 by omega) (by decide)), nI_clamp (by omega), (hM.2.2.2 p pn).1, e9]
      exact f2 m
theorem tf_from_sim {σx σm : tf_S} {nC nT o c : Nat} (h : tf_WF σx nC nT) (hM : tf_TM σx σm nC nT) (ho : o < nC) (hc : c < nC) : ∃ r : Int32, (r = 0 ∨ r = 1) ∧ (r = 1 → tf_anc σx o c c) ∧ (o = 0 → r = 1) ∧ fX4_isFrom σx (nI c) (nI o) = some (r, σx) ∧ fX7_comesFrom σm (nI c) (nI o) = some (r, σm) := by
  have hn := h.1.2.2.2.1
  obtain ⟨r, r1, r2, r3, ⟨k, hk, f⟩, ⟨k2, hk2, f2⟩⟩ := tf_from_rec (x1 := nI c) h hM ho c hc 0 (by omega)
  refine ⟨r, r1, r2, r3, ?_, ?_⟩
  · unfold fX4_isFrom
    rw [show (100000 : Nat) = (100000 - k) + k by omega]
    exact f _
  · unfold fX7_comesFrom
    rw [show (100000 : Nat) = (100000 - k2) + k2 by omega]
    exact f2 _
theorem tf_anc_cg {σ σ' : tf_S} {o nC nT : Nat} (h : tf_WF σ nC nT) (F : tf_Fx σ σ' nT) : ∀ n c, c < nC → tf_anc σ o n c → tf_anc σ' o n c := by
  have e8 : σ' 8 = σ 8 := F.1 8 (by decide) (by decide) (by decide) (by decide) (by decide) (by decide) (by decide)
  have hnT := h.1.2.2.2.2.2
  have hnC := h.1.2.2.2.1
  intro n
  induction n with
  | zero => intro c _ q; exact q
  | succ n ih =>
    intro c hc q
    rcases q with q | ⟨q0, p, c', u1, u2, u3, q1, q2, q3⟩
    · exact Or.inl q
    · obtain ⟨-, p2, c2, p6, pn, cc, g8, g9, -⟩ := h.2.2.2.2.2.2.2.2 c (by omega) hc
      have e : p = p2 := (nI_eq (by omega) (by omega)).mp (q1.symm.trans g8)
      subst e
      exact Or.inr ⟨q0, p, c', u1, u2, u3, by rw [e8]; exact q1, by rw [(F.2.2 p pn).1]; exact q2, ih c' (by omega) q3⟩
theorem tf_bse {α β : Type} (a : α) (f : α → Option β) : (some a).bind f = f a := Eq.trans rfl rfl
theorem tf_or0 {x y : Int32} (hx : tf_w4 x) (hy : tf_w4 y) : x ||| y = 0 → x = 0 ∧ y = 0 := by
  rcases hx with rfl | rfl | rfl | rfl <;> rcases hy with rfl | rfl | rfl | rfl <;> decide
theorem tf_cov {σ : tf_S} {c n : Nat} {x y w : Int32} (ar : tf_AR σ c x y n) (hn : n ≤ 80) (hw : tf_w4 w) (hs : w >>> (σ 7 c &&& 31) = 0) : (tf_b0 w → x ≠ -1) ∧ (tf_b1 w → y ≠ -1) := by
  rcases ar with ⟨q1, q2, q3⟩ | ⟨q1, ⟨a, a1, a2, a3⟩, q3⟩ | ⟨q1, ⟨a, a1, a2, a3⟩, b, b1, b2, b3⟩
  · rw [q1] at hs
    rcases hw with rfl | rfl | rfl | rfl
    · exact ⟨fun e => absurd e (by unfold tf_b0; decide), fun e => absurd e (by unfold tf_b1; decide)⟩
    · exact absurd hs (by decide +kernel)
    · exact absurd hs (by decide +kernel)
    · exact absurd hs (by decide +kernel)
  · rw [q1] at hs
    refine ⟨fun _ => by rw [a3]; exact tf_m1ne a (by omega), fun e => ?_⟩
    rcases hw with rfl | rfl | rfl | rfl
    · exact absurd e (by unfold tf_b1; decide)
    · exact absurd e (by unfold tf_b1; decide)
    · exact absurd hs (by decide +kernel)
    · exact absurd hs (by decide +kernel)
  · exact ⟨fun _ => by rw [a3]; exact tf_m1ne a (by omega), fun _ => by rw [b3]; exact tf_m1ne b (by omega)⟩
/-- the arguments of a type's row, as what may be put in -/
theorem tf_argv {σ : tf_S} {nC nT t : Nat} (fl : Prop) (h : tf_WF σ nC nT) (h6 : 6 ≤ t) (ht : t < nT) (hfl : fl → σ 12 t = 0) : tf_val σ nT fl (σ 10 t) ∧ tf_val σ nT fl (σ 11 t) := by
  have hn := h.1.2.2.2.2.2
  obtain ⟨c, -, -, ar, ew⟩ := h.2.2.2.2.2.1 t h6 ht
  have w4 : ∀ x : Int32, (x = -1 ∨ ∃ a, 4 ≤ a ∧ a < t ∧ x = nI a) → tf_w4 (tf_wi σ x) := by
    intro x hx
    rcases hx with rfl | ⟨a, h4a, ha, rfl⟩
    · rw [tf_wi_n]; exact Or.inl rfl
    · rw [tf_wi_I _ (by omega)]; exact h.2.2.2.2.1 a (by omega)
  have o := fun q : fl => tf_or0 (w4 _ ar.args.1) (w4 _ ar.args.2) (ew.symm.trans (hfl q))
  refine ⟨ar.args.1.imp id (fun ⟨a, a1, a2, a3⟩ => ⟨a, a1, by omega, a3, fun q => ?_⟩), ar.args.2.imp id (fun ⟨a, a1, a2, a3⟩ => ⟨a, a1, by omega, a3, fun q => ?_⟩)⟩
  · have := (o q).1
    rw [a3, tf_wi_I _ (by omega)] at this; exact this
  · have := (o q).2
    rw [a3, tf_wi_I _ (by omega)] at this; exact this
set_option maxHeartbeats 1000000 in
theorem tf_seen_rec (fl : Prop) {x1 : Int32} {nC o : Nat} (ho : o < nC) : ∀ (c : Nat) (σx σm : tf_S) (nT t st n : Nat), tf_WF σx nC nT → tf_TM σx σm nC nT → 6 ≤ t → t < nT → σx 9 t = nI c → c < nC → tf_anc σx o n c → st + c ≤ 12 → (fl → σx 12 t = 0) →
    ∃ (r : Int32) (σx' σm' : tf_S) (nT' : Nat), (∃ k, k ≤ c + 1 ∧ ∀ m, fX4_seenAs_21 x1 (nI o) (m + k) σx (nI t) (nI st) = some (r, σx')) ∧ (∃ k, k ≤ c + 2 ∧ ∀ m, fX7_seenAs_18 x1 (nI o) (m + k) σm (nI t) = some (r, σm')) ∧ tf_WF σx' nC nT' ∧ tf_TM σx' σm' nC nT' ∧ nT ≤ nT' ∧ tf_Fx σx σx' nT ∧ tf_Fm σm σm' ∧ (r = -3 ∨ ∃ q, 6 ≤ q ∧ q < nT' ∧ r = nI q ∧ σx' 9 q = nI o ∧ (fl → σx' 12 q = 0)) := by
  intro c
  induction c using Nat.strongRecOn with
  | ind c IH =>
  intro σx σm nT t st n W T h6 ht e9 hc an hst hfl
  have hn := W.1.2.2.2.2.2
  have hnC := W.1.2.2.2.1
  have it : tf_inb (nI t) 80 = true := tf_ib (show t < 80 by omega) (by decide)
  have ct : (nI t).toNatClampNeg = t := nI_clamp (by omega)
  have np : ¬ nI t < 0 := nI_pos (by omega)
  obtain ⟨tm3, tm4, tm5, tm6⟩ := T.2.2.2 t ht
  by_cases eo : c = o
  · subst eo
    refine ⟨nI t, σx, σm, nT, ⟨1, by omega, fun m => ?_⟩, ⟨1, by omega, fun m => ?_⟩, W, T, Nat.le_refl _, tf_Fx.rf, tf_Fm.rf, Or.inr ⟨t, h6, ht, rfl, e9, hfl⟩⟩
    · rw [fX4_seenAs_21, if_pos it, ct, if_pos e9]
    · rw [fX7_seenAs_18, if_neg np, if_pos it, ct, if_pos (tm3.trans e9)]
  · have ne : ¬ nI c = nI o := fun e => eo ((nI_eq (by omega) (by omega)).mp e)
    obtain ⟨n', rfl, c0, p, c', u1, u2, u3, e8, e9p, an'⟩ : ∃ n', n = n' + 1 ∧ c ≠ 0 ∧ ∃ p c', p < 80 ∧ c' < c ∧ c < 12 ∧ σx 8 c = nI p ∧ σx 9 p = nI c' ∧ tf_anc σx o n' c' := by
      cases n with
      | zero => exact absurd an eo
      | succ n =>
        rcases an with an | ⟨a0, p, c', q⟩
        · exact absurd an eo
        · exact ⟨n, rfl, a0, p, c', q⟩
    obtain ⟨-, p2, c2, p6, pn, cc, g8, g9, gs⟩ := W.2.2.2.2.2.2.2.2 c (by omega) hc
    have ep : p = p2 := (nI_eq (by omega) (by omega)).mp (e8.symm.trans g8)
    subst ep
    obtain ⟨c3, hc3, e93, ar, -⟩ := W.2.2.2.2.2.1 t h6 ht
    have ec : c3 = c := (nI_eq (by omega) (by omega)).mp (e93.symm.trans e9)
    subst ec
    have cov := tf_cov ar (by omega) (W.2.2.2.2.1 p pn) gs
    obtain ⟨va, vb⟩ := tf_argv fl W h6 ht hfl
    obtain ⟨r, σ1, τ1, n1, f1, f2, W1, T1, l1, F1, G1, res⟩ := tf_put_sim fl W T pn va vb cov.1 cov.2
    have i12 : tf_inb (nI c3) 12 = true := tf_ib (by omega) (by decide)
    have cc3 : (nI c3).toNatClampNeg = c3 := nI_clamp (by omega)
    have sX : ∀ m, fX4_seenAs_21 x1 (nI o) (m + 1) σx (nI t) (nI st) = if r = -3 then some (-3, σ1) else fX4_seenAs_21 x1 (nI o) m σ1 r (nI (st + 1)) := by
      intro m
      rw [fX4_seenAs_21, if_pos it, ct, e9, if_neg ne, if_neg (show ¬ (12 : Int32) ≤ nI st from nI_ge (b := 12) (by omega) (by decide)), if_pos it, if_pos i12, if_pos it, if_pos it, cc3, e8, f1, tf_bse, tf_gle]
      by_cases c1 : r = -3
      · rw [if_pos c1, if_pos c1]
      · rw [if_neg c1, if_neg c1, tf_gle, nI_1]
    have sM : ∀ m, fX7_seenAs_18 x1 (nI o) (m + 1) σm (nI t) = fX7_seenAs_18 x1 (nI o) m τ1 r := by
      intro m
      rw [fX7_seenAs_18, if_neg np, if_pos it, ct, tm3, e9, if_neg ne, if_pos it, if_pos i12, if_pos it, if_pos it, cc3, (T.2.2.1 c3 (by omega)).2, e8, tm4, tm5, f2, tf_bse, tf_gle]
    rcases res with r3 | ⟨q, qn, qr, qc, q4, q6⟩
    · refine ⟨-3, σ1, τ1, n1, ⟨1, by omega, fun m => by rw [sX, if_pos r3]⟩, ⟨2, by omega, fun m => ?_⟩, W1, T1, l1, F1, G1, Or.inl rfl⟩
      rw [show m + 2 = m + 1 + 1 by omega, sM, r3, fX7_seenAs_18, if_pos (by decide)]
    · have hn1 := W1.1.2.2.2.2.2
      have r3 : ¬ r = -3 := fun e => by
        rw [qr] at e
        have hz := nI_pos' (n := q) (by omega)
        rw [e] at hz
        exact absurd hz (by decide)
      obtain ⟨q61, q62⟩ := q6 p6
      rw [e9p] at q62
      obtain ⟨r2, σ2, τ2, n2, ⟨k, hk, g1⟩, ⟨k2, hk2, g2⟩, W2, T2, l2, F2, G2, res2⟩ := IH c' u2 σ1 τ1 n1 q (st + 1) n' W1 T1 q61 qn q62 (by omega) (tf_anc_cg W F1 n' c' (by omega) an') (by omega) qc
      refine ⟨r2, σ2, τ2, n2, ⟨k + 1, by omega, fun m => ?_⟩, ⟨k2 + 1, by omega, fun m => ?_⟩, W2, T2, by omega, F1.tr F2 l1, G1.tr G2, res2⟩
      · rw [show m + (k + 1) = m + k + 1 by omega, sX, if_neg r3, qr]; exact g1 m
      · rw [show m + (k2 + 1) = m + k2 + 1 by omega, sM, qr]; exact g2 m
/-- SEEN AS, on both sides -/
theorem tf_seen_sim (fl : Prop) {σx σm : tf_S} {nC nT t o : Nat} (W : tf_WF σx nC nT) (T : tf_TM σx σm nC nT) (h6 : 6 ≤ t) (ht : t < nT) (ho : o < nC) (hfl : fl → σx 12 t = 0) :
    ∃ (r : Int32) (σx' σm' : tf_S) (nT' : Nat), fX4_seenAs σx (nI t) (nI o) = some (r, σx') ∧ fX7_seenAs σm (nI t) (nI o) = some (r, σm') ∧ tf_WF σx' nC nT' ∧ tf_TM σx' σm' nC nT' ∧ nT ≤ nT' ∧ tf_Fx σx σx' nT ∧ tf_Fm σm σm' ∧ (r = -3 ∨ (r = -1 ∧ o ≠ 0) ∨ ∃ q, 6 ≤ q ∧ q < nT' ∧ r = nI q ∧ σx' 9 q = nI o ∧ (fl → σx' 12 q = 0)) := by
  have hn := W.1.2.2.2.2.2
  have hnC := W.1.2.2.2.1
  obtain ⟨c, hc, e9, -, -⟩ := W.2.2.2.2.2.1 t h6 ht
  obtain ⟨r0, r01, ra, rz, fx, fm⟩ := tf_from_sim W T ho hc
  have it : tf_inb (nI t) 80 = true := tf_ib (show t < 80 by omega) (by decide)
  have ct : (nI t).toNatClampNeg = t := nI_clamp (by omega)
  rcases r01 with e0 | e1
  · refine ⟨-1, σx, σm, nT, ?_, ?_, W, T, Nat.le_refl _, tf_Fx.rf, tf_Fm.rf, Or.inr (Or.inl ⟨rfl, fun q => by have := rz q; rw [e0] at this; exact absurd this (by decide)⟩)⟩
    · unfold fX4_seenAs
      rw [if_pos it, ct, e9, fx, tf_bse, if_pos e0]
    · unfold fX7_seenAs
      rw [if_pos it, ct, (T.2.2.2 t ht).1, e9, fm, tf_bse, if_pos e0]
  · have n0 : ¬ r0 = 0 := by rw [e1]; decide
    obtain ⟨r, σ1, τ1, n1, ⟨k, hk, g1⟩, ⟨k2, hk2, g2⟩, W1, T1, l1, F1, G1, res⟩ := tf_seen_rec fl (x1 := nI t) ho c σx σm nT t 0 c W T h6 ht e9 hc (ra e1) (by omega) hfl
    refine ⟨r, σ1, τ1, n1, ?_, ?_, W1, T1, l1, F1, G1, res.imp id Or.inr⟩
    · unfold fX4_seenAs
      rw [if_pos it, ct, e9, fx, tf_bse, if_neg n0, show (100000 : Nat) = (100000 - k) + k by omega]
      exact g1 _
    · unfold fX7_seenAs
      rw [if_pos it, ct, (T.2.2.2 t ht).1, e9, fm, tf_bse, if_neg n0, show (100000 : Nat) = (100000 - k2) + k2 by omega]
      exact g2 _
