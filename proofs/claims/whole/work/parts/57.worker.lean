/-! pure part 18: the worker's own methods, both sides -/
def tf_WO (σx σm : tf_S) (nC nT : Nat) (r : Int32) (σx' σm' : tf_S) : Prop := ∃ nT', tf_WF σx' nC nT' ∧ tf_TM σx' σm' nC nT' ∧ nT ≤ nT' ∧ tf_Hx σx σx' nT ∧ tf_Gm σm σm' ∧ σx' 5 5 = σx 5 5 ∧
  ((r = -1 ∧ σx' 5 4 = σm' 0 20) ∨ (∃ q, q < nT' ∧ r = nI q ∧ σx' 12 q = 0 ∧ σx' 5 4 = σx 5 4))
def tf_MV (σx σm : tf_S) (nC nT k : Nat) : Prop := ∃ c t, σx 15 k = nI c ∧ σm 9 k = nI c ∧ c < nC ∧ σx 16 k = nI t ∧ σm 10 k = nI t ∧ t < nT ∧ σx 12 t >>> (σx 7 c &&& 31) = 0
def tf_FV (σx σm : tf_S) (nT f : Nat) : Prop := ∃ w t, σx 17 f = nI w ∧ σm 11 f = nI w ∧ w < nT ∧ σx 19 f = nI t ∧ σm 13 f = nI t ∧ t < nT ∧ ((σx 18 f = -1 ∧ σm 12 f = -1) ∨ ∃ u, σx 18 f = nI u ∧ σm 12 f = nI u ∧ u < nT) ∧ ∀ i, i < 2 → σm 14 (2 * f + i) = σx 20 (2 * f + i) ∧ tf_pb σx nT (σx 20 (2 * f + i))
theorem tf_Hx.k {σ σ' : tf_S} {nT : Nat} (h : tf_Hx σ σ' nT) {c : Nat} (hc : (c = 0 ∨ c = 2 ∨ c = 3 ∨ c = 4 ∨ c = 7 ∨ c = 8) ∨ (14 < c ∧ c < 31)) : σ' c = σ c :=
  h.1 c (by omega) (by omega) (by omega) (by omega) (by omega) (by omega) (by omega) (by omega) (by omega) (by omega) (by omega) (by omega) (by omega)
theorem tf_Gm.k {σ σ' : tf_S} (h : tf_Gm σ σ') {c : Nat} (hc : c = 1 ∨ c = 2 ∨ (8 < c ∧ c < 15) ∨ 17 < c) : σ' c = σ c :=
  h.1 c (by omega) (by omega) (by omega) (by omega) (by omega) (by omega) (by omega) (by omega) (by omega) (by omega)
theorem tf_MV.up {a b a' b' : tf_S} {nC n m k : Nat} (h : tf_MV a b nC n k) (H : tf_Hx a a' n) (G : tf_Gm b b') (l : n ≤ m) : tf_MV a' b' nC m k := by
  obtain ⟨c, t, q1, q2, q3, q4, q5, q6, q7⟩ := h
  refine ⟨c, t, ?_, ?_, q3, ?_, ?_, by omega, ?_⟩
  · rw [H.k (by omega)]; exact q1
  · rw [G.k (by omega)]; exact q2
  · rw [H.k (by omega)]; exact q4
  · rw [G.k (by omega)]; exact q5
  · rw [(H.2.2 t q6).2.2.2, H.k (c := 7) (by omega)]; exact q7
theorem tf_FV.up {a b a' b' : tf_S} {n m k : Nat} (h : tf_FV a b n k) (H : tf_Hx a a' n) (G : tf_Gm b b') (l : n ≤ m) : tf_FV a' b' m k := by
  obtain ⟨w, t, q1, q2, q3, q4, q5, q6, q7, q8⟩ := h
  refine ⟨w, t, ?_, ?_, by omega, ?_, ?_, by omega, ?_, fun i hi => ⟨?_, ?_⟩⟩
  · rw [H.k (by omega)]; exact q1
  · rw [G.k (by omega)]; exact q2
  · rw [H.k (by omega)]; exact q4
  · rw [G.k (by omega)]; exact q5
  · rw [H.k (by omega), G.k (by omega)]
    exact q7.imp id (fun ⟨u, u1, u2, u3⟩ => ⟨u, u1, u2, by omega⟩)
  · rw [H.k (by omega), G.k (by omega)]; exact (q8 i hi).1
  · rw [H.k (c := 20) (by omega)]; exact (q8 i hi).2.up (fun u hu => (H.2.2 u hu).2.2.2) l
theorem none_eq (σ : tf_S) (x : Int32) : fX5_none σ x = some (-1, tf_wr σ 5 4 x) := by unfold fX5_none; rw [tf_gle]
theorem orFault_n (σ : tf_S) {x y : Int32} (h : x < 0) : fX5_orFault σ x y = some (-1, tf_wr σ 5 4 (if x = -3 then 8 else y)) := by
  unfold fX5_orFault
  rw [if_pos h, none_eq, none_eq, tf_bse, tf_bse]
  by_cases e : x = -3
  · rw [if_pos e, if_pos e]
  · rw [if_neg e, if_neg e]
theorem orFault_p (σ : tf_S) {q : Nat} {y : Int32} (h : q < 2 ^ 31) : fX5_orFault σ (nI q) y = some (nI q, σ) := by
  unfold fX5_orFault; rw [if_neg (nI_pos h)]
theorem tf_WO.no {σx σm s m : tf_S} {nC n n1 : Nat} {x : Int32} (W : tf_WF s nC n1) (T : tf_TM s m nC n1) (l : n ≤ n1) (H : tf_Hx σx s n) (G : tf_Gm σm m) (e : s 5 5 = σx 5 5) : tf_WO σx σm nC n (-1) (tf_wr s 5 4 x) (tf_wr m 0 20 x) :=
  ⟨n1, tf_WFw (Or.inl rfl) W, tf_wr20 (tf_TMw (Or.inl rfl) T), l, H.tr (tf_Hw (nT := n1) (Or.inl rfl)) l, G.tr (tf_wr20G _ _), by rw [tf_wr_s, pk_un (by decide)]; exact e, Or.inl ⟨rfl, by rw [tf_wr_s, pk_us, tf_wr_s, pk_us]⟩⟩
theorem tf_WO.yes {σx σm s m : tf_S} {nC n n1 q : Nat} {x : Int32} (W : tf_WF s nC n1) (T : tf_TM s m nC n1) (l : n ≤ n1) (H : tf_Hx σx s n) (G : tf_Gm σm m) (e : s 5 = σx 5) (hq : q < n1) (hc : s 12 q = 0) : tf_WO σx σm nC n (nI q) s (tf_wr m 0 20 x) :=
  ⟨n1, W, tf_wr20 T, l, H, G.tr (tf_wr20G _ _), by rw [e], Or.inr ⟨q, hq, rfl, hc, by rw [e]⟩⟩
theorem tf_Fx.c5 {σ σ' : tf_S} {nT : Nat} (h : tf_Fx σ σ' nT) : σ' 5 = σ 5 := h.1 5 (by decide) (by decide) (by decide) (by decide) (by decide) (by decide) (by decide)
set_option maxHeartbeats 1000000 in
/-- MEMBER OF, on both sides -/
theorem tf_memberOf_sim {σx σm : tf_S} {nC nT a k : Nat} (W : tf_WF σx nC nT) (T : tf_TM σx σm nC nT) (ha : a < nT) (ca : σx 12 a = 0) (hk : k < 24) (V : tf_MV σx σm nC nT k) :
    ∃ r σx' σm', fX5_memberOf σx (nI a) (nI k) = some (r, σx') ∧ fX7_memberOf σm (nI k) (nI a) = some (r, σm') ∧ tf_WO σx σm nC nT r σx' σm' ∧ (r = -1 ∨ 6 ≤ a) ∧ (r ≠ -1 → σx' 5 = σx 5) := by
  obtain ⟨c, t, ec, mc, hc, et, mt, ht, hb⟩ := V
  have hn := W.1.2.2.2.2.2
  have jk : tf_inb (nI k) 24 = true := tf_ib hk (by decide)
  have ck : (nI k).toNatClampNeg = k := nI_clamp (by omega)
  unfold fX5_memberOf fX7_memberOf
  rw [primX_eq _ (show a < 2 ^ 31 by omega), primM_eq _ (show a < 2 ^ 31 by omega), tf_bse, tf_bse]
  by_cases a4 : a < 4
  · simp only [a4, if_true]
    rw [if_neg (show ¬ (1 : Int32) = 0 by decide), if_neg (show ¬ (1 : Int32) = 0 by decide), none_eq, tf_bse]
    unfold fX7_memberOf_22
    rw [if_neg (show ¬ (0 : Int32) ≤ -1 by decide), if_neg (show ¬ (-1 : Int32) = -3 by decide), tf_gle]
    exact ⟨-1, _, _, rfl, rfl, tf_WO.no W T (Nat.le_refl _) tf_Hx.rf tf_Gm.rf rfl, Or.inl rfl, fun q => absurd rfl q⟩
  · simp only [a4, if_false, if_true]
    have a6 : 6 ≤ a := (tf_closed W ca).resolve_left a4
    obtain ⟨r, sx, sm, n1, sx0, sm0, W1, T1, l1, F1, G1, rv⟩ := tf_seen_sim True W T a6 ha hc (fun _ => ca)
    have hn1 := W1.1.2.2.2.2.2
    rw [if_pos jk, if_pos jk, ck, ec, mc, sx0, sm0, tf_bse, tf_bse]
    dsimp only
    rcases rv with rfl | ⟨rfl, -⟩ | ⟨q, q6, hq, rfl, q9, qc⟩
    · rw [orFault_n _ (by decide), tf_bse, tf_gle]
      dsimp only
      unfold fX7_memberOf_22
      rw [if_pos rfl, if_pos rfl, if_neg (show ¬ (0 : Int32) ≤ -3 by decide), if_pos rfl, tf_gle]
      exact ⟨-1, _, _, rfl, rfl, tf_WO.no W1 T1 l1 F1.H G1.G (by rw [F1.c5]), Or.inl rfl, fun q => absurd rfl q⟩
    · rw [orFault_n _ (by decide), tf_bse, tf_gle]
      dsimp only
      unfold fX7_memberOf_22
      rw [if_pos rfl, if_neg (show ¬ (-1 : Int32) = -3 by decide), if_neg (show ¬ (0 : Int32) ≤ -1 by decide), if_neg (show ¬ (-1 : Int32) = -3 by decide), tf_gle]
      exact ⟨-1, _, _, rfl, rfl, tf_WO.no W1 T1 l1 F1.H G1.G (by rw [F1.c5]), Or.inl rfl, fun q => absurd rfl q⟩
    · have jq : tf_inb (nI q) 80 = true := tf_ib (show q < 80 by omega) (by decide)
      have cq : (nI q).toNatClampNeg = q := nI_clamp (by omega)
      have s16 : sx 16 k = nI t := by rw [F1.H.k (by omega)]; exact et
      have m10 : sm 10 k = nI t := by rw [G1.G.k (by omega)]; exact mt
      obtain ⟨o, oh, o9, oar, -⟩ := W1.2.2.2.2.2.1 q q6 hq
      have oc : o = c := (nI_eq (by have := W1.1.2.2.2.1; omega) (by have := W1.1.2.2.2.1; omega)).mp (o9.symm.trans q9)
      rw [oc] at oar
      have cov := tf_cov (w := sx 12 t) oar (by omega) (W1.2.2.2.2.1 t (by omega)) (by rw [(F1.2.2 t ht).2.2.2, F1.H.k (c := 7) (by omega)]; exact hb)
      obtain ⟨v1, v2⟩ := tf_argv True W1 q6 hq qc
      obtain ⟨p, sx', sm', n2, px, pm, W2, T2, l2, F2, G2, pv⟩ := tf_put_sim (t := t) True W1 T1 (by omega) v1 v2 cov.1 cov.2
      have h2 := W2.1.2.2.2.2.2
      obtain ⟨-, t4, t5, -⟩ := T1.2.2.2 q hq
      rw [orFault_p _ (show q < 2 ^ 31 by omega), tf_bse, tf_gle]
      dsimp only
      unfold fX7_memberOf_22
      rw [if_neg (tf_m1ne q (by omega)), if_pos jk, tf_gle, if_pos jq, if_pos jq, if_pos (nI_pos' (show q < 2 ^ 31 by omega)), if_pos jk, if_pos jq, if_pos jq, ck, s16, m10, cq, t4, t5, px, pm, tf_bse, tf_bse, orRoom_eq, tf_bse]
      dsimp only
      have e5 : sx' 5 = σx 5 := F2.c5.trans F1.c5
      rcases pv with rfl | ⟨u, hu, rfl, uc, -, -⟩
      · rw [orFault_n _ (by decide), tf_bse, if_pos rfl, if_pos rfl, if_pos rfl]
        exact ⟨-1, _, _, rfl, rfl, tf_WO.no W2 T2 (by omega) (F1.H.tr F2.H l1) (G1.G.tr G2.G) (by rw [e5]), Or.inl rfl, fun q => absurd rfl q⟩
      · rw [orFault_p _ (show u < 2 ^ 31 by omega), tf_bse, if_neg (tf_n3 (show u < 2 ^ 31 by omega)), if_neg (tf_n3 (show u < 2 ^ 31 by omega))]
        exact ⟨nI u, _, _, rfl, rfl, tf_WO.yes W2 T2 (by omega) (F1.H.tr F2.H l1) (G1.G.tr G2.G) e5 hu (uc trivial), Or.inr a6, fun _ => e5⟩
/-- the union's common type -/
theorem tf_union_sim {σx σm : tf_S} {nC nT a b : Nat} (W : tf_WF σx nC nT) (T : tf_TM σx σm nC nT) (ha : a < nT) (hb : b < nT) (ca : σx 12 a = 0) (cb : σx 12 b = 0) :
    ∃ r σx' σm', ((fX4_commonOf σx (nI a) (nI b)).bind fun u35 => (fX5_orFault u35.2 u35.1 (6 : Int32)).bind fun u37 => some (u37.1, u37.2)) = some (r, σx') ∧ ((fX7_commonOf σm (nI a) (nI b)).bind fun u36 =>
      tf_gl (u36.1) fun v38 => if v38 = (-3 : Int32) then (tf_gl (tf_wr u36.2 0 20 (8 : Int32)) fun s42 => if 0 ≤ v38 then (some (v38, s42)) else (some ((-1 : Int32), s42))) else (tf_gl (tf_wr u36.2 0 20 (6 : Int32)) fun s40 => if 0 ≤ v38 then (some (v38, s40)) else (some ((-1 : Int32), s40)))) = some (r, σm') ∧ tf_WO σx σm nC nT r σx' σm' := by
  obtain ⟨r, sx, sm, n1, ex, em, W1, T1, l1, F1, G1, rv⟩ := tf_common_sim W T ha hb ca cb
  have hn1 := W1.1.2.2.2.2.2
  rw [ex, em, tf_bse, tf_bse]
  dsimp only
  rw [tf_gle, tf_gle, tf_gle]
  rcases rv with rfl | rfl | ⟨q, hq, rfl, qc⟩
  · rw [orFault_n _ (by decide), tf_bse, if_pos rfl, if_pos rfl, if_neg (show ¬ (0 : Int32) ≤ -3 by decide)]
    exact ⟨-1, _, _, rfl, rfl, tf_WO.no W1 T1 l1 F1.H G1.G (by rw [F1.c5])⟩
  · rw [orFault_n _ (by decide), tf_bse, if_neg (show ¬ (-1 : Int32) = -3 by decide), if_neg (show ¬ (-1 : Int32) = -3 by decide), if_neg (show ¬ (0 : Int32) ≤ -1 by decide)]
    exact ⟨-1, _, _, rfl, rfl, tf_WO.no W1 T1 l1 F1.H G1.G (by rw [F1.c5])⟩
  · rw [orFault_p _ (show q < 2 ^ 31 by omega), tf_bse, if_neg (tf_n3 (show q < 2 ^ 31 by omega)), if_pos (nI_pos' (show q < 2 ^ 31 by omega))]
    exact ⟨nI q, _, _, rfl, rfl, tf_WO.yes W1 T1 l1 F1.H G1.G F1.c5 hq qc⟩
