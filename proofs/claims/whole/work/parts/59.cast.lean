/-! pure part 20: casts -/
def tf_Km (σ σ' : tf_S) (k : Nat) : Prop := (∀ c, c ≠ 0 → c ≠ 3 → c ≠ 4 → c ≠ 5 → c ≠ 6 → c ≠ 7 → c ≠ 8 → c ≠ 15 → c ≠ 16 → c ≠ 17 → c ≠ 26 → σ' c = σ c) ∧ (∀ j, j ≠ 3 → j ≠ 10 → j ≠ 20 → j ≠ 23 → σ' 0 j = σ 0 j) ∧ ∀ j, j ≠ k → σ' 26 j = σ 26 j
theorem tf_Gm.K {σ σ' : tf_S} {k : Nat} (h : tf_Gm σ σ') : tf_Km σ σ' k := ⟨fun c q1 q2 q3 q4 q5 q6 q7 q8 q9 qa _ => h.1 c q1 q2 q3 q4 q5 q6 q7 q8 q9 qa, h.2, fun j _ => by rw [h.k (c := 26) (by omega)]⟩
theorem tf_Km.tr {a b c : tf_S} {k : Nat} (h1 : tf_Km a b k) (h2 : tf_Km b c k) : tf_Km a c k :=
  ⟨fun d q1 q2 q3 q4 q5 q6 q7 q8 q9 qa qb => (h2.1 d q1 q2 q3 q4 q5 q6 q7 q8 q9 qa qb).trans (h1.1 d q1 q2 q3 q4 q5 q6 q7 q8 q9 qa qb), fun j q1 q2 q3 q4 => (h2.2.1 j q1 q2 q3 q4).trans (h1.2.1 j q1 q2 q3 q4), fun j q => (h2.2.2 j q).trans (h1.2.2 j q)⟩
theorem tf_Km.w (σ : tf_S) (k : Nat) (x : Int32) : tf_Km σ (tf_wr σ 26 k x) k := ⟨fun d _ _ _ _ _ _ _ _ _ _ qb => tf_wr_o _ _ _ qb, fun j _ _ _ _ => by rw [tf_wr_o _ _ _ (by decide)], fun j q => by rw [tf_wr_s, pk_un q]⟩
theorem tf_Km.k {σ σ' : tf_S} {o : Nat} (h : tf_Km σ σ' o) {c : Nat} (hc : c = 1 ∨ c = 2 ∨ (8 < c ∧ c < 15) ∨ (17 < c ∧ c < 26) ∨ 26 < c) : σ' c = σ c :=
  h.1 c (by omega) (by omega) (by omega) (by omega) (by omega) (by omega) (by omega) (by omega) (by omega) (by omega) (by omega)
theorem tf_TMm {σ τ : tf_S} {nC nT c i : Nat} {x : Int32} (hc : 6 < c) (T : tf_TM σ τ nC nT) : tf_TM σ (tf_wr τ c i x) nC nT := by
  obtain ⟨m1, m2, m3, m4⟩ := T
  refine ⟨?_, ?_, fun k hk => ?_, fun k hk => ?_⟩
  · rw [tf_wr_o _ _ _ (by omega)]; exact m1
  · rw [tf_wr_o _ _ _ (by omega)]; exact m2
  · rw [tf_wr_o _ _ _ (show 1 ≠ c by omega), tf_wr_o _ _ _ (show 2 ≠ c by omega)]; exact m3 k hk
  · rw [tf_wr_o _ _ _ (show 3 ≠ c by omega), tf_wr_o _ _ _ (show 4 ≠ c by omega), tf_wr_o _ _ _ (show 5 ≠ c by omega), tf_wr_o _ _ _ (show 6 ≠ c by omega)]; exact m4 k hk
theorem isNumber_eq (σ : tf_S) {a : Nat} (h : a < 2 ^ 31) : fX5_isNumber σ (nI a) = some (if 1 ≤ a ∧ a < 4 then 1 else 0, σ) := by
  unfold fX5_isNumber
  rw [primX_eq _ h, tf_bse]
  by_cases a4 : a < 4
  · simp only [a4, if_true, and_true]
    rw [if_neg (show ¬ (1 : Int32) = 0 by decide)]
    by_cases a0 : a = 0
    · subst a0; rfl
    · rw [if_neg (nI_ne0 (by omega) h), if_pos (by omega)]
  · simp only [a4, if_false, and_false, if_true]
theorem isIn13 (σ : tf_S) {a : Nat} (h : a < 2 ^ 31) : fX7_isIn σ (nI a) 1 3 = some (if 1 ≤ a ∧ a < 4 then 1 else 0, σ) := by
  unfold fX7_isIn
  by_cases a0 : a = 0
  · subst a0; rfl
  · rw [if_neg (show ¬ nI a < (1 : Int32) from nI_nlt (b := 1) (by omega) h)]
    by_cases a4 : a < 4
    · rw [if_neg (show ¬ (3 : Int32) < nI a from nI_nlt (a := 3) (by omega) (by decide)), if_pos (by omega)]
    · rw [if_pos (show (3 : Int32) < nI a from nI_lt (a := 3) (by omega) h), if_neg (by omega)]
def tf_CO (σx σm : tf_S) (nC nT k : Nat) (r : Int32) (σx' σm' : tf_S) : Prop := ∃ nT', tf_WF σx' nC nT' ∧ tf_TM σx' σm' nC nT' ∧ nT ≤ nT' ∧ tf_Hx σx σx' nT ∧ tf_Km σm σm' k ∧ σx' 5 5 = σm' 26 k ∧ (σx' 5 5 = 0 ∨ σx' 5 5 = 1) ∧
  ((r = -1 ∧ σx' 5 4 = σm' 0 20) ∨ (∃ q, q < nT' ∧ r = nI q ∧ σx' 12 q = 0 ∧ σx' 5 4 = σx 5 4))
theorem tf_CO.no {σx σm s m : tf_S} {nC n n1 k : Nat} {x : Int32} (W : tf_WF s nC n1) (T : tf_TM s m nC n1) (l : n ≤ n1) (H : tf_Hx σx s n) (G : tf_Km σm m k) (e : s 5 5 = m 26 k) (e' : s 5 5 = 0 ∨ s 5 5 = 1) : tf_CO σx σm nC n k (-1) (tf_wr s 5 4 x) (tf_wr m 0 20 x) :=
  ⟨n1, tf_WFw (Or.inl rfl) W, tf_wr20 (tf_TMw (Or.inl rfl) T), l, H.tr (tf_Hw (nT := n1) (Or.inl rfl)) l, G.tr (tf_wr20G _ _).K, by rw [tf_wr_s, pk_un (by decide), tf_wr_o _ _ _ (by decide)]; exact e, by rw [tf_wr_s, pk_un (by decide)]; exact e', Or.inl ⟨rfl, by rw [tf_wr_s, pk_us, tf_wr_s, pk_us]⟩⟩
set_option maxHeartbeats 1000000 in
theorem tf_cast_sim {σx σm : tf_S} {nC nT a u k : Nat} (W : tf_WF σx nC nT) (T : tf_TM σx σm nC nT) (ha : a < nT) (hu : u < nT) (ca : σx 12 a = 0) (cu : σx 12 u = 0) (hk : k < 24) (m21 : σm 21 k = nI u) (e5 : σx 5 5 = 0) (m26 : σm 26 k = 0) :
    ∃ r σx' σm', fX5_castTo σx (nI a) (nI u) = some (r, σx') ∧ fX7_castOf σm (nI k) (nI a) = some (r, σm') ∧ tf_CO σx σm nC nT k r σx' σm' := by
  have hn := W.1.2.2.2.2.2
  have jk : tf_inb (nI k) 24 = true := tf_ib hk (by decide)
  have ck : (nI k).toNatClampNeg = k := nI_clamp (by omega)
  unfold fX5_castTo fX7_castOf
  rw [if_pos jk, tf_gle, ck, m21]
  obtain ⟨g, s, t, n, gx, gm, W1, T1, l1, F1, G1, gv⟩ := tf_goes_sim W T ha hu ca cu
  rw [gx, gm, tf_bse, tf_bse]
  dsimp only
  rw [tf_gle, tf_gle]
  have s55 : s 5 5 = 0 := by rw [F1.c5]; exact e5
  have t26 : t 26 k = 0 := by rw [G1.G.k (c := 26) (by omega)]; exact m26
  rcases gv with rfl | rfl | rfl
  · rw [if_neg (show ¬ (-3 : Int32) = 0 by decide), if_neg (show ¬ (-3 : Int32) = 0 by decide)]
    unfold fX5_castTo_52 fX7_castOf_76
    rw [if_pos rfl, if_neg (show ¬ (-3 : Int32) = 1 by decide), if_pos rfl, none_eq, tf_bse, tf_gle]
    exact ⟨-1, _, _, rfl, rfl, tf_CO.no W1 T1 l1 F1.H G1.G.K (by rw [s55, t26]) (Or.inl s55)⟩
  · rw [if_pos rfl, if_pos rfl]
    obtain ⟨h, s2, t2, n2, hx, hm, W2, T2, l2, F2, G2, hv⟩ := tf_goes_sim (a := u) (b := a) W1 T1 (by omega) (by omega) (by rw [(F1.2.2 u hu).2.2.2]; exact cu) (by rw [(F1.2.2 a ha).2.2.2]; exact ca)
    rw [hx, hm, tf_bse, tf_bse]
    dsimp only
    rw [tf_gle h, tf_gle h]
    have H2 := F1.H.tr F2.H l1
    have G2' := (G1.G.tr G2.G).K (k := k)
    have u54 : ∀ x, tf_wr s2 5 5 x 5 4 = σx 5 4 := fun x => by rw [tf_wr_s, pk_un (by decide), F2.c5, F1.c5]
    have u55 : ∀ x, tf_wr s2 5 5 x 5 5 = x := fun x => by rw [tf_wr_s, pk_us]
    have v26 : ∀ x, tf_wr t2 26 k x 26 k = x := fun x => by rw [tf_wr_s, pk_us]
    have Wx : ∀ x, tf_WF (tf_wr s2 5 5 x) nC n2 := fun x => tf_WFw (Or.inl rfl) W2
    have Tx : ∀ x y, tf_TM (tf_wr s2 5 5 x) (tf_wr t2 26 k y) nC n2 := fun x y => tf_TMm (by decide) (tf_TMw (Or.inl rfl) T2)
    have Hx : ∀ x, tf_Hx σx (tf_wr s2 5 5 x) nT := fun x => H2.tr (tf_Hw (nT := n2) (Or.inl rfl)) (by omega)
    have Kx : ∀ x, tf_Km σm (tf_wr t2 26 k x) k := fun x => G2'.tr (tf_Km.w _ _ _)
    have uc : ∀ x, tf_wr s2 5 5 x 12 u = 0 := fun x => by rw [tf_wr_o _ _ _ (by decide), (H2.2.2 u hu).2.2.2]; exact cu
    rcases hv with rfl | rfl | rfl
    · -- no room
      have np : ¬ ((1 ≤ a ∧ a < 4) ∧ (1 ≤ u ∧ u < 4)) := fun q => by
        rw [goesM_prim (show u < 2 ^ 31 by omega) (show a < 4 by omega)] at hm
        have := congrArg Prod.fst (Option.some.inj hm)
        dsimp only at this
        by_cases c1 : nI u = nI a
        · rw [if_pos c1] at this; exact absurd this (by decide)
        · rw [if_neg c1] at this
          by_cases c2 : nI u = 1 ∧ (nI a = 2 ∨ nI a = 3)
          · rw [if_pos c2] at this; exact absurd this (by decide)
          · rw [if_neg c2] at this; exact absurd this (by decide)
      have X : ((fX5_isNumber s2 (nI a)).bind fun u17 => if u17.1 = 0 then (tf_gl (tf_wr u17.2 5 5 (0 : Int32)) fun s20 => fX5_castTo_52 (nI a) (nI u) s20 (-3)) else ((fX5_isNumber u17.2 (nI u)).bind fun u21 => if u21.1 = 0 then (tf_gl (tf_wr u21.2 5 5 (0 : Int32)) fun s24 => fX5_castTo_52 (nI a) (nI u) s24 (-3)) else (tf_gl (tf_wr u21.2 5 5 (1 : Int32)) fun s25 => fX5_castTo_52 (nI a) (nI u) s25 (-3)))) = fX5_castTo_52 (nI a) (nI u) (tf_wr s2 5 5 0) (-3) := by
        rw [isNumber_eq _ (show a < 2 ^ 31 by omega), tf_bse]
        by_cases qa : 1 ≤ a ∧ a < 4
        · have qu : ¬ (1 ≤ u ∧ u < 4) := fun q => np ⟨qa, q⟩
          simp only [qa, and_self, if_true]
          rw [if_neg (show ¬ (1 : Int32) = 0 by decide), isNumber_eq _ (show u < 2 ^ 31 by omega), tf_bse]
          simp only [qu, if_false, if_true, tf_gle]
        · simp only [qa, if_false, if_true, tf_gle]
      rw [if_neg (show ¬ (-3 : Int32) = 1 by decide), X]
      rw [if_neg (show ¬ (-3 : Int32) = 0 by decide), if_neg (show ¬ (-3 : Int32) = 1 by decide), if_pos jk, tf_gle]
      unfold fX5_castTo_52 fX7_castOf_76
      rw [if_pos rfl, if_neg (show ¬ (-3 : Int32) = 1 by decide), if_pos rfl, none_eq, tf_bse, tf_gle]
      exact ⟨-1, _, _, rfl, rfl, tf_CO.no (Wx 0) (Tx 0 0) (by omega) (Hx 0) (Kx 0) (by rw [u55, v26]) (Or.inl (u55 0))⟩
    · -- neither goes for the other
      by_cases q : (1 ≤ a ∧ a < 4) ∧ (1 ≤ u ∧ u < 4)
      · have qa := q.1
        have qu := q.2
        rw [if_neg (show ¬ (0 : Int32) = 1 by decide), isNumber_eq _ (show a < 2 ^ 31 by omega), tf_bse]
        rw [if_pos (show (0 : Int32) = 0 from rfl), isIn13 _ (show a < 2 ^ 31 by omega), tf_bse]
        simp only [qa, and_self, if_true]
        rw [if_neg (show ¬ (1 : Int32) = 0 by decide), if_neg (show ¬ (1 : Int32) = 0 by decide), isNumber_eq _ (show u < 2 ^ 31 by omega), tf_bse, isIn13 _ (show u < 2 ^ 31 by omega), tf_bse]
        simp only [qu, and_self, if_true]
        rw [if_neg (show ¬ (1 : Int32) = 0 by decide), if_neg (show ¬ (1 : Int32) = 0 by decide), if_pos jk, tf_gle, tf_gle]
        unfold fX5_castTo_52 fX7_castOf_76
        rw [if_neg (show ¬ (0 : Int32) = -3 by decide), if_neg (show ¬ (0 : Int32) = 1 by decide), if_neg (show ¬ tf_wr s2 5 5 1 5 5 = 0 by rw [u55]; decide), if_pos rfl]
        exact ⟨nI u, _, _, rfl, rfl, n2, Wx 1, Tx 1 1, by omega, Hx 1, Kx 1, by rw [u55, v26], Or.inr (u55 1), Or.inr ⟨u, by omega, rfl, uc 1, u54 1⟩⟩
      · have X : ((fX5_isNumber s2 (nI a)).bind fun u17 => if u17.1 = 0 then (tf_gl (tf_wr u17.2 5 5 (0 : Int32)) fun s20 => fX5_castTo_52 (nI a) (nI u) s20 0) else ((fX5_isNumber u17.2 (nI u)).bind fun u21 => if u21.1 = 0 then (tf_gl (tf_wr u21.2 5 5 (0 : Int32)) fun s24 => fX5_castTo_52 (nI a) (nI u) s24 0) else (tf_gl (tf_wr u21.2 5 5 (1 : Int32)) fun s25 => fX5_castTo_52 (nI a) (nI u) s25 0))) = fX5_castTo_52 (nI a) (nI u) (tf_wr s2 5 5 0) 0 := by
          rw [isNumber_eq _ (show a < 2 ^ 31 by omega), tf_bse]
          by_cases qa : 1 ≤ a ∧ a < 4
          · have qu : ¬ (1 ≤ u ∧ u < 4) := fun r => q ⟨qa, r⟩
            simp only [qa, and_self, if_true]
            rw [if_neg (show ¬ (1 : Int32) = 0 by decide), isNumber_eq _ (show u < 2 ^ 31 by omega), tf_bse]
            simp only [qu, if_false, if_true, tf_gle]
          · simp only [qa, if_false, if_true, tf_gle]
        rw [if_neg (show ¬ (0 : Int32) = 1 by decide), X, if_pos (show (0 : Int32) = 0 from rfl)]
        have M : ((fX7_isIn t2 (nI a) (1 : Int32) (3 : Int32)).bind fun u20 => if u20.1 = 0 then (tf_gl (tf_wr u20.2 26 k (0 : Int32)) fun s25 => fX7_castOf_76 (nI k) (nI a) s25 (nI u) 0) else ((fX7_isIn u20.2 (nI u) (1 : Int32) (3 : Int32)).bind fun u28 => if u28.1 = 0 then (tf_gl (tf_wr u28.2 26 k (0 : Int32)) fun s33 => fX7_castOf_76 (nI k) (nI a) s33 (nI u) 0) else (tf_gl (tf_wr u28.2 26 k (1 : Int32)) fun s40 => fX7_castOf_76 (nI k) (nI a) s40 (nI u) 1))) = fX7_castOf_76 (nI k) (nI a) (tf_wr t2 26 k 0) (nI u) 0 := by
          rw [isIn13 _ (show a < 2 ^ 31 by omega), tf_bse]
          by_cases qa : 1 ≤ a ∧ a < 4
          · have qu : ¬ (1 ≤ u ∧ u < 4) := fun r => q ⟨qa, r⟩
            simp only [qa, and_self, if_true]
            rw [if_neg (show ¬ (1 : Int32) = 0 by decide), isIn13 _ (show u < 2 ^ 31 by omega), tf_bse]
            simp only [qu, if_false, if_true, tf_gle]
          · simp only [qa, if_false, if_true, tf_gle]
        simp only [jk, if_true, show ¬ (0 : Int32) = 1 by decide, if_false]
        rw [M]
        unfold fX5_castTo_52 fX7_castOf_76
        rw [if_neg (show ¬ (0 : Int32) = -3 by decide), if_neg (show ¬ (0 : Int32) = 1 by decide), if_pos (u55 0), none_eq, tf_bse, if_neg (show ¬ (0 : Int32) = 1 by decide), if_neg (show ¬ (0 : Int32) = -3 by decide), tf_gle]
        exact ⟨-1, _, _, rfl, rfl, tf_CO.no (Wx 0) (Tx 0 0) (by omega) (Hx 0) (Kx 0) (by rw [u55, v26]) (Or.inl (u55 0))⟩
    · -- the target goes for what comes
      rw [if_pos rfl, if_neg (show ¬ (1 : Int32) = 0 by decide), if_pos (show (1 : Int32) = 1 from rfl), if_pos jk, tf_gle, tf_gle]
      unfold fX5_castTo_52 fX7_castOf_76
      rw [if_neg (show ¬ (1 : Int32) = -3 by decide), if_pos rfl, if_pos rfl]
      exact ⟨nI u, _, _, rfl, rfl, n2, Wx 1, Tx 1 1, by omega, Hx 1, Kx 1, by rw [u55, v26], Or.inr (u55 1), Or.inr ⟨u, by omega, rfl, uc 1, u54 1⟩⟩
  · rw [if_neg (show ¬ (1 : Int32) = 0 by decide), if_neg (show ¬ (1 : Int32) = 0 by decide)]
    unfold fX5_castTo_52 fX7_castOf_76
    rw [if_neg (show ¬ (1 : Int32) = -3 by decide), if_pos rfl, if_pos rfl]
    exact ⟨nI u, _, _, rfl, rfl, n, W1, T1, l1, F1.H, G1.G.K, by rw [s55, t26], Or.inl s55, Or.inr ⟨u, by omega, rfl, by rw [(F1.2.2 u hu).2.2.2]; exact cu, by rw [F1.c5]⟩⟩
