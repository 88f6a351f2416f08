/-! pure part 22: one operator's turn in a flow -/
def tf_RV (σx σm : tf_S) (nT k : Nat) : Prop := σx 27 k = σm 24 k ∧ (σx 27 k = -1 ∨ ∃ q, q < nT ∧ σx 27 k = nI q ∧ σx 12 q = 0) ∧ σx 28 k = σm 25 k ∧ σx 29 k = σm 26 k ∧ (σx 29 k = 0 ∨ σx 29 k = 1) ∧ σx 30 (2 * k) = σm 27 (2 * k) ∧ σx 30 (2 * k + 1) = σm 27 (2 * k + 1)
theorem tf_KO.no {σx σm s m : tf_S} {nC n n1 k kd : Nat} {x : Int32} (W : tf_WF s nC n1) (T : tf_TM s m nC n1) (l : n ≤ n1) (H : tf_Hx σx s n) (G : tf_Km σm m k) (e : s 5 5 = m 26 k) (e' : s 5 5 = 0 ∨ s 5 5 = 1) : tf_KO σx σm nC n k kd (-1) (tf_wr s 5 4 x) (tf_wr m 0 20 x) :=
  ⟨n1, tf_WFw (Or.inl rfl) W, tf_wr20 (tf_TMw (Or.inl rfl) T), l, H.tr (tf_Hw (nT := n1) (Or.inl rfl)) l, G.tr (tf_wr20G _ _).K, by rw [tf_wr_s, pk_un (by decide), tf_wr_o _ _ _ (by decide)]; exact e, by rw [tf_wr_s, pk_un (by decide)]; exact e', Or.inl ⟨rfl, by rw [tf_wr_s, pk_us, tf_wr_s, pk_us]⟩⟩
theorem tf_KO.pre {a σm a' σx' σm' : tf_S} {nC n k kd : Nat} {r : Int32} (h : tf_KO a' σm nC n k kd r σx' σm') (hx : tf_Hx a a' n) : tf_KO a σm nC n k kd r σx' σm' := by
  obtain ⟨m, W, T, le, H, G, g5, g6, o⟩ := h
  exact ⟨m, W, T, le, hx.tr H (Nat.le_refl _), G, g5, g6, o⟩
theorem hasTwo_eq {σ : tf_S} {k kd : Nat} (hk : k < 24) (e : σ 21 k = nI kd) (h8 : kd < 8) : fX2_hasTwoInputs σ (nI k) = some (if kd = 4 ∨ kd = 5 ∨ kd = 6 then 1 else 0, σ) := by
  unfold fX2_hasTwoInputs
  have jk : tf_inb (nI k) 24 = true := tf_ib hk (by decide)
  simp only [jk, if_true, nI_clamp (show k < 2 ^ 31 by omega), e]
  rcases (show kd = 0 ∨ kd = 1 ∨ kd = 2 ∨ kd = 3 ∨ kd = 4 ∨ kd = 5 ∨ kd = 6 ∨ kd = 7 by omega) with rfl | rfl | rfl | rfl | rfl | rfl | rfl | rfl <;> rfl
theorem isIn46 (σ : tf_S) {kd : Nat} (h8 : kd < 8) : fX7_isIn σ (nI kd) 4 6 = some (if kd = 4 ∨ kd = 5 ∨ kd = 6 then 1 else 0, σ) := by
  unfold fX7_isIn
  rcases (show kd = 0 ∨ kd = 1 ∨ kd = 2 ∨ kd = 3 ∨ kd = 4 ∨ kd = 5 ∨ kd = 6 ∨ kd = 7 by omega) with rfl | rfl | rfl | rfl | rfl | rfl | rfl | rfl <;> rfl
theorem tf_RV.up {a b a' b' : tf_S} {nT nT' k o : Nat} (h : tf_RV a b nT k) (H : tf_Hx a a' nT) (K : tf_Km b b' o) (ne : k ≠ o) (l : nT ≤ nT') : tf_RV a' b' nT' k := by
  obtain ⟨q1, q2, q3, q4, q5, q6, q7⟩ := h
  unfold tf_RV
  rw [H.k (c := 27) (by omega), H.k (c := 28) (by omega), H.k (c := 29) (by omega), H.k (c := 30) (by omega), K.k (c := 24) (by omega), K.k (c := 25) (by omega), K.k (c := 27) (by omega), K.2.2 k ne]
  exact ⟨q1, q2.imp id (fun ⟨q, u1, u2, u3⟩ => ⟨q, by omega, u2, by rw [(H.2.2 q u1).2.2.2]; exact u3⟩), q3, q4, q5, q6, q7⟩
set_option maxHeartbeats 2000000 in
theorem tf_what_sim {σx σm : tf_S} {nC nT nM nF k : Nat} (W : tf_WF σx nC nT) (T : tf_TM σx σm nC nT) (hk : k < 24) (hM : nM ≤ 24) (hF : nF ≤ 16) (Mv : ∀ m, m < nM → tf_MV σx σm nC nT m) (Fv : ∀ f, f < nF → tf_FV σx σm nT f) (O : tf_OV σx σm nC nT nM nF k) (R : ∀ j, j < k → tf_RV σx σm nT j) (m6 : σm 26 k = 0) :
    ∃ kd r σx' σm', kd < 8 ∧ σx 21 k = nI kd ∧ σm 18 k = nI kd ∧ fX5_whatComes σx (nI k) = some (r, σx') ∧ fX7_work σm (nI k) = some (r, σm') ∧ tf_KO σx σm nC nT k kd r σx' σm' := by
  have hn := W.1.2.2.2.2.2
  have jk : tf_inb (nI k) 24 = true := tf_ib hk (by decide)
  have ck : (nI k).toNatClampNeg = k := nI_clamp (by omega)
  obtain ⟨kd, h8, ek, mk, V1, V2, V07, V12, V5, V3, V6⟩ := O
  refine ⟨kd, ?_⟩
  have fin : ∀ (A B : Option (Int32 × tf_S)), (∃ r σx' σm', A = some (r, σx') ∧ B = some (r, σm') ∧ tf_KO σx σm nC nT k kd r σx' σm') → ∃ r σx' σm', kd < 8 ∧ σx 21 k = nI kd ∧ σm 18 k = nI kd ∧ A = some (r, σx') ∧ B = some (r, σm') ∧ tf_KO σx σm nC nT k kd r σx' σm' := fun A B ⟨r, sx, sm, q1, q2, q3⟩ => ⟨r, sx, sm, h8, ek, mk, q1, q2, q3⟩
  apply fin
  unfold fX5_whatComes fX7_work
  rw [tf_gle, tf_gle, if_pos jk, if_pos jk, tf_gle, if_pos jk, if_pos jk, ck, mk]
  have H : tf_Hx σx (tf_wr (tf_wr σx 5 4 0) 5 5 0) nT := (tf_Hw (Or.inl rfl)).tr (tf_Hw (nT := nT) (Or.inl rfl)) (Nat.le_refl _)
  have e4 : tf_wr (tf_wr σx 5 4 0) 5 5 0 5 4 = 0 := by rw [tf_wr_s, pk_un (by decide), tf_wr_s, pk_us]
  have e5 : tf_wr (tf_wr σx 5 4 0) 5 5 0 5 5 = 0 := by rw [tf_wr_s, pk_us]
  have W' : tf_WF (tf_wr (tf_wr σx 5 4 0) 5 5 0) nC nT := tf_WFw (Or.inl rfl) (tf_WFw (Or.inl rfl) W)
  have T' : tf_TM (tf_wr (tf_wr σx 5 4 0) 5 5 0) σm nC nT := tf_TMw (Or.inl rfl) (tf_TMw (Or.inl rfl) T)
  generalize tf_wr (tf_wr σx 5 4 0) 5 5 0 = s at H e4 e5 W' T' ⊢
  have s21 : s 21 k = nI kd := by rw [H.k (by omega)]; exact ek
  have s24 : s 24 = σx 24 := H.k (by omega)
  by_cases k0 : kd = 0
  · obtain ⟨u, u1, u2, u3, u4⟩ := V07 (Or.inl k0)
    subst k0
    rw [if_pos (show s 21 k = 0 from s21), if_pos (show nI 0 = (0 : Int32) from rfl)]
    unfold fX7_work_24
    rw [if_pos jk, ck, mk, isIn46 _ (by decide), tf_bse]
    simp only [show ¬ (0 = 4 ∨ 0 = 5 ∨ 0 = 6) by decide, if_false]
    rw [tf_gle, if_pos rfl]
    unfold fX7_work_57
    rw [if_pos jk, ck, mk, if_pos (show nI 0 ≤ (0 : Int32) by decide), if_pos rfl]
    unfold fX7_work_91
    rw [if_pos jk, ck, mk, if_pos (show nI 0 = (0 : Int32) from rfl), if_pos jk, s24, u2, u3]
    refine ⟨nI u, _, _, rfl, rfl, nT, W', T', Nat.le_refl _, H, tf_Gm.rf.K, by rw [e5, m6], Or.inl e5, Or.inr ⟨u, u1, rfl, ?_, e4, fun z => by omega⟩⟩
    rw [(H.2.2 u u1).2.2.2]; exact u4
  · obtain ⟨a, a1, a2, a3⟩ := V1 k0
    have ja : tf_inb (nI a) 24 = true := tf_ib (show a < 24 by omega) (by decide)
    have cA : (nI a).toNatClampNeg = a := nI_clamp (by omega)
    obtain ⟨r1, r2, -, -, -, -, -⟩ := R a a1
    have nk0 : ¬ nI kd = 0 := nI_ne0 (by omega) (by omega)
    rw [if_neg (show ¬ s 21 k = 0 by rw [s21]; exact nk0), if_neg nk0, if_pos jk, H.k (c := 22) (by omega), a2, if_pos ja, a3, if_pos ja, tf_gle, cA, hasTwo_eq hk s21 h8, tf_bse, H.k (c := 27) (by omega), ← r1]
    dsimp only
    rw [tf_gle]
    unfold fX7_work_24
    rw [if_pos jk, ck, mk, isIn46 _ h8, tf_bse]
    dsimp only
    rw [tf_gle, s24]
    have Hm : ∀ t0 (y3 : Int32), fX7_work_57 (nI k) σm (σx 27 a) y3 t0 = if σx 27 a = -1 then some (-1, tf_wr σm 0 20 7) else if y3 = 0 then fX7_work_91 (nI k) σm (σx 27 a) t0 else if t0 = -1 then some (-1, tf_wr σm 0 20 7) else fX7_work_91 (nI k) σm (σx 27 a) t0 := fun t0 y3 => by
      unfold fX7_work_57
      rw [if_pos jk, ck, mk, if_neg (nI_nle (show 0 < kd by omega) (by omega)), tf_gle]
    have Hx' : ∀ t0 (y4 : Int32), fX5_whatComes_88 (nI k) s (σx 24 k) (σx 27 a) y4 t0 = if σx 27 a = -1 then some (-1, tf_wr s 5 4 7) else if y4 = 0 then fX5_whatComes_113 (nI k) s (σx 24 k) (σx 27 a) t0 else if t0 = -1 then some (-1, tf_wr s 5 4 7) else fX5_whatComes_113 (nI k) s (σx 24 k) (σx 27 a) t0 := fun t0 y4 => by
      unfold fX5_whatComes_88
      rw [none_eq, tf_bse]
    simp only [Hm, Hx']
    have no : tf_KO σx σm nC nT k kd (-1) (tf_wr s 5 4 7) (tf_wr σm 0 20 7) := tf_KO.no W' T' (Nat.le_refl _) H tf_Gm.rf.K (by rw [e5, m6]) (Or.inl e5)
    have Mv' : ∀ m, m < nM → tf_MV s σm nC nT m := fun m hm => (Mv m hm).up H tf_Gm.rf (Nat.le_refl _)
    have Fv' : ∀ f, f < nF → tf_FV s σm nT f := fun f hf => (Fv f hf).up H tf_Gm.rf (Nat.le_refl _)
    have e18 : s 18 = σx 18 := H.k (by omega)
    have e25 : s 25 = σx 25 := H.k (by omega)
    have e26 : s 26 = σx 26 := H.k (by omega)
    have e7 : s 7 = σx 7 := H.k (by omega)
    have D : ∀ (q : Nat) (y : Int32), q < nT → s 12 q = 0 → ((kd = 4 ∨ kd = 5 ∨ kd = 6) → ∃ b, b < nT ∧ y = nI b ∧ s 12 b = 0) → ((kd = 1 ∨ kd = 2) → y = -1) → ∃ r σx' σm', fX5_whatComes_113 (nI k) s (σx 24 k) (nI q) y = some (r, σx') ∧ fX7_work_91 (nI k) σm (nI q) y = some (r, σm') ∧ tf_KO σx σm nC nT k kd r σx' σm' := by
      intro q y hq cq hy hy'
      obtain ⟨r, sx, sm, ex, em, K⟩ := tf_do_sim (kd := kd) (y := y) W' T' hk hM hF Mv' Fv' (Nat.pos_of_ne_zero k0) h8 s21 mk (fun z => by
          obtain ⟨u, u1, u2, u3, u4⟩ := V07 (Or.inr z)
          exact ⟨u, u1, by rw [s24]; exact u2, u3, by rw [(H.2.2 u u1).2.2.2]; exact u4⟩) (by rw [s24, e18]; exact V12) (by rw [s24, e18]; exact V5) (by rw [s24]; exact V3) (by rw [s24, e25, e26, e7]; exact V6) hq cq hy hy' e4 e5 m6
      rw [s24] at ex
      exact ⟨r, sx, sm, ex, em, K.pre H⟩
    by_cases tw : kd = 4 ∨ kd = 5 ∨ kd = 6
    · obtain ⟨b, b1, b2, b3⟩ := V2 tw
      have jb : tf_inb (nI b) 24 = true := tf_ib (show b < 24 by omega) (by decide)
      have cB : (nI b).toNatClampNeg = b := nI_clamp (by omega)
      obtain ⟨t1, t2, -, -, -, -, -⟩ := R b b1
      have e23 : s 23 = σx 23 := H.k (by omega)
      have e27 : s 27 = σx 27 := H.k (by omega)
      have n10 : ¬ (1 : Int32) = 0 := by decide
      simp only [tw, if_true, n10, if_false, jk, e23, e27, b2, b3, jb, cB, ← t1]
      rcases r2 with r2 | ⟨q, q1, q2, q3⟩
      · simp only [r2, if_true]
        exact ⟨-1, _, _, rfl, rfl, no⟩
      · have n1 : ¬ nI q = -1 := tf_m1ne q (by omega)
        simp only [q2, n1, if_false]
        rcases t2 with t2 | ⟨p, p1, p2, p3⟩
        · simp only [t2, if_true]
          exact ⟨-1, _, _, rfl, rfl, no⟩
        · have n2 : ¬ nI p = -1 := tf_m1ne p (by omega)
          simp only [p2, n2, if_false]
          exact D q (nI p) q1 (by rw [(H.2.2 q q1).2.2.2]; exact q3) (fun _ => ⟨p, p1, rfl, by rw [(H.2.2 p p1).2.2.2]; exact p3⟩) (fun z => by omega)
    · simp only [tw, if_false, if_true, jk]
      rcases r2 with r2 | ⟨q, q1, q2, q3⟩
      · simp only [r2, if_true]
        exact ⟨-1, _, _, rfl, rfl, no⟩
      · have n1 : ¬ nI q = -1 := tf_m1ne q (by omega)
        simp only [q2, n1, if_false]
        exact D q (-1) q1 (by rw [(H.2.2 q q1).2.2.2]; exact q3) (fun z => absurd z tw) (fun _ => rfl)
