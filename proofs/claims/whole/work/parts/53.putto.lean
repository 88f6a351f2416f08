/-! pure part 14: a parameter takes, both sides -/
def tf_Gx (σ σ' : tf_S) (nT : Nat) : Prop := (∀ c, c ≠ 1 → c ≠ 9 → c ≠ 10 → c ≠ 11 → c ≠ 12 → c ≠ 13 → c ≠ 14 → c ≠ 31 → c ≠ 32 → c ≠ 33 → c ≠ 34 → σ' c = σ c) ∧ σ' 1 0 = σ 1 0 ∧ ∀ t, t < nT → σ' 9 t = σ 9 t ∧ σ' 10 t = σ 10 t ∧ σ' 11 t = σ 11 t ∧ σ' 12 t = σ 12 t
def tf_Gm (σ σ' : tf_S) : Prop := (∀ c, c ≠ 0 → c ≠ 3 → c ≠ 4 → c ≠ 5 → c ≠ 6 → c ≠ 7 → c ≠ 8 → c ≠ 15 → c ≠ 16 → c ≠ 17 → σ' c = σ c) ∧ ∀ j, j ≠ 3 → j ≠ 10 → j ≠ 20 → j ≠ 23 → σ' 0 j = σ 0 j
theorem tf_Gx.rf {σ : tf_S} {nT : Nat} : tf_Gx σ σ nT := ⟨fun _ _ _ _ _ _ _ _ _ _ _ _ => rfl, rfl, fun _ _ => ⟨rfl, rfl, rfl, rfl⟩⟩
theorem tf_Gm.rf {σ : tf_S} : tf_Gm σ σ := ⟨fun _ _ _ _ _ _ _ _ _ _ _ => rfl, fun _ _ _ _ _ => rfl⟩
theorem tf_Gx.tr {a b c : tf_S} {n m : Nat} (h1 : tf_Gx a b n) (h2 : tf_Gx b c m) (h : n ≤ m) : tf_Gx a c n := by
  refine ⟨fun k q1 q2 q3 q4 q5 q6 q7 q8 q9 qa qb => (h2.1 k q1 q2 q3 q4 q5 q6 q7 q8 q9 qa qb).trans (h1.1 k q1 q2 q3 q4 q5 q6 q7 q8 q9 qa qb), h2.2.1.trans h1.2.1, fun t ht => ?_⟩
  obtain ⟨a1, a2, a3, a4⟩ := h1.2.2 t ht
  obtain ⟨b1, b2, b3, b4⟩ := h2.2.2 t (by omega)
  exact ⟨b1.trans a1, b2.trans a2, b3.trans a3, b4.trans a4⟩
theorem tf_Gm.tr {a b c : tf_S} (h1 : tf_Gm a b) (h2 : tf_Gm b c) : tf_Gm a c :=
  ⟨fun k q1 q2 q3 q4 q5 q6 q7 q8 q9 qa => (h2.1 k q1 q2 q3 q4 q5 q6 q7 q8 q9 qa).trans (h1.1 k q1 q2 q3 q4 q5 q6 q7 q8 q9 qa), fun j q1 q2 q3 q4 => (h2.2 j q1 q2 q3 q4).trans (h1.2 j q1 q2 q3 q4)⟩
theorem tf_Fx.G {σ σ' : tf_S} {nT : Nat} (h : tf_Fx σ σ' nT) : tf_Gx σ σ' nT := ⟨fun k q1 q2 q3 q4 q5 q6 q7 _ _ _ _ => h.1 k q1 q2 q3 q4 q5 q6 q7, h.2.1, h.2.2⟩
theorem tf_Fm.G {σ σ' : tf_S} (h : tf_Fm σ σ') : tf_Gm σ σ' := ⟨fun k q1 q2 q3 q4 q5 q6 q7 _ _ _ => h.1 k q1 q2 q3 q4 q5 q6 q7, fun j q1 q2 _ _ => h.2 j q1 q2⟩
theorem tf_fX.G {σ σ' : tf_S} {nT : Nat} (h : tf_fX σ σ') : tf_Gx σ σ' nT := ⟨fun k _ _ _ _ _ _ _ q8 q9 qa qb => h k q8 q9 qa qb, by rw [h 1 (by decide) (by decide) (by decide) (by decide)], fun t _ => by rw [h 9 (by decide) (by decide) (by decide) (by decide), h 10 (by decide) (by decide) (by decide) (by decide), h 11 (by decide) (by decide) (by decide) (by decide), h 12 (by decide) (by decide) (by decide) (by decide)]; exact ⟨rfl, rfl, rfl, rfl⟩⟩
theorem tf_fM.G {σ σ' : tf_S} (h : tf_fM σ σ') : tf_Gm σ σ' := ⟨fun k q0 _ _ _ _ _ _ q8 q9 qa => h.1 k q0 q8 q9 qa, fun j _ _ q3 q4 => h.2 j q4 q3⟩
theorem tf_fX.WF {σ σ' : tf_S} {nC nT : Nat} (h : tf_fX σ σ') (W : tf_WF σ nC nT) : tf_WF σ' nC nT := tf_WF_cong W (h 1 (by decide) (by decide) (by decide) (by decide)) (h 7 (by decide) (by decide) (by decide) (by decide)) (h 8 (by decide) (by decide) (by decide) (by decide)) (h 9 (by decide) (by decide) (by decide) (by decide)) (h 10 (by decide) (by decide) (by decide) (by decide)) (h 11 (by decide) (by decide) (by decide) (by decide)) (h 12 (by decide) (by decide) (by decide) (by decide))
theorem tf_fX.TM {σ σ' τ : tf_S} {nC nT : Nat} (h : tf_fX σ σ') (T : tf_TM σ τ nC nT) : tf_TM σ' τ nC nT := by
  obtain ⟨m1, m2, m3, m4⟩ := T
  refine ⟨m1, m2, fun k hk => ?_, fun k hk => ?_⟩
  · rw [h 7 (by decide) (by decide) (by decide) (by decide), h 8 (by decide) (by decide) (by decide) (by decide)]; exact m3 k hk
  · rw [h 9 (by decide) (by decide) (by decide) (by decide), h 10 (by decide) (by decide) (by decide) (by decide), h 11 (by decide) (by decide) (by decide) (by decide), h 12 (by decide) (by decide) (by decide) (by decide)]; exact m4 k hk
theorem tf_pb.up {σ σ' : tf_S} {nT nT' : Nat} {x : Int32} (h : tf_pb σ nT x) (e : ∀ t, t < nT → σ' 12 t = σ 12 t) (l : nT ≤ nT') : tf_pb σ' nT' x := h.imp id (fun ⟨r, r1, r2, r3, r4⟩ => ⟨r, r1, by omega, r3, by rw [e r r2]; exact r4⟩)
theorem tf_aX.up {σ σ' : tf_S} {nC nT nT' : Nat} {b : Int32 × Int32} (W : tf_WF σ nC nT) (h : tf_aX σ σ nT b) (F : tf_Gx σ σ' nT) (e : σ' 32 = σ 32) (l : nT ≤ nT') : tf_aX σ' σ' nT' b := fun p h1 h2 => by
  rw [e]
  refine (h p h1 h2).imp id (fun ⟨z, q, q1, q2, q3⟩ => ⟨by omega, q, by omega, q2, ?_⟩)
  rw [tf_ms_cg W (fun t ht => ⟨(F.2.2 t ht).1, (F.2.2 t ht).2.1, (F.2.2 t ht).2.2.1⟩) 80 p q b z q1 (by omega)]
  exact q3
theorem failsM (σ : tf_S) (x : Int32) : fX7_fails σ x = some (0, tf_wr σ 0 20 x) := by
  unfold fX7_fails; rw [tf_gle]
theorem tf_bz0 : tf_bz 0 = true := by decide
theorem tf_bz1 : tf_bz 1 = true := by decide
theorem tf_bzi (c : Prop) [Decidable c] : tf_bz (if c then 1 else 0) = true := by
  by_cases h : c
  · rw [if_pos h]; exact tf_bz1
  · rw [if_neg h]; exact tf_bz0
theorem tf_wr20 {K σ : tf_S} {nC nT : Nat} {x : Int32} (T : tf_TM K σ nC nT) : tf_TM K (tf_wr σ 0 20 x) nC nT := T.keep ⟨fun c c0 _ _ _ => by rw [tf_wr_o _ _ _ c0], fun j _ j20 => by rw [tf_wr_s, pk_un j20]⟩
theorem tf_wr20G (σ : tf_S) (x : Int32) : tf_Gm σ (tf_wr σ 0 20 x) := ⟨fun c c0 _ _ _ _ _ _ _ _ _ => by rw [tf_wr_o _ _ _ c0], fun j _ _ j20 _ => by rw [tf_wr_s, pk_un j20]⟩
theorem goesM_prim {σ : tf_S} {v w : Nat} (hv : v < 2 ^ 31) (hw : w < 4) : fX7_goesFor σ (nI v) (nI w) = some (if nI v = nI w then 1 else if nI v = 1 ∧ (nI w = 2 ∨ nI w = 3) then 1 else 0, σ) := by
  unfold fX7_goesFor
  by_cases e : nI v = nI w
  · rw [if_pos e, if_pos e]
  · rw [if_neg e, if_neg e, primM_eq _ hv, tf_bse]
    by_cases v4 : v < 4
    · simp only [v4, if_true]
      rw [if_neg (by decide), goesM_21]
    · simp only [v4, if_false, if_true]
      rw [primM_eq _ (by omega), tf_bse]
      simp only [hw, if_true]
      rw [if_neg (by decide), goesM_21]
set_option maxHeartbeats 1000000 in
/-- A PARAMETER TAKES A TYPE, on both sides -/
theorem tf_take_sim {σx σm : tf_S} {nC nT w v : Nat} (W : tf_WF σx nC nT) (T : tf_TM σx σm nC nT) (hw : w < nT) (hv : v < nT) (cv : σx 12 v = 0) (eb : tf_bX σx = tf_bM σm) (p1 : tf_pb σx nT (tf_bX σx).1) (p2 : tf_pb σx nT (tf_bX σx).2) (ax : tf_aX σx σx nT (tf_bX σx)) :
    ∃ (c : Int32) (σx' σm' : tf_S) (nT' : Nat), fX3_take σx (nI w) (nI v) = some (c, σx') ∧ fX7_takes σm (nI w) (nI v) = some (if c = 0 then 1 else 0, σm') ∧ tf_WF σx' nC nT' ∧ tf_TM σx' σm' nC nT' ∧ nT ≤ nT' ∧ tf_Gx σx σx' nT ∧ tf_Gm σm σm' ∧
      (c = 0 → tf_bX σx' = tf_bM σm' ∧ tf_pb σx' nT' (tf_bX σx').1 ∧ tf_pb σx' nT' (tf_bX σx').2 ∧ tf_aX σx' σx' nT' (tf_bX σx')) ∧ (c ≠ 0 → σm' 0 20 = c) ∧ (c = 0 ∨ c = 1 ∨ c = 2 ∨ c = 8) := by
  have hn := W.1.2.2.2.2.2
  have hnC := W.1.2.2.2.1
  by_cases w4 : w < 4
  · -- a primitive parameter
    by_cases ok : nI v = nI w ∨ (nI v = 1 ∧ (nI w = 2 ∨ nI w = 3))
    · refine ⟨0, σx, σm, nT, ?_, ?_, W, T, Nat.le_refl _, tf_Gx.rf, tf_Gm.rf, fun _ => ⟨eb, p1, p2, ax⟩, fun q => absurd rfl q, Or.inl rfl⟩
      · unfold fX3_take
        rw [primX_eq _ (show w < 2 ^ 31 by omega), tf_bse]
        simp only [w4, if_true]
        rw [if_neg (by decide)]
        by_cases e : nI v = nI w
        · rw [if_pos e]
        · rw [if_neg e, widens_eq, tf_bse]
          simp only [ok.resolve_left e, and_self, if_true]
          rw [if_neg (by decide)]
      · unfold fX7_takes
        rw [primM_eq _ (show w < 2 ^ 31 by omega), tf_bse]
        simp only [w4, if_true]
        rw [if_neg (by decide), goesM_prim (by omega) w4, tf_bse]
        have e1 : (if nI v = nI w then (1 : Int32) else if nI v = 1 ∧ (nI w = 2 ∨ nI w = 3) then 1 else 0) = 1 := by
          by_cases e : nI v = nI w
          · rw [if_pos e]
          · rw [if_neg e, if_pos (ok.resolve_left e)]
        simp only [e1, if_true]
    · have ne : ¬ nI v = nI w := fun q => ok (Or.inl q)
      have nw : ¬ (nI v = 1 ∧ (nI w = 2 ∨ nI w = 3)) := fun q => ok (Or.inr q)
      refine ⟨1, σx, tf_wr σm 0 20 1, nT, ?_, ?_, W, tf_wr20 T, Nat.le_refl _, tf_Gx.rf, tf_wr20G _ _, fun q => absurd q (by decide), fun _ => by rw [tf_wr_s, pk_us], Or.inr (Or.inl rfl)⟩
      · unfold fX3_take
        rw [primX_eq _ (show w < 2 ^ 31 by omega), tf_bse]
        simp only [w4, if_true]
        rw [if_neg (by decide), if_neg ne, widens_eq, tf_bse]
        simp only [nw, if_false, if_true]
      · unfold fX7_takes
        rw [primM_eq _ (show w < 2 ^ 31 by omega), tf_bse]
        simp only [w4, if_true]
        rw [if_neg (by decide), goesM_prim (by omega) w4, tf_bse]
        simp only [ne, nw, if_false]
        rw [if_neg (by decide), failsM, tf_bse]
        simp only [if_true]
        rw [if_neg (by decide)]
  · by_cases v4 : v < 4
    · -- a primitive for what is none
      refine ⟨1, σx, tf_wr σm 0 20 1, nT, ?_, ?_, W, tf_wr20 T, Nat.le_refl _, tf_Gx.rf, tf_wr20G _ _, fun q => absurd q (by decide), fun _ => by rw [tf_wr_s, pk_us], Or.inr (Or.inl rfl)⟩
      · unfold fX3_take
        rw [primX_eq _ (show w < 2 ^ 31 by omega), tf_bse]
        simp only [w4, if_false, if_true]
        rw [primX_eq _ (show v < 2 ^ 31 by omega), tf_bse]
        simp only [v4, if_true]
        rw [if_neg (by decide)]
      · unfold fX7_takes
        rw [primM_eq _ (show w < 2 ^ 31 by omega), tf_bse]
        simp only [w4, if_false, if_true]
        rw [primM_eq _ (show v < 2 ^ 31 by omega), tf_bse]
        simp only [v4, if_true]
        rw [if_neg (by decide), failsM, tf_bse]
        simp only [tf_bz0, if_true]
        rw [if_neg (by decide)]
    · have v6 : 6 ≤ v := (tf_closed W cv).resolve_left v4
      by_cases hv4 : w = 4 ∨ w = 5
      · -- a variable
        obtain ⟨i, hi, rfl⟩ : ∃ i, i < 2 ∧ w = 4 + i := ⟨w - 4, by omega, by omega⟩
        have e : nI (4 + i) - (4 : Int32) = nI i := by
          have : nI (4 + i) - nI 4 = nI (4 + i - 4) := pk_sub (by omega)
          rw [show 4 + i - 4 = i by omega] at this
          exact this
        have eb1 : σx 31 i = σm 15 i := by
          have h1 := congrArg Prod.fst eb
          have h2 := congrArg Prod.snd eb
          rcases (show i = 0 ∨ i = 1 by omega) with rfl | rfl
          · exact h1
          · exact h2
        have X : fX3_take σx (nI (4 + i)) (nI v) = some ((tf_bi (σx 31 i) (nI v)).1, if σx 31 i = -1 then tf_wr σx 31 i (nI v) else σx) := by
          unfold fX3_take
          rw [primX_eq _ (show 4 + i < 2 ^ 31 by omega), tf_bse]
          simp only [w4, if_false, if_true]
          rw [primX_eq _ (show v < 2 ^ 31 by omega), tf_bse]
          simp only [v4, if_false, if_true]
          rw [isVar_eq _ (by omega), tf_bse]
          simp only [hv4, if_true]
          rw [if_neg (by decide), bindX_eq hi (by omega), tf_bse]
        have Mm : fX7_takes σm (nI (4 + i)) (nI v) = some (if (tf_bi (σx 31 i) (nI v)).1 = 0 then 1 else 0, if (tf_bi (σx 31 i) (nI v)).1 = 0 then tf_wr σm 15 i (nI v) else tf_wr σm 0 20 2) := by
          unfold fX7_takes
          rw [primM_eq _ (show 4 + i < 2 ^ 31 by omega), tf_bse]
          simp only [w4, if_false, if_true]
          rw [primM_eq _ (show v < 2 ^ 31 by omega), tf_bse]
          simp only [v4, if_false, if_true]
          rw [if_neg (show ¬ (6 : Int32) ≤ nI (4 + i) from nI_ge (b := 6) (by omega) (by decide)), e, bindsM_eq hi (by omega), tf_bse]
          simp only [tf_bzi, if_true, eb1]
        by_cases z : (tf_bi (σx 31 i) (nI v)).1 = 0
        · -- bound
          have fx : tf_fX σx (if σx 31 i = -1 then tf_wr σx 31 i (nI v) else σx) := by
            intro c c31 _ _ _
            by_cases y : σx 31 i = -1
            · rw [if_pos y, tf_wr_o _ _ _ c31]
            · rw [if_neg y]
          have e32 : (if σx 31 i = -1 then tf_wr σx 31 i (nI v) else σx) 32 = σx 32 := by
            by_cases y : σx 31 i = -1
            · rw [if_pos y, tf_wr_o _ _ _ (by decide)]
            · rw [if_neg y]
          have e31 : (if σx 31 i = -1 then tf_wr σx 31 i (nI v) else σx) 31 = upd (σx 31) i (nI v) := by
            by_cases y : σx 31 i = -1
            · rw [if_pos y, tf_wr_s]
            · rw [if_neg y]
              have : σx 31 i = nI v := by
                unfold tf_bi at z
                rw [if_neg y] at z
                by_cases y2 : σx 31 i = nI v
                · exact y2
                · rw [if_neg y2] at z; exact absurd z (by show ¬ (2 : Int32) = 0; decide)
              funext j
              by_cases q : j = i
              · rw [q, pk_us, this]
              · rw [pk_un q]
          have hb : ∀ j, j < 2 → tf_pb σx nT (upd (σx 31) i (nI v) j) := fun j hj => by
            by_cases q : j = i
            · rw [q, pk_us]; exact Or.inr ⟨v, v6, hv, rfl, cv⟩
            · rw [pk_un q]
              rcases (show j = 0 ∨ j = 1 by omega) with rfl | rfl
              · exact p1
              · exact p2
          have xt : tf_ext (tf_bX σx) (upd (σx 31) i (nI v) 0, upd (σx 31) i (nI v) 1) := by
            have key : ∀ j, σx 31 j ≠ -1 → upd (σx 31) i (nI v) j = σx 31 j := fun j hj => by
              by_cases q : j = i
              · subst q
                unfold tf_bi at z
                rw [if_neg hj] at z
                by_cases y2 : σx 31 j = nI v
                · rw [pk_us, y2]
                · rw [if_neg y2] at z; exact absurd z (by show ¬ (2 : Int32) = 0; decide)
              · rw [pk_un q]
            exact ⟨key 0, key 1⟩
          rw [if_pos z, if_pos z] at Mm
          rw [z] at X
          generalize (if σx 31 i = -1 then tf_wr σx 31 i (nI v) else σx) = σ1 at X fx e32 e31
          have b1 : tf_bX σ1 = (upd (σx 31) i (nI v) 0, upd (σx 31) i (nI v) 1) := by unfold tf_bX; rw [e31]
          have fm : tf_fM σm (tf_wr σm 15 i (nI v)) := ⟨fun c _ c15 _ _ => by rw [tf_wr_o _ _ _ c15], fun j _ _ => by rw [tf_wr_o _ _ _ (by decide)]⟩
          refine ⟨0, σ1, tf_wr σm 15 i (nI v), nT, X, Mm, fx.WF W, (fx.TM T).keep fm, Nat.le_refl _, fx.G, fm.G, fun _ => ⟨?_, ?_, ?_, ?_⟩, fun q => absurd rfl q, Or.inl rfl⟩
          · rw [b1]
            unfold tf_bM
            rw [tf_wr_s]
            have h1 : ∀ j, j < 2 → upd (σx 31) i (nI v) j = upd (σm 15) i (nI v) j := fun j hj => by
              by_cases q : j = i
              · rw [q, pk_us, pk_us]
              · rw [pk_un q, pk_un q]
                rcases (show j = 0 ∨ j = 1 by omega) with rfl | rfl
                · exact congrArg Prod.fst eb
                · exact congrArg Prod.snd eb
            rw [h1 0 (by decide), h1 1 (by decide)]
          · rw [b1]; exact (hb 0 (by decide)).up (fun t _ => by rw [fx 12 (by decide) (by decide) (by decide) (by decide)]) (Nat.le_refl _)
          · rw [b1]; exact (hb 1 (by decide)).up (fun t _ => by rw [fx 12 (by decide) (by decide) (by decide) (by decide)]) (Nat.le_refl _)
          · rw [b1]
            have a1 : tf_aX σx σx nT (upd (σx 31) i (nI v) 0, upd (σx 31) i (nI v) 1) := fun p h1 h2 => (ax p h1 h2).imp id (fun ⟨y, q, q1, q2, q3⟩ => ⟨y, q, q1, q2, tf_ms_mono W 80 p q _ _ q1 y (by omega) q3 xt⟩)
            exact a1.up W fx.G e32 (Nat.le_refl _)
        · -- torn
          rw [if_neg z, if_neg z] at Mm
          have c2 : (tf_bi (σx 31 i) (nI v)).1 = 2 ∧ ¬ σx 31 i = -1 := by
            unfold tf_bi at z ⊢
            by_cases y : σx 31 i = -1
            · rw [if_pos y] at z; exact absurd rfl z
            · rw [if_neg y] at z ⊢
              by_cases y2 : σx 31 i = nI v
              · rw [if_pos y2] at z; exact absurd rfl z
              · rw [if_neg y2]; exact ⟨rfl, y⟩
          rw [c2.1, if_neg c2.2] at X
          exact ⟨2, σx, tf_wr σm 0 20 2, nT, X, by rw [Mm, if_neg (show ¬ (2 : Int32) = 0 by decide)], W, tf_wr20 T, Nat.le_refl _, tf_Gx.rf, tf_wr20G _ _, fun q => absurd q (by decide), fun _ => by rw [tf_wr_s, pk_us], Or.inr (Or.inr (Or.inl rfl))⟩
      · -- a class type
        have w6 : 6 ≤ w := by omega
        obtain ⟨c, hc, e9, -, -⟩ := W.2.2.2.2.2.1 w w6 hw
        have iw : tf_inb (nI w) 80 = true := tf_ib (show w < 80 by omega) (by decide)
        have cw : (nI w).toNatClampNeg = w := nI_clamp (by omega)
        obtain ⟨r, σ1, τ1, n1, f1, f2, W1, T1, l1, F1, G1, res⟩ := tf_seen_sim True W T v6 hv hc (fun _ => cv)
        have X0 : fX3_take σx (nI w) (nI v) = if r = -3 then some (8, σ1) else if r = -1 then some (1, σ1) else (fX3_match σ1 (nI w) r).bind fun u16 => some (u16.1, u16.2) := by
          unfold fX3_take
          rw [primX_eq _ (show w < 2 ^ 31 by omega), tf_bse]
          simp only [w4, if_false, if_true]
          rw [primX_eq _ (show v < 2 ^ 31 by omega), tf_bse]
          simp only [v4, if_false, if_true]
          rw [isVar_eq _ (by omega), tf_bse]
          simp only [hv4, if_false, if_true]
          rw [if_pos iw, cw, e9, f1, tf_bse, tf_gle]
        have M0 : fX7_takes σm (nI w) (nI v) = if 0 ≤ r then ((fX7_holds τ1 (nI w) r).bind fun u13 => if tf_bz u13.1 = true then some (u13.1, u13.2) else none) else if r = -3 then some (0, tf_wr τ1 0 20 8) else some (0, tf_wr τ1 0 20 1) := by
          unfold fX7_takes
          rw [primM_eq _ (show w < 2 ^ 31 by omega), tf_bse]
          simp only [w4, if_false, if_true]
          rw [primM_eq _ (show v < 2 ^ 31 by omega), tf_bse]
          simp only [v4, if_false, if_true]
          rw [if_pos (show (6 : Int32) ≤ nI w from nI_le (a := 6) w6 (by omega)), if_pos iw, cw, (T.2.2.2 w hw).1, e9, f2, tf_bse, tf_gle, failsM, failsM, tf_bse, tf_bse]
          simp only [tf_bz0, if_true]
        rcases res with r3 | ⟨r1, -⟩ | ⟨q, q6, qn, qr, -, qc⟩
        · rw [if_pos r3] at X0
          rw [r3, if_neg (by decide), if_pos rfl] at M0
          exact ⟨8, σ1, _, n1, X0, by rw [M0, if_neg (show ¬ (8 : Int32) = 0 by decide)], W1, tf_wr20 T1, l1, F1.G, G1.G.tr (tf_wr20G _ _), fun q => absurd q (by decide), fun _ => by rw [tf_wr_s, pk_us], Or.inr (Or.inr (Or.inr rfl))⟩
        · rw [r1, if_neg (by decide), if_pos rfl] at X0
          rw [r1, if_neg (by decide), if_neg (by decide)] at M0
          exact ⟨1, σ1, _, n1, X0, by rw [M0, if_neg (show ¬ (1 : Int32) = 0 by decide)], W1, tf_wr20 T1, l1, F1.G, G1.G.tr (tf_wr20G _ _), fun q => absurd q (by decide), fun _ => by rw [tf_wr_s, pk_us], Or.inr (Or.inl rfl)⟩
        · have hn1 := W1.1.2.2.2.2.2
          have b1 : tf_bX σ1 = tf_bX σx := by unfold tf_bX; rw [F1.1 31 (by decide) (by decide) (by decide) (by decide) (by decide) (by decide) (by decide)]
          have bm1 : tf_bM τ1 = tf_bM σm := by unfold tf_bM; rw [G1.1 15 (by decide) (by decide) (by decide) (by decide) (by decide) (by decide) (by decide)]
          have e32 : σ1 32 = σx 32 := F1.1 32 (by decide) (by decide) (by decide) (by decide) (by decide) (by decide) (by decide)
          have a1 : tf_aX σ1 σ1 n1 (tf_bX σ1) := by rw [b1]; exact ax.up W F1.G e32 l1
          obtain ⟨σ2, τ2, g1, g2, fx, fm, gs, gf⟩ := tf_match_sim W1 T1 w6 (by omega) qn (by rw [b1, bm1]; exact eb) a1
          have vv := tf_ms_val W1 80 w q (tf_bX σ1) (by omega) qn (Or.inr (Or.inr w6)) q6 (qc trivial) (by rw [b1]; exact p1.up (fun t ht => (F1.2.2 t ht).2.2.2) l1) (by rw [b1]; exact p2.up (fun t ht => (F1.2.2 t ht).2.2.2) l1)
          generalize tf_ms σ1 80 (tf_bX σ1) w q = m at g1 g2 gs gf vv
          rw [if_neg (by rw [qr]; exact tf_n3 (by omega)), if_neg (by rw [qr]; exact tf_m1ne q (by omega)), qr, g1, tf_bse] at X0
          rw [qr, if_pos (nI_pos' (by omega)), g2, tf_bse] at M0
          simp only [tf_bzi, if_true] at M0
          refine ⟨m.1, σ2, τ2, n1, X0, M0, fx.WF W1, (fx.TM T1).keep fm, l1, F1.G.tr fx.G l1, G1.G.tr fm.G, fun z => ?_, gf, ?_⟩
          · obtain ⟨s1, s2, s3⟩ := gs z
            have u12 : ∀ t, t < n1 → σ2 12 t = σ1 12 t := fun t _ => by rw [fx 12 (by decide) (by decide) (by decide) (by decide)]
            refine ⟨s1.trans s2.symm, by rw [s1]; exact vv.1.1.up u12 (Nat.le_refl _), by rw [s1]; exact vv.1.2.up u12 (Nat.le_refl _), ?_⟩
            rw [s1]
            intro p h1 h2
            refine (s3 p h1 h2).imp id (fun ⟨y, q', q1', q2', q3'⟩ => ⟨y, q', q1', q2', ?_⟩)
            rw [tf_ms_cg W1 (fun t _ => by rw [fx 9 (by decide) (by decide) (by decide) (by decide), fx 10 (by decide) (by decide) (by decide) (by decide), fx 11 (by decide) (by decide) (by decide) (by decide)]; exact ⟨rfl, rfl, rfl⟩) 80 p q' m.2 y q1' (by omega)]
            exact q3'
          · rcases vv.2 with z | z | z
            · exact Or.inl z
            · exact Or.inr (Or.inl z)
            · exact Or.inr (Or.inr (Or.inl z))
