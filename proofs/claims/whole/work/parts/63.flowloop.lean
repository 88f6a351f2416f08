/-! pure part 24: the flow, both sides -/
theorem tf_kx_o (s : tf_S) (k : Nat) (r f z b1 b2 : Int32) {c : Nat} (h : c < 27 ∨ 30 < c) : tf_kx s k r f z b1 b2 c = s c := by
  unfold tf_kx
  rw [tf_wr_o _ _ _ (by omega), tf_wr_o _ _ _ (by omega), tf_wr_o _ _ _ (by omega), tf_wr_o _ _ _ (by omega), tf_wr_o _ _ _ (by omega)]
theorem tf_kx_n (s : tf_S) {k j : Nat} (r f z b1 b2 : Int32) (h : j ≠ k) : tf_kx s k r f z b1 b2 27 j = s 27 j ∧ tf_kx s k r f z b1 b2 28 j = s 28 j ∧ tf_kx s k r f z b1 b2 29 j = s 29 j ∧ tf_kx s k r f z b1 b2 30 (2 * j) = s 30 (2 * j) ∧ tf_kx s k r f z b1 b2 30 (2 * j + 1) = s 30 (2 * j + 1) := by
  unfold tf_kx
  refine ⟨?_, ?_, ?_, ?_, ?_⟩
  · rw [tf_wr_o _ _ _ (by decide), tf_wr_o _ _ _ (by decide), tf_wr_o _ _ _ (by decide), tf_wr_o _ _ _ (by decide), tf_wr_s, pk_un h]
  · rw [tf_wr_o _ _ _ (by decide), tf_wr_o _ _ _ (by decide), tf_wr_o _ _ _ (by decide), tf_wr_s, pk_un h, tf_wr_o _ _ _ (by decide)]
  · rw [tf_wr_o _ _ _ (by decide), tf_wr_o _ _ _ (by decide), tf_wr_s, pk_un h, tf_wr_o _ _ _ (by decide), tf_wr_o _ _ _ (by decide)]
  · rw [tf_wr_s, pk_un (by omega), tf_wr_s, pk_un (by omega), tf_wr_o _ _ _ (by decide), tf_wr_o _ _ _ (by decide), tf_wr_o _ _ _ (by decide)]
  · rw [tf_wr_s, pk_un (by omega), tf_wr_s, pk_un (by omega), tf_wr_o _ _ _ (by decide), tf_wr_o _ _ _ (by decide), tf_wr_o _ _ _ (by decide)]
theorem tf_kx_y (s : tf_S) (k : Nat) (r f z b1 b2 : Int32) : tf_kx s k r f z b1 b2 27 k = r ∧ tf_kx s k r f z b1 b2 28 k = f ∧ tf_kx s k r f z b1 b2 29 k = z ∧ tf_kx s k r f z b1 b2 30 (2 * k) = b1 ∧ tf_kx s k r f z b1 b2 30 (2 * k + 1) = b2 := by
  unfold tf_kx
  refine ⟨?_, ?_, ?_, ?_, ?_⟩
  · rw [tf_wr_o _ _ _ (by decide), tf_wr_o _ _ _ (by decide), tf_wr_o _ _ _ (by decide), tf_wr_o _ _ _ (by decide), tf_wr_s, pk_us]
  · rw [tf_wr_o _ _ _ (by decide), tf_wr_o _ _ _ (by decide), tf_wr_o _ _ _ (by decide), tf_wr_s, pk_us]
  · rw [tf_wr_o _ _ _ (by decide), tf_wr_o _ _ _ (by decide), tf_wr_s, pk_us]
  · rw [tf_wr_s, pk_un (by omega), tf_wr_s, pk_us]
  · rw [tf_wr_s, pk_us]
theorem tf_km_o (s : tf_S) (k : Nat) (r t b1 b2 : Int32) {c : Nat} (h : c < 24 ∨ c = 26 ∨ 27 < c) : tf_km s k r t b1 b2 c = s c := by
  unfold tf_km
  rw [tf_wr_o _ _ _ (by omega), tf_wr_o _ _ _ (by omega), tf_wr_o _ _ _ (by omega), tf_wr_o _ _ _ (by omega)]
theorem tf_km_n (s : tf_S) {k j : Nat} (r t b1 b2 : Int32) (h : j ≠ k) : tf_km s k r t b1 b2 24 j = s 24 j ∧ tf_km s k r t b1 b2 25 j = s 25 j ∧ tf_km s k r t b1 b2 27 (2 * j) = s 27 (2 * j) ∧ tf_km s k r t b1 b2 27 (2 * j + 1) = s 27 (2 * j + 1) := by
  unfold tf_km
  refine ⟨?_, ?_, ?_, ?_⟩
  · rw [tf_wr_o _ _ _ (by decide), tf_wr_o _ _ _ (by decide), tf_wr_o _ _ _ (by decide), tf_wr_s, pk_un h]
  · rw [tf_wr_o _ _ _ (by decide), tf_wr_o _ _ _ (by decide), tf_wr_s, pk_un h, tf_wr_o _ _ _ (by decide)]
  · rw [tf_wr_s, pk_un (by omega), tf_wr_s, pk_un (by omega), tf_wr_o _ _ _ (by decide), tf_wr_o _ _ _ (by decide)]
  · rw [tf_wr_s, pk_un (by omega), tf_wr_s, pk_un (by omega), tf_wr_o _ _ _ (by decide), tf_wr_o _ _ _ (by decide)]
theorem tf_km_y (s : tf_S) (k : Nat) (r t b1 b2 : Int32) : tf_km s k r t b1 b2 24 k = r ∧ tf_km s k r t b1 b2 25 k = t ∧ tf_km s k r t b1 b2 27 (2 * k) = b1 ∧ tf_km s k r t b1 b2 27 (2 * k + 1) = b2 := by
  unfold tf_km
  refine ⟨?_, ?_, ?_, ?_⟩
  · rw [tf_wr_o _ _ _ (by decide), tf_wr_o _ _ _ (by decide), tf_wr_o _ _ _ (by decide), tf_wr_s, pk_us]
  · rw [tf_wr_o _ _ _ (by decide), tf_wr_o _ _ _ (by decide), tf_wr_s, pk_us]
  · rw [tf_wr_s, pk_un (by omega), tf_wr_s, pk_us]
  · rw [tf_wr_s, pk_us]
/-- what the tables' rows reach, kept alike: another pair of states with the same tables, members, functions and operators -/
def tf_Eq (a b a' b' : tf_S) : Prop := (∀ c, c < 5 ∨ (6 < c ∧ c < 27) → a' c = a c) ∧ (∀ c, (0 < c ∧ c < 15) ∨ (17 < c ∧ c < 24) → b' c = b c) ∧ ∀ j, j ≠ 20 → b' 0 j = b 0 j
theorem tf_WF.q {a b a' b' : tf_S} {nC nT : Nat} (h : tf_WF a nC nT) (E : tf_Eq a b a' b') : tf_WF a' nC nT :=
  tf_WF_cong h (E.1 _ (by omega)) (E.1 _ (by omega)) (E.1 _ (by omega)) (E.1 _ (by omega)) (E.1 _ (by omega)) (E.1 _ (by omega)) (E.1 _ (by omega))
theorem tf_TM.q {a b a' b' : tf_S} {nC nT : Nat} (h : tf_TM a b nC nT) (E : tf_Eq a b a' b') : tf_TM a' b' nC nT := by
  obtain ⟨m1, m2, m3, m4⟩ := h
  refine ⟨?_, ?_, fun k hk => ?_, fun k hk => ?_⟩
  · rw [E.2.2 0 (by decide)]; exact m1
  · rw [E.2.2 3 (by decide)]; exact m2
  · rw [E.1 7 (by omega), E.1 8 (by omega), E.2.1 1 (by omega), E.2.1 2 (by omega)]; exact m3 k hk
  · rw [E.1 9 (by omega), E.1 10 (by omega), E.1 11 (by omega), E.1 12 (by omega), E.2.1 3 (by omega), E.2.1 4 (by omega), E.2.1 5 (by omega), E.2.1 6 (by omega)]; exact m4 k hk
theorem tf_MV.q {a b a' b' : tf_S} {nC nT k : Nat} (h : tf_MV a b nC nT k) (E : tf_Eq a b a' b') : tf_MV a' b' nC nT k := by
  unfold tf_MV
  rw [E.1 7 (by omega), E.1 12 (by omega), E.1 15 (by omega), E.1 16 (by omega), E.2.1 9 (by omega), E.2.1 10 (by omega)]; exact h
theorem tf_FV.q {a b a' b' : tf_S} {nT k : Nat} (h : tf_FV a b nT k) (E : tf_Eq a b a' b') : tf_FV a' b' nT k := by
  unfold tf_FV tf_pb
  rw [E.1 12 (by omega), E.1 17 (by omega), E.1 18 (by omega), E.1 19 (by omega), E.1 20 (by omega), E.2.1 11 (by omega), E.2.1 12 (by omega), E.2.1 13 (by omega), E.2.1 14 (by omega)]; exact h
theorem tf_OV.q {a b a' b' : tf_S} {nC nT nM nF k : Nat} (h : tf_OV a b nC nT nM nF k) (E : tf_Eq a b a' b') : tf_OV a' b' nC nT nM nF k := by
  unfold tf_OV
  rw [E.1 7 (by omega), E.1 12 (by omega), E.1 18 (by omega), E.1 21 (by omega), E.1 22 (by omega), E.1 23 (by omega), E.1 24 (by omega), E.1 25 (by omega), E.1 26 (by omega), E.2.1 18 (by omega), E.2.1 19 (by omega), E.2.1 20 (by omega), E.2.1 21 (by omega), E.2.1 22 (by omega), E.2.1 23 (by omega)]; exact h
set_option maxHeartbeats 1000000 in
theorem tf_flow_step {σx σm : tf_S} {nC nT nM nF nO k : Nat} (L : tf_Rl σx σm nC nT nM nF nO) (hk : k < nO) : ∃ (r : Int32) (σx' σm' : tf_S) (nT' : Nat), tf_Rl σx' σm' nC nT' nM nF nO ∧
    (∀ n y, fX6_flow_4 (n + 1) σx y (nI k) = fX6_flow_4 n σx' (if r = -1 then y else y + 1) (nI (k + 1))) ∧ (∀ n y, fX7_flow_4 (n + 1) σm y (nI k) = fX7_flow_4 n σm' (if r = -1 then y else y + 1) (nI (k + 1))) := by
  obtain ⟨W, T, ⟨x2, m11, hM⟩, Mv, ⟨x3, m14, hF⟩, Fv, ⟨x4, m24, hO⟩, O, R⟩ := L
  have jk : tf_inb (nI k) 24 = true := tf_ib (show k < 24 by omega) (by decide)
  have ck : (nI k).toNatClampNeg = k := nI_clamp (by omega)
  have nle : ¬ nI nO ≤ nI k := nI_ge hk (by omega)
  -- the reference first makes its two marks
  have E0 : tf_Eq σx σm σx (tf_wr (tf_wr σm 26 k 0) 0 20 0) := ⟨fun _ _ => rfl, fun c hc => by rw [tf_wr_o _ _ _ (by omega), tf_wr_o _ _ _ (by omega)], fun j hj => by rw [tf_wr_s, pk_un hj, tf_wr_o _ _ _ (by decide)]⟩
  have z26 : tf_wr (tf_wr σm 26 k 0) 0 20 0 26 k = 0 := by rw [tf_wr_o _ _ _ (by decide), tf_wr_s, pk_us]
  have Rj : ∀ j, j ≠ k → tf_RV σx σm nT j → tf_RV σx (tf_wr (tf_wr σm 26 k 0) 0 20 0) nT j := fun j hj h => by
    unfold tf_RV
    rw [tf_wr_o _ _ _ (show 24 ≠ 0 by decide), tf_wr_o _ _ _ (show 24 ≠ 26 by decide), tf_wr_o _ _ _ (show 25 ≠ 0 by decide), tf_wr_o _ _ _ (show 25 ≠ 26 by decide), tf_wr_o _ _ _ (show 27 ≠ 0 by decide), tf_wr_o _ _ _ (show 27 ≠ 26 by decide), tf_wr_o _ _ _ (show 26 ≠ 0 by decide), tf_wr_s, pk_un hj]
    exact h
  have MX : ∀ n y, fX7_flow_4 (n + 1) σm y (nI k) = (fX7_work (tf_wr (tf_wr σm 26 k 0) 0 20 0) (nI k)).bind fun u5 => tf_gl (u5.1) fun v7 => if tf_inb (nI k) 24 = true then (tf_gl (tf_wr u5.2 24 (nI k).toNatClampNeg v7) fun s9 => if v7 = (-1 : Int32) then (fX7_flow_55 (fX7_flow_4 n) s9 y (nI k) v7 (s9 0 20) (nI k)) else (fX7_flow_55 (fX7_flow_4 n) s9 y (nI k) v7 (0 : Int32) (nI k))) else none := fun n y => by
    rw [fX7_flow_4, m24, if_neg nle, if_pos jk, tf_gle, tf_gle, ck]
  generalize tf_wr (tf_wr σm 26 k 0) 0 20 0 = τ at E0 z26 Rj MX
  obtain ⟨kd, r, sx, sm, h8, ek, mk, ex, em, n1, W1, T1, l1, H1, K1, g5, g6, o⟩ := tf_what_sim (W.q E0) (T.q E0) (show k < 24 by omega) hM hF (fun m hm => (Mv m hm).q E0) (fun f hf => (Fv f hf).q E0) ((O k hk).q E0) (fun j hj => Rj j (by omega) (R j (by omega))) z26
  have hn1 := W1.1.2.2.2.2.2
  have s21 : sx 21 k = nI kd := by rw [H1.k (by omega)]; exact ek
  have t18 : sm 18 k = nI kd := by rw [K1.k (by omega)]; exact mk
  have KX := keepX_eq (s := sx) (k := k) (r := r) (by omega) s21 h8 g6
  have t : ∃ t, t = sx 5 4 ∧ ∀ n y, fX7_flow_4 (n + 1) σm y (nI k) = fX7_flow_4 n (tf_km sm k r t (tf_kb kd r (tf_bM sm)).1 (tf_kb kd r (tf_bM sm)).2) (if r = -1 then y else y + 1) (nI (k + 1)) := by
    rcases o with ⟨o1, o2⟩ | ⟨q, q1, q2, q3, q4, q5⟩
    · refine ⟨sm 0 20, o2.symm, fun n y => ?_⟩
      rw [MX, em, tf_bse]
      dsimp only
      rw [tf_gle, if_pos jk, tf_gle, if_pos o1, ck, flow55 (by omega) t18 h8, tf_wr_o _ _ _ (show 0 ≠ 24 by decide)]
    · refine ⟨0, q4.symm, fun n y => ?_⟩
      rw [MX, em, tf_bse]
      dsimp only
      rw [tf_gle, if_pos jk, tf_gle, if_neg (by rw [q2]; exact tf_m1ne q (by omega)), ck, flow55 (by omega) t18 h8]
  obtain ⟨t, te, MY⟩ := t
  have bb : tf_kb kd r (tf_bX sx) = tf_kb kd r (tf_bM sm) := by
    unfold tf_kb
    rcases o with ⟨o1, o2⟩ | ⟨q, q1, q2, q3, q4, q5⟩
    · rw [if_pos o1, if_pos o1]
    · by_cases p : kd = 1 ∨ kd = 2 ∨ kd = 5
      · rw [q5 p]
      · rw [if_neg p, if_neg p]
  refine ⟨r, tf_kx sx k r (sx 5 4) (sx 5 5) (tf_kb kd r (tf_bX sx)).1 (tf_kb kd r (tf_bX sx)).2, tf_km sm k r t (tf_kb kd r (tf_bM sm)).1 (tf_kb kd r (tf_bM sm)).2, n1, ?_, fun n y => ?_, MY⟩
  · rw [bb]
    generalize (tf_kb kd r (tf_bM sm)) = b
    have E1 : tf_Eq sx sm (tf_kx sx k r (sx 5 4) (sx 5 5) b.1 b.2) (tf_km sm k r t b.1 b.2) := ⟨fun c hc => tf_kx_o _ _ _ _ _ _ _ (by omega), fun c hc => tf_km_o _ _ _ _ _ _ (by omega), fun j _ => by rw [tf_km_o _ _ _ _ _ _ (by omega)]⟩
    refine ⟨W1.q E1, T1.q E1, ⟨?_, ?_, hM⟩, fun m hm => (((Mv m hm).q E0).K H1 K1 l1).q E1, ⟨?_, ?_, hF⟩, fun f hf => (((Fv f hf).q E0).K H1 K1 l1).q E1, ⟨?_, ?_, hO⟩, fun j hj => (((O j hj).q E0).up H1 K1 l1).q E1, fun j hj => ?_⟩
    · rw [E1.1 2 (by omega), H1.k (by omega)]; exact x2
    · rw [E1.2.2 11 (by decide), K1.2.1 11 (by decide) (by decide) (by decide) (by decide), E0.2.2 11 (by decide)]; exact m11
    · rw [E1.1 3 (by omega), H1.k (by omega)]; exact x3
    · rw [E1.2.2 14 (by decide), K1.2.1 14 (by decide) (by decide) (by decide) (by decide), E0.2.2 14 (by decide)]; exact m14
    · rw [E1.1 4 (by omega), H1.k (by omega)]; exact x4
    · rw [E1.2.2 24 (by decide), K1.2.1 24 (by decide) (by decide) (by decide) (by decide), E0.2.2 24 (by decide)]; exact m24
    · unfold tf_RV
      rw [tf_kx_o sx k r _ _ _ _ (c := 12) (by omega), tf_km_o sm k r _ _ _ (c := 26) (by omega)]
      by_cases e : j = k
      · subst e
        obtain ⟨u1, u2, u3, u4, u5⟩ := tf_kx_y sx j r (sx 5 4) (sx 5 5) b.1 b.2
        obtain ⟨v1, v2, v3, v4⟩ := tf_km_y sm j r t b.1 b.2
        rw [u1, u2, u3, u4, u5, v1, v2, v3, v4]
        refine ⟨rfl, ?_, te.symm, g5, g6, rfl, rfl⟩
        exact o.imp (fun q => q.1) (fun ⟨q, q1, q2, q3, _, _⟩ => ⟨q, q1, q2, q3⟩)
      · obtain ⟨u1, u2, u3, u4, u5⟩ := tf_kx_n sx r (sx 5 4) (sx 5 5) b.1 b.2 e
        obtain ⟨v1, v2, v3, v4⟩ := tf_km_n sm r t b.1 b.2 e
        rw [u1, u2, u3, u4, u5, v1, v2, v3, v4]
        exact (Rj j e (R j hj)).up H1 K1 e l1
  · rw [fX6_flow_4, x4, if_neg nle, ex, tf_bse]
    dsimp only
    rw [tf_gle, KX, tf_bse, tf_gle, tf_gle, tf_gle, nI_1]
    by_cases r1 : r = -1
    · rw [if_pos r1, if_pos r1]
    · rw [if_neg r1, if_neg r1]
theorem tf_flow_rec {nC nM nF nO : Nat} : ∀ (d k : Nat) (σx σm : tf_S) (nT : Nat) (y : Int32) (n n' : Nat), k + d = nO → d < n → d < n' → tf_Rl σx σm nC nT nM nF nO → ∃ (c : Int32) (σx' σm' : tf_S) (nT' : Nat), fX6_flow_4 n σx y (nI k) = some (c, σx') ∧ fX7_flow_4 n' σm y (nI k) = some (c, σm') ∧ tf_Rl σx' σm' nC nT' nM nF nO := by
  intro d
  induction d with
  | zero =>
    intro k σx σm nT y n n' hk hn hn' L
    obtain ⟨-, -, -, -, -, -, ⟨x4, m24, hO⟩, -, -⟩ := id L
    obtain ⟨m, rfl⟩ : ∃ m, n = m + 1 := ⟨n - 1, by omega⟩
    obtain ⟨m', rfl⟩ : ∃ m, n' = m + 1 := ⟨n' - 1, by omega⟩
    refine ⟨y, σx, σm, nT, ?_, ?_, L⟩
    · rw [fX6_flow_4, x4, if_pos (nI_le (by omega) (by omega))]
    · rw [fX7_flow_4, m24, if_pos (nI_le (by omega) (by omega))]
  | succ d ih =>
    intro k σx σm nT y n n' hk hn hn' L
    obtain ⟨m, rfl⟩ : ∃ m, n = m + 1 := ⟨n - 1, by omega⟩
    obtain ⟨m', rfl⟩ : ∃ m, n' = m + 1 := ⟨n' - 1, by omega⟩
    obtain ⟨r, sx, sm, n1, L1, ex, em⟩ := tf_flow_step (k := k) L (by omega)
    rw [ex, em]
    exact ih (k + 1) sx sm n1 _ m m' (by omega) (by omega) (by omega) L1
/-- FLOW, on both sides -/
theorem tf_flow_sim {σx σm : tf_S} {nC nT nM nF nO : Nat} (L : tf_Rl σx σm nC nT nM nF nO) : ∃ (c : Int32) (σx' σm' : tf_S) (nT' : Nat), fX6_flow σx = some (c, σx') ∧ fX7_flow σm = some (c, σm') ∧ tf_Rl σx' σm' nC nT' nM nF nO := by
  have hO : nO ≤ 24 := L.2.2.2.2.2.2.1.2.2
  unfold fX6_flow fX7_flow
  exact tf_flow_rec nO 0 σx σm nT 0 100000 100000 (by omega) (by omega) (by omega) L
