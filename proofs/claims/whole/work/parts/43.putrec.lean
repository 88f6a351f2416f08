/-! pure part 4: putting in, the whole of it -/
theorem tf_cnt_cg {σ σ' : tf_S} (t : Nat) (h : ∀ i, i < t → σ' 12 i = σ 12 i ∧ σ' 13 i = σ 13 i) : tf_cnt σ' t = tf_cnt σ t := by
  induction t with
  | zero => rfl
  | succ t ih => rw [tf_cnt, tf_cnt, ih (fun i hi => h i (by omega)), (h t (by omega)).1, (h t (by omega)).2]
theorem tf_J.up {fl : Prop} {T0 nC nT nT' : Nat} {σx σm σx' σm' : tf_S} (J : tf_J fl T0 nC nT σx σm) (W : tf_WF σx' nC nT') (T : tf_TM σx' σm' nC nT') (l : nT ≤ nT') (F : tf_Fx σx σx' nT) (e13 : σx' 13 = σx 13) (e7 : σm' 7 = σm 7) : tf_J fl T0 nC nT' σx' σm' := by
  obtain ⟨-, -, j3, j4, j5⟩ := J
  refine ⟨W, T, by omega, fun a ha hz => ?_, fun a ha hz => ?_⟩
  · rw [(F.2.2 a (by omega)).2.2.2] at hz
    rw [e13, e7]; exact j4 a ha hz
  · rw [(F.2.2 a (by omega)).2.2.2] at hz
    rw [e13, e7]
    obtain ⟨k1, k2⟩ := j5 a ha hz
    refine ⟨k1, k2.imp id (fun ⟨r, r1, r2, r3, r4, r5⟩ => ⟨r, r1, by omega, r3, fun q => ?_, fun q => ?_⟩)⟩
    · rw [(F.2.2 r r2).2.2.2]; exact r4 q
    · rw [(F.2.2 r r2).1, (F.2.2 a (by omega)).1]; exact r5 q
set_option maxHeartbeats 2000000 in
theorem tf_put_rec {x1 x2 x3 : Int32} {fl : Prop} {T0 nC : Nat} : ∀ t, tf_PS x1 x2 x3 fl T0 nC t := by
  intro t
  induction t using Nat.strongRecOn with
  | ind t IH =>
  intro σx σm nT h g st J h6 ht ho hp hb0 hb1 h1 hh g1 gg eg htx htm hst
  have hn := J.1.1.2.2.2.2.2
  have hT0 := J.2.2.1
  obtain ⟨c, hc, e9, ar, ew⟩ := J.1.2.2.2.2.2.1 t h6 (by omega)
  have ax := ar.args
  obtain ⟨tm3, tm4, tm5, tm6⟩ := J.2.1.2.2.2 t (by omega)
  have hpm : σm 7 t = -1 := by rw [← (J.2.2.2.2 t ht ho).1]; exact hp
  have hom : σm 6 t ≠ 0 := by rw [tm6]; exact ho
  obtain ⟨σ1, τ1, n1, kx1, km1, J1, l1, M1, K1, res1⟩ := tf_phase IH J h6 ht (σx 10 t) ax.1 (fun a e ha q => hb0 ((tf_bits J.1 h6 (by omega) ha (Or.inl e)).1 q)) (fun a e ha q => hb1 ((tf_bits J.1 h6 (by omega) ha (Or.inl e)).2 q)) h1 hh g1 gg eg htx hst
    (fun a a6 ha e p => awi_1 (by omega) a6 (by omega) e p) (fun a a6 ha e p m => stepM_push1 g1 (by omega) eg htm h6 (by omega) hom hpm a6 (by omega) (tm4.trans e) p m)
  rcases res1 with ⟨r1x, r1m, e1g, k1x, k1m, f1⟩ | ⟨k1x, k1m, f1⟩
  case inr => exact ⟨σ1, τ1, n1, kx1, km1, J1, l1, M1, fun b hb => K1 b (by omega), Or.inr ⟨by omega, by omega, f1⟩⟩
  obtain ⟨a9, a10, a11, a12⟩ := M1.1.2.2 t (by omega)
  have hn1 := J1.1.1.2.2.2.2.2
  have ho1 : σ1 12 t ≠ 0 := by rw [a12]; exact ho
  have hp1 : σ1 13 t = -1 := by rw [(K1 t (Nat.le_refl _)).1]; exact hp
  have hpm1 : τ1 7 t = -1 := by rw [(K1 t (Nat.le_refl _)).2]; exact hpm
  obtain ⟨um3, um4, um5, um6⟩ := J1.2.1.2.2.2 t (by omega)
  have hom1 : τ1 6 t ≠ 0 := by rw [um6]; exact ho1
  have hb01 : tf_b0 (σ1 12 t) → σ1 13 4 ≠ -1 := by
    rw [a12]; intro q
    rw [M1.2.2.2.2.1 4 (by omega) (hb0 q)]; exact hb0 q
  have hb11 : tf_b1 (σ1 12 t) → σ1 13 5 ≠ -1 := by
    rw [a12]; intro q
    rw [M1.2.2.2.2.1 5 (by omega) (hb1 q)]; exact hb1 q
  have htx1 : σ1 14 (h - 1) = nI t := by rw [M1.2.2.1 (h - 1) (by omega)]; exact htx
  have htm1 : τ1 8 (g - 1) = nI t := by rw [M1.2.2.2.1 (g - 1) (by omega)]; exact htm
  rw [← a10] at r1x r1m
  have ax1 : σ1 10 t = -1 ∨ ∃ a, 4 ≤ a ∧ a < t ∧ σ1 10 t = nI a := by rw [a10]; exact ax.1
  have ax2 : σ1 11 t = -1 ∨ ∃ a, 4 ≤ a ∧ a < t ∧ σ1 11 t = nI a := by rw [a11]; exact ax.2
  obtain ⟨σ2, τ2, n2, kx2, km2, J2, l2, M2, K2, res2⟩ := tf_phase IH J1 h6 ht (σ1 11 t) ax2 (fun a e ha q => hb01 ((tf_bits J1.1 h6 (by omega) ha (Or.inr e)).1 q)) (fun a e ha q => hb11 ((tf_bits J1.1 h6 (by omega) ha (Or.inr e)).2 q)) h1 hh g1 gg e1g htx1 (show st + kx1 + 2 * tf_cnt σ1 t + 1 ≤ 160 by omega)
    (fun a a6 ha e p => (awi_r (by omega) r1x).trans (awi_33p (by omega) a6 (by omega) e p)) (fun a a6 ha e p m => stepM_push2 g1 (by omega) e1g htm1 h6 (by omega) hom1 hpm1 (by rw [um4]; exact r1m) a6 (by omega) (um5.trans e) p m)
  have M12 := M1.tr M2 l1 (Nat.le_refl _) (Nat.le_refl _)
  have K12 : ∀ b, t < b → σ2 13 b = σx 13 b ∧ τ2 7 b = σm 7 b := fun b hb => ⟨(K2 b (by omega)).1.trans (K1 b (by omega)).1, (K2 b (by omega)).2.trans (K1 b (by omega)).2⟩
  rcases res2 with ⟨r2x, r2m, e2g, k2x, k2m, f2⟩ | ⟨k2x, k2m, f2⟩
  case inr =>
    refine ⟨σ2, τ2, n2, kx1 + kx2, km1 + km2, J2, by omega, M12, K12, Or.inr ⟨by omega, by omega, fun m => ⟨?_, ?_⟩⟩⟩
    · rw [show m + (kx1 + kx2) = m + kx2 + kx1 by omega, (f1 (m + kx2)).1, (f2 m).1]
    · rw [show m + (km1 + km2) = m + km2 + km1 by omega, (f1 (m + km2)).2, (f2 m).2]
  obtain ⟨b9, b10, b11, b12⟩ := M2.1.2.2 t (by omega)
  have hn2 := J2.1.1.2.2.2.2.2
  have ho2 : σ2 12 t ≠ 0 := by rw [b12]; exact ho1
  have hpm2 : τ2 7 t = -1 := by rw [(K2 t (Nat.le_refl _)).2]; exact hpm1
  obtain ⟨vm3, vm4, vm5, vm6⟩ := J2.2.1.2.2.2 t (by omega)
  have hom2 : τ2 6 t ≠ 0 := by rw [vm6]; exact ho2
  have hb02 : tf_b0 (σ2 12 t) → σ2 13 4 ≠ -1 := by
    rw [b12]; intro q
    rw [M2.2.2.2.2.1 4 (by omega) (hb01 q)]; exact hb01 q
  have hb12 : tf_b1 (σ2 12 t) → σ2 13 5 ≠ -1 := by
    rw [b12]; intro q
    rw [M2.2.2.2.2.1 5 (by omega) (hb11 q)]; exact hb11 q
  have htx2 : σ2 14 (h - 1) = nI t := by rw [M2.2.2.1 (h - 1) (by omega)]; exact htx1
  have htm2 : τ2 8 (g - 1) = nI t := by rw [M2.2.2.2.1 (g - 1) (by omega)]; exact htm1
  have q1x : tf_rdy (σ2 13) (σ2 10 t) := by rw [b10]; exact r1x.mono ax1 T0 (by omega) (by omega) M2.2.2.2.2.1
  have q1m : tf_rdy (τ2 7) (σ2 10 t) := by rw [b10]; exact r1m.mono ax1 T0 (by omega) (by omega) M2.2.2.2.2.2
  rw [← b11] at r2x r2m
  have sX := fun m => stepX_make (x1 := x1) (x2 := x2) (x3 := x3) h1 (show h ≤ 80 by omega) (show st + kx1 + kx2 < 160 by omega) (show t < 80 by omega) htx2 ((awi_r (by omega) q1x).trans (awi_33 (by omega) r2x)) q1x.ok r2x.ok m
  have sM := fun m => stepM_make (x1 := x1) (x2 := x2) (x3 := x3) g1 (show g < 200 by omega) e2g htm2 h6 (show t < 80 by omega) hom2 hpm2 (by rw [vm4]; exact q1m) (by rw [vm5]; exact r2m) m
  have bx1 : σ2 10 t = -1 ∨ ∃ a, 4 ≤ a ∧ a < t ∧ σ2 10 t = nI a := by rw [b10]; exact ax1
  have bx2 : σ2 11 t = -1 ∨ ∃ a, 4 ≤ a ∧ a < t ∧ σ2 11 t = nI a := by rw [b11]; exact ax2
  obtain ⟨i1, i1v⟩ := tf_im_sim J2 h6 ht bx1 q1m hb02 hb12 (Or.inl rfl)
  obtain ⟨i2, i2v⟩ := tf_im_sim J2 h6 ht bx2 r2m hb02 hb12 (Or.inr rfl)
  rw [vm3, vm4, vm5, ← i1, ← i2] at sM
  have c9 : σ2 9 t = nI c := by rw [b9, a9]; exact e9
  have e7 : σ2 7 = σx 7 := (M12.1.1 7 (by decide) (by decide) (by decide) (by decide) (by decide) (by decide) (by decide))
  rw [c9] at sX sM
  have e10 : σ2 10 t = σx 10 t := b10.trans a10
  have e11 : σ2 11 t = σx 11 t := b11.trans a11
  generalize hu1 : tf_im (σ2 13) (σ2 10 t) = u1 at sX sM i1v
  generalize hu2 : tf_im (σ2 13) (σ2 11 t) = u2 at sX sM i2v
  have AR : tf_AR σ2 c u1 u2 n2 := by
    have g1 : σ2 10 t = -1 → u1 = -1 := fun q => by rw [← hu1, q]; rfl
    have g2 : σ2 11 t = -1 → u2 = -1 := fun q => by rw [← hu2, q]; rfl
    have g3 : (∃ a, 4 ≤ a ∧ a < t ∧ σ2 10 t = nI a) → ∃ a, 4 ≤ a ∧ a < n2 ∧ u1 = nI a := fun ⟨a, q1, q2, q3⟩ => by
      rcases i1v with ⟨v1, -⟩ | ⟨r, v1, v2, v3, -⟩
      · exact absurd (q3.symm.trans v1) (tf_m1ne a (by omega))
      · exact ⟨r, v1, v2, v3⟩
    have g4 : (∃ a, 4 ≤ a ∧ a < t ∧ σ2 11 t = nI a) → ∃ a, 4 ≤ a ∧ a < n2 ∧ u2 = nI a := fun ⟨a, q1, q2, q3⟩ => by
      rcases i2v with ⟨v1, -⟩ | ⟨r, v1, v2, v3, -⟩
      · exact absurd (q3.symm.trans v1) (tf_m1ne a (by omega))
      · exact ⟨r, v1, v2, v3⟩
    rw [← e10, ← e11] at ar
    rcases ar with ⟨q1, q2, q3⟩ | ⟨q1, q2, q3⟩ | ⟨q1, q2, q3⟩
    · exact Or.inl ⟨by rw [e7]; exact q1, g1 q2, g2 q3⟩
    · exact Or.inr (Or.inl ⟨by rw [e7]; exact q1, g3 q2, g2 q3⟩)
    · exact Or.inr (Or.inr ⟨by rw [e7]; exact q1, g3 q2, g4 q3⟩)
  obtain ⟨r, σ3, τ3, n3, mx, mm, W3, T3, l3, F3, G3, e13, e14, em7, em8, em10, rr⟩ := tf_make_sim J2.1 J2.2.1 hc AR
  rw [mx] at sX
  rw [mm] at sM
  have sX : ∀ m, fX4_putIn_82 x1 x2 x3 (m + 1) σ2 (nI h) (nI (st + kx1 + kx2)) = if r = -3 then some (-3, σ3) else fX4_putIn_82 x1 x2 x3 m (tf_wr σ3 13 t r) (nI (h - 1)) (nI (st + kx1 + kx2 + 1)) := sX
  have sM : ∀ m, fX7_put_48 x1 x2 x3 (m + 1) τ2 = if r = -3 then some (-3, τ3) else fX7_put_48 x1 x2 x3 m (tf_wr (tf_wr τ3 7 t r) 0 10 (τ3 0 10 - 1)) := sM
  have J3 : tf_J fl T0 nC n3 σ3 τ3 := J2.up W3 T3 l3 F3 e13 em7
  have M23 : tf_Mv T0 n2 h g σ2 τ2 σ3 τ3 := ⟨F3, G3, fun i _ => by rw [e14], fun i _ => by rw [em8], fun i _ _ => by rw [e13], fun i _ _ => by rw [em7]⟩
  have M3 := M12.tr M23 (by omega) (Nat.le_refl _) (Nat.le_refl _)
  rcases rr with rr | ⟨q, q6, qn, qr, q9, q10, q11⟩
  · refine ⟨σ3, τ3, n3, kx1 + kx2 + 1, km1 + km2 + 1, J3, by omega, M3, fun b hb => ?_, Or.inr ⟨by omega, by omega, fun m => ⟨?_, ?_⟩⟩⟩
    · rw [e13, em7]; exact K12 b hb
    · rw [show m + (kx1 + kx2 + 1) = m + 1 + kx2 + kx1 by omega, (f1 _).1, (f2 _).1, sX, if_pos rr]
    · rw [show m + (km1 + km2 + 1) = m + 1 + km2 + km1 by omega, (f1 _).2, (f2 _).2, sM, if_pos rr]
  · have r3 : ¬ r = -3 := fun e => by
      rw [qr] at e
      have hz := nI_pos' (n := q) (by have := W3.1.2.2.2.2.2; omega)
      rw [e] at hz
      exact absurd hz (by decide)
    have eg3 : τ3 0 10 - 1 = nI (g - 1) := by rw [em10, e2g, tf_pred g1]
    rw [eg3] at sM
    have o13 : tf_wr σ3 13 t r 13 = upd (σ3 13) t r := tf_wr_s _ _ _ _
    have oo : ∀ k, k ≠ 13 → tf_wr σ3 13 t r k = σ3 k := fun k hk => tf_wr_o _ _ _ hk
    have p7 : tf_wr (tf_wr τ3 7 t r) 0 10 (nI (g - 1)) 7 = upd (τ3 7) t r := by rw [tf_wr_o _ _ _ (by decide), tf_wr_s]
    have p10 : tf_wr (tf_wr τ3 7 t r) 0 10 (nI (g - 1)) 0 10 = nI (g - 1) := by rw [tf_wr_s, pk_us]
    have p0 : ∀ j, j ≠ 10 → tf_wr (tf_wr τ3 7 t r) 0 10 (nI (g - 1)) 0 j = τ3 0 j := fun j hj => by rw [tf_wr_s, pk_un hj, tf_wr_o _ _ _ (by decide)]
    have po : ∀ k, k ≠ 0 → k ≠ 7 → tf_wr (tf_wr τ3 7 t r) 0 10 (nI (g - 1)) k = τ3 k := fun k k0 k7 => by rw [tf_wr_o _ _ _ k0, tf_wr_o _ _ _ k7]
    generalize tf_wr σ3 13 t r = σ4 at sX o13 oo
    generalize tf_wr (tf_wr τ3 7 t r) 0 10 (nI (g - 1)) = τ4 at sM p7 p10 p0 po
    have ho3 : σ3 12 t ≠ 0 := by rw [(F3.2.2 t (by omega)).2.2.2]; exact ho2
    have cl : fl → σ3 12 q = 0 := by
      intro hfl
      obtain ⟨c', -, -, -, w'⟩ := W3.2.2.2.2.2.1 q q6 qn
      have z1 : tf_wi σ3 u1 = 0 := by
        rcases i1v with ⟨-, v⟩ | ⟨r1, v1, v2, v3, v4⟩
        · rw [v, tf_wi_n]
        · rw [v3, tf_wi_I _ (by omega), (F3.2.2 r1 v2).2.2.2]; exact v4 hfl
      have z2 : tf_wi σ3 u2 = 0 := by
        rcases i2v with ⟨-, v⟩ | ⟨r1, v1, v2, v3, v4⟩
        · rw [v, tf_wi_n]
        · rw [v3, tf_wi_I _ (by omega), (F3.2.2 r1 v2).2.2.2]; exact v4 hfl
      rw [w', q10, q11, z1, z2]; decide
    have J4 : tf_J fl T0 nC n3 σ4 τ4 := by
      refine ⟨tf_WF_cong W3 (oo 1 (by decide)) (oo 7 (by decide)) (oo 8 (by decide)) (oo 9 (by decide)) (oo 10 (by decide)) (oo 11 (by decide)) (oo 12 (by decide)), ?_, J3.2.2.1, fun b hb hz => ?_, fun b hb hz => ?_⟩
      · obtain ⟨m1, m2, m3, m4⟩ := T3
        refine ⟨(p0 0 (by decide)).trans m1, (p0 3 (by decide)).trans m2, fun k hk => ?_, fun k hk => ?_⟩
        · rw [po 1 (by decide) (by decide), po 2 (by decide) (by decide), oo 7 (by decide), oo 8 (by decide)]; exact m3 k hk
        · rw [po 3 (by decide) (by decide), po 4 (by decide) (by decide), po 5 (by decide) (by decide), po 6 (by decide) (by decide), oo 9 (by decide), oo 10 (by decide), oo 11 (by decide), oo 12 (by decide)]; exact m4 k hk
      · rw [oo 12 (by decide)] at hz
        have hne : b ≠ t := fun e => ho3 (by rw [← e]; exact hz)
        rw [o13, p7, pk_un hne, pk_un hne]; exact J3.2.2.2.1 b hb hz
      · rw [oo 12 (by decide)] at hz ⊢
        rw [oo 9 (by decide), o13, p7]
        by_cases e : b = t
        · subst e
          rw [pk_us, pk_us]
          exact ⟨rfl, Or.inr ⟨q, by omega, qn, qr, cl, fun _ => ⟨q6, by rw [q9, (F3.2.2 b (by omega)).1, c9]⟩⟩⟩
        · rw [pk_un e, pk_un e]; exact J3.2.2.2.2 b hb hz
    have hpt3 : σ3 13 t = -1 := by rw [e13, (K2 t (Nat.le_refl _)).1]; exact hp1
    have hmt3 : τ3 7 t = -1 := by rw [em7]; exact hpm2
    have M34 : tf_Mv T0 n3 h g σ3 τ3 σ4 τ4 := by
      refine ⟨⟨fun k _ _ _ _ _ k13 _ => oo k k13, by rw [oo 1 (by decide)], fun b hb => ?_⟩, ⟨fun k k0 _ _ _ _ k7 _ => po k k0 k7, fun j _ j10 => p0 j j10⟩, fun i hi => by rw [oo 14 (by decide)], fun i hi => by rw [po 8 (by decide) (by decide)], fun b hb hne => ?_, fun b hb hne => ?_⟩
      · rw [oo 9 (by decide), oo 10 (by decide), oo 11 (by decide), oo 12 (by decide)]; exact ⟨rfl, rfl, rfl, rfl⟩
      · have : b ≠ t := fun e => hne (by rw [e]; exact hpt3)
        rw [o13, pk_un this]
      · have : b ≠ t := fun e => hne (by rw [e]; exact hmt3)
        rw [p7, pk_un this]
    have cc : tf_cnt σ4 t = tf_cnt σ2 t := tf_cnt_cg t (fun i hi => ⟨by rw [oo 12 (by decide), (F3.2.2 i (by omega)).2.2.2], by rw [o13, pk_un (by omega), e13]⟩)
    refine ⟨σ4, τ4, n3, kx1 + kx2 + 1, km1 + km2 + 1, J4, by omega, M3.tr M34 (by omega) (Nat.le_refl _) (Nat.le_refl _), fun b hb => ?_, Or.inl ⟨?_, p10, by omega, by omega, fun m => ⟨?_, ?_⟩⟩⟩
    · rw [o13, p7, pk_un (by omega), pk_un (by omega), e13, em7]; exact K12 b hb
    · rw [o13, pk_us, qr]; exact tf_m1ne q (by have := W3.1.2.2.2.2.2; omega)
    · rw [show m + (kx1 + kx2 + 1) = m + 1 + kx2 + kx1 by omega, (f1 _).1, (f2 _).1, sX, if_neg r3, show st + kx1 + kx2 + 1 = st + (kx1 + kx2 + 1) by omega]
    · rw [show m + (km1 + km2 + 1) = m + 1 + km2 + km1 by omega, (f1 _).2, (f2 _).2, sM, if_neg r3]
