/-! pure part 2: putting in, step by step -/
def tf_rdy (f : Nat → Int32) (x : Int32) : Prop := x = -1 ∨ ∃ a, a < 80 ∧ x = nI a ∧ (a < 6 ∨ f a ≠ -1)
theorem tf_m1ne (a : Nat) (h : a < 2 ^ 31) : nI a ≠ -1 := by
  intro e
  have := nI_pos' h
  rw [e] at this
  exact tf_neg1 this
theorem awi_33 {σ : tf_S} {t : Nat} (ht : t < 80) (hr : tf_rdy (σ 13) (σ 11 t)) : fX4_argumentWithoutImage_33 (nI t) σ = some (-1, σ) := by
  unfold fX4_argumentWithoutImage_33
  simp only [tf_ib (n := 80) ht (by decide), if_true, nI_clamp (show t < 2 ^ 31 by omega)]
  rcases hr with e | ⟨a, ha, e, hp⟩
  · rw [e, if_pos (by decide)]
  · rw [e]
    by_cases h6 : a < 6
    · rw [if_pos (show nI a < (6 : Int32) from nI_lt (b := 6) h6 (by decide))]
    · rw [if_neg (show ¬ nI a < (6 : Int32) from nI_nlt (b := 6) (by omega) (by omega))]
      simp only [tf_ib (n := 80) ha (by decide), if_true, nI_clamp (show a < 2 ^ 31 by omega)]
      rw [if_neg (hp.resolve_left h6)]
theorem awi_33p {σ : tf_S} {t b : Nat} (ht : t < 80) (hb6 : 6 ≤ b) (hb : b < 80) (e : σ 11 t = nI b) (hp : σ 13 b = -1) : fX4_argumentWithoutImage_33 (nI t) σ = some (nI b, σ) := by
  unfold fX4_argumentWithoutImage_33
  simp only [tf_ib (n := 80) ht (by decide), if_true, nI_clamp (show t < 2 ^ 31 by omega)]
  rw [e, if_neg (show ¬ nI b < (6 : Int32) from nI_nlt (b := 6) (by omega) (by omega))]
  simp only [tf_ib (n := 80) hb (by decide), if_true, nI_clamp (show b < 2 ^ 31 by omega), hp]
theorem awi_1 {σ : tf_S} {t a : Nat} (ht : t < 80) (ha6 : 6 ≤ a) (ha : a < 80) (e : σ 10 t = nI a) (hp : σ 13 a = -1) : fX4_argumentWithoutImage σ (nI t) = some (nI a, σ) := by
  unfold fX4_argumentWithoutImage
  simp only [tf_ib (n := 80) ht (by decide), if_true, nI_clamp (show t < 2 ^ 31 by omega)]
  rw [e, if_neg (show ¬ nI a < (6 : Int32) from nI_nlt (b := 6) (by omega) (by omega))]
  simp only [tf_ib (n := 80) ha (by decide), if_true, nI_clamp (show a < 2 ^ 31 by omega), hp]
theorem awi_r {σ : tf_S} {t : Nat} (ht : t < 80) (hr : tf_rdy (σ 13) (σ 10 t)) : fX4_argumentWithoutImage σ (nI t) = fX4_argumentWithoutImage_33 (nI t) σ := by
  unfold fX4_argumentWithoutImage
  simp only [tf_ib (n := 80) ht (by decide), if_true, nI_clamp (show t < 2 ^ 31 by omega)]
  rcases hr with e | ⟨a, ha, e, hp⟩
  · rw [e, if_pos (by decide)]
  · rw [e]
    by_cases h6 : a < 6
    · rw [if_pos (show nI a < (6 : Int32) from nI_lt (b := 6) h6 (by decide))]
    · rw [if_neg (show ¬ nI a < (6 : Int32) from nI_nlt (b := 6) (by omega) (by omega))]
      simp only [tf_ib (n := 80) ha (by decide), if_true, nI_clamp (show a < 2 ^ 31 by omega)]
      rw [if_neg (hp.resolve_left h6)]
theorem tf_pred {h : Nat} (h1 : 1 ≤ h) : nI h - 1 = nI (h - 1) := by
  obtain ⟨k, rfl⟩ : ∃ k, h = k + 1 := ⟨h - 1, by omega⟩
  rw [nI_pred]; rfl
theorem tf_pred' {h : Nat} (h1 : 1 ≤ h) : nI h + (-1) = nI (h - 1) := by
  obtain ⟨k, rfl⟩ : ∃ k, h = k + 1 := ⟨h - 1, by omega⟩
  rw [pk_m1]; rfl
/-- one step of the class's loop: it pushes -/
theorem stepX_push {σ : tf_S} {x1 x2 x3 : Int32} {t a h st : Nat} (h1 : 1 ≤ h) (hh : h < 80) (hs : st < 160) (ht : t < 80) (ha : a < 80) (etop : σ 14 (h - 1) = nI t) (ea : fX4_argumentWithoutImage σ (nI t) = some (nI a, σ)) (m : Nat) :
    fX4_putIn_82 x1 x2 x3 (m + 1) σ (nI h) (nI st) = fX4_putIn_82 x1 x2 x3 m (tf_wr σ 14 h (nI a)) (nI (h + 1)) (nI (st + 1)) := by
  rw [fX4_putIn_82, if_neg (show ¬ nI h ≤ 0 from nI_nle (by omega) (by omega)), if_neg (show ¬ (160 : Int32) ≤ nI st from nI_ge (b := 160) hs (by decide)), tf_pred h1]
  simp only [tf_ib (n := 80) (k := h - 1) (by omega) (by decide), if_true, nI_clamp (show h - 1 < 2 ^ 31 by omega), etop, tf_gl, ea, Option.bind]
  rw [if_neg (tf_m1ne a (by omega)), if_neg (show ¬ (80 : Int32) ≤ nI h from nI_ge (b := 80) hh (by decide))]
  simp only [tf_ib (n := 80) (k := h) (by omega) (by decide), if_true, nI_clamp (show h < 2 ^ 31 by omega), nI_1]
def tf_im (f : Nat → Int32) (x : Int32) : Int32 := if x = -1 then -1 else f x.toNatClampNeg
theorem imageOf_eq {σ : tf_S} {x : Int32} (h : tf_ok80 x) : fX4_imageOf σ x = some (tf_im (σ 13) x, σ) := by
  unfold fX4_imageOf tf_im
  rcases h with rfl | ⟨a, ha, rfl⟩
  · rfl
  · rw [if_neg (tf_m1ne a (by omega)), if_pos (tf_ib ha (by decide)), if_neg (tf_m1ne a (by omega))]
/-- .. it makes -/
theorem stepX_make {σ : tf_S} {x1 x2 x3 : Int32} {t h st : Nat} (h1 : 1 ≤ h) (hh : h ≤ 80) (hs : st < 160) (ht : t < 80) (etop : σ 14 (h - 1) = nI t) (ea : fX4_argumentWithoutImage σ (nI t) = some (-1, σ)) (o1 : tf_ok80 (σ 10 t)) (o2 : tf_ok80 (σ 11 t)) (m : Nat) :
    fX4_putIn_82 x1 x2 x3 (m + 1) σ (nI h) (nI st) = (fX4_make σ (σ 9 t) (tf_im (σ 13) (σ 10 t)) (tf_im (σ 13) (σ 11 t))).bind (fun u => if u.1 = -3 then some (-3, u.2) else fX4_putIn_82 x1 x2 x3 m (tf_wr u.2 13 t u.1) (nI (h - 1)) (nI (st + 1))) := by
  rw [fX4_putIn_82, if_neg (show ¬ nI h ≤ 0 from nI_nle (by omega) (by omega)), if_neg (show ¬ (160 : Int32) ≤ nI st from nI_ge (b := 160) hs (by decide)), tf_pred h1]
  simp only [tf_ib (n := 80) (k := h - 1) (by omega) (by decide), if_true, nI_clamp (show h - 1 < 2 ^ 31 by omega), etop, tf_gl, ea, Option.bind]
  unfold fX4_putIn_142
  simp only [tf_ib (n := 80) ht (by decide), if_true, nI_clamp (show t < 2 ^ 31 by omega), imageOf_eq o1, imageOf_eq o2, Option.bind, tf_gl, nI_1, tf_pred' h1]
/-- steps of the reference's loop -/
theorem stepM_top {σ : tf_S} {x1 x2 x3 : Int32} {t g : Nat} (g1 : 1 ≤ g) (gg : g < 200) (eh : σ 0 10 = nI g) (etop : σ 8 (g - 1) = nI t) (h6 : 6 ≤ t) (ht : t < 80) (ho : σ 6 t ≠ 0) (m : Nat) :
    fX7_put_48 x1 x2 x3 (m + 1) σ = fX7_put_99 x1 x2 x3 (fX7_put_48 x1 x2 x3 m) σ (nI t) := by
  have n4 : ¬ nI t = (4 : Int32) := fun e => by have := (nI_eq (a := t) (b := 4) (by omega) (by decide)).mp e; omega
  have n5 : ¬ nI t = (5 : Int32) := fun e => by have := (nI_eq (a := t) (b := 5) (by omega) (by decide)).mp e; omega
  rw [fX7_put_48, eh, if_neg (show ¬ nI g ≤ 0 from nI_nle (by omega) (by omega)), tf_pred g1]
  simp only [tf_ib (n := 200) (k := g - 1) (by omega) (by decide), if_true, nI_clamp (show g - 1 < 2 ^ 31 by omega), etop, tf_gl]
  rw [if_neg n4, if_neg n5]
  simp only [tf_ib (n := 80) ht (by decide), if_true, nI_clamp (show t < 2 ^ 31 by omega)]
  rw [if_neg ho]
theorem stepM_closed {σ : tf_S} {x1 x2 x3 : Int32} {t g : Nat} (g1 : 1 ≤ g) (gg : g < 200) (eh : σ 0 10 = nI g) (etop : σ 8 (g - 1) = nI t) (h4 : t ≠ 4) (h5 : t ≠ 5) (ht : t < 80) (hc : σ 6 t = 0) (m : Nat) :
    fX7_put_48 x1 x2 x3 (m + 1) σ = fX7_put_48 x1 x2 x3 m (tf_wr (tf_wr σ 7 t (nI t)) 0 10 (nI (g - 1))) := by
  have n4 : ¬ nI t = (4 : Int32) := fun e => by have := (nI_eq (a := t) (b := 4) (by omega) (by decide)).mp e; omega
  have n5 : ¬ nI t = (5 : Int32) := fun e => by have := (nI_eq (a := t) (b := 5) (by omega) (by decide)).mp e; omega
  rw [fX7_put_48, eh, if_neg (show ¬ nI g ≤ 0 from nI_nle (by omega) (by omega)), tf_pred g1]
  simp only [tf_ib (n := 200) (k := g - 1) (by omega) (by decide), if_true, nI_clamp (show g - 1 < 2 ^ 31 by omega), etop, tf_gl]
  rw [if_neg n4, if_neg n5]
  simp only [tf_ib (n := 80) ht (by decide), if_true, nI_clamp (show t < 2 ^ 31 by omega), hc]
  unfold fX7_put_99
  rw [if_neg n4, if_neg n5]
  simp only [tf_ib (n := 80) ht (by decide), if_true, nI_clamp (show t < 2 ^ 31 by omega), tf_wr_s, pk_us, tf_gl]
  rw [if_neg (tf_m1ne t (by omega)), tf_wr_o _ _ _ (by decide), eh, tf_pred g1]
theorem isOpen_r {σ : tf_S} {x : Int32} (hr : tf_rdy (σ 7) x) : fX7_isOpen σ x = some (0, σ) := by
  unfold fX7_isOpen
  rcases hr with rfl | ⟨a, ha, rfl, hp⟩
  · rw [if_pos (by decide)]
  · by_cases h6 : a < 6
    · rw [if_pos (show nI a ≤ (5 : Int32) from nI_le (b := 5) (by omega) (by decide))]
    · rw [if_neg (show ¬ nI a ≤ (5 : Int32) from nI_ge (a := 5) (b := a) (by omega) (by omega))]
      simp only [tf_ib (n := 80) ha (by decide), if_true, nI_clamp (show a < 2 ^ 31 by omega)]
      rw [if_neg (hp.resolve_left h6)]
theorem isOpen_p {σ : tf_S} {a : Nat} (h6 : 6 ≤ a) (ha : a < 80) (hp : σ 7 a = -1) : fX7_isOpen σ (nI a) = some (1, σ) := by
  unfold fX7_isOpen
  rw [if_neg (show ¬ nI a ≤ (5 : Int32) from nI_ge (a := 5) (b := a) (by omega) (by omega))]
  simp only [tf_ib (n := 80) ha (by decide), if_true, nI_clamp (show a < 2 ^ 31 by omega), hp]
def tf_psh (σ : tf_S) (g a : Nat) : tf_S := tf_wr (tf_wr σ 8 g (nI a)) 0 10 (nI (g + 1))
theorem push_eq {σ : tf_S} {g a : Nat} (gg : g < 200) (eh : σ 0 10 = nI g) : fX7_push σ (nI a) = some (tf_psh σ g a) := by
  unfold fX7_push tf_psh
  simp only [eh, tf_ib (n := 200) gg (by decide), if_true, nI_clamp (show g < 2 ^ 31 by omega), tf_gl]
  rw [tf_wr_o _ _ _ (by decide), eh, nI_1]
theorem stepM_push1 {σ : tf_S} {x1 x2 x3 : Int32} {t a g : Nat} (g1 : 1 ≤ g) (gg : g < 200) (eh : σ 0 10 = nI g) (etop : σ 8 (g - 1) = nI t) (h6 : 6 ≤ t) (ht : t < 80) (ho : σ 6 t ≠ 0) (hn : σ 7 t = -1) (a6 : 6 ≤ a) (ha : a < 80) (e : σ 4 t = nI a) (hp : σ 7 a = -1) (m : Nat) :
    fX7_put_48 x1 x2 x3 (m + 1) σ = fX7_put_48 x1 x2 x3 m (tf_psh σ g a) := by
  have n4 : ¬ nI t = (4 : Int32) := fun e => by have := (nI_eq (a := t) (b := 4) (by omega) (by decide)).mp e; omega
  have n5 : ¬ nI t = (5 : Int32) := fun e => by have := (nI_eq (a := t) (b := 5) (by omega) (by decide)).mp e; omega
  rw [stepM_top g1 gg eh etop h6 ht ho]
  unfold fX7_put_99
  rw [if_neg n4, if_neg n5]
  simp only [tf_ib (n := 80) ht (by decide), if_true, nI_clamp (show t < 2 ^ 31 by omega), hn, e, isOpen_p a6 ha hp, Option.bind]
  rw [if_neg (by decide), push_eq gg eh]
theorem stepM_push2 {σ : tf_S} {x1 x2 x3 : Int32} {t b g : Nat} (g1 : 1 ≤ g) (gg : g < 200) (eh : σ 0 10 = nI g) (etop : σ 8 (g - 1) = nI t) (h6 : 6 ≤ t) (ht : t < 80) (ho : σ 6 t ≠ 0) (hn : σ 7 t = -1) (hr : tf_rdy (σ 7) (σ 4 t)) (b6 : 6 ≤ b) (hb : b < 80) (e : σ 5 t = nI b) (hp : σ 7 b = -1) (m : Nat) :
    fX7_put_48 x1 x2 x3 (m + 1) σ = fX7_put_48 x1 x2 x3 m (tf_psh σ g b) := by
  have n4 : ¬ nI t = (4 : Int32) := fun e => by have := (nI_eq (a := t) (b := 4) (by omega) (by decide)).mp e; omega
  have n5 : ¬ nI t = (5 : Int32) := fun e => by have := (nI_eq (a := t) (b := 5) (by omega) (by decide)).mp e; omega
  rw [stepM_top g1 gg eh etop h6 ht ho]
  unfold fX7_put_99
  rw [if_neg n4, if_neg n5]
  simp only [tf_ib (n := 80) ht (by decide), if_true, nI_clamp (show t < 2 ^ 31 by omega), hn, e, isOpen_r hr, isOpen_p b6 hb hp, Option.bind]
  rw [if_neg (by decide), push_eq gg eh]
theorem stepM_make {σ : tf_S} {x1 x2 x3 : Int32} {t g : Nat} (g1 : 1 ≤ g) (gg : g < 200) (eh : σ 0 10 = nI g) (etop : σ 8 (g - 1) = nI t) (h6 : 6 ≤ t) (ht : t < 80) (ho : σ 6 t ≠ 0) (hn : σ 7 t = -1) (r1 : tf_rdy (σ 7) (σ 4 t)) (r2 : tf_rdy (σ 7) (σ 5 t)) (m : Nat) :
    fX7_put_48 x1 x2 x3 (m + 1) σ = (fX7_made σ (σ 3 t) (tf_im (σ 7) (σ 4 t)) (tf_im (σ 7) (σ 5 t))).bind (fun u => if u.1 = -3 then some (-3, u.2) else fX7_put_48 x1 x2 x3 m (tf_wr (tf_wr u.2 7 t u.1) 0 10 (u.2 0 10 - 1))) := by
  have n4 : ¬ nI t = (4 : Int32) := fun e => by have := (nI_eq (a := t) (b := 4) (by omega) (by decide)).mp e; omega
  have n5 : ¬ nI t = (5 : Int32) := fun e => by have := (nI_eq (a := t) (b := 5) (by omega) (by decide)).mp e; omega
  rw [stepM_top g1 gg eh etop h6 ht ho]
  unfold fX7_put_99
  rw [if_neg n4, if_neg n5]
  simp only [tf_ib (n := 80) ht (by decide), if_true, nI_clamp (show t < 2 ^ 31 by omega), hn, isOpen_r r1, isOpen_r r2, Option.bind]
  unfold tf_im
  have p : ∀ x : Int32, tf_rdy (σ 7) x → (x = -1 ∧ ¬ 0 ≤ x) ∨ (¬ x = -1 ∧ 0 ≤ x ∧ tf_inb x 80 = true) := by
    intro x hx
    rcases hx with rfl | ⟨a, ha, rfl, -⟩
    · exact Or.inl ⟨rfl, tf_neg1⟩
    · exact Or.inr ⟨tf_m1ne a (by omega), nI_pos' (by omega), tf_ib ha (by decide)⟩
  unfold fX7_put_251
  simp only [tf_ib (n := 80) ht (by decide), if_true, nI_clamp (show t < 2 ^ 31 by omega), tf_gl, tf_wr_o _ _ _ (show (0 : Nat) ≠ 7 by decide)]
  rcases p _ r1 with ⟨p1, p2⟩ | ⟨p1, p2, p3⟩ <;> rcases p _ r2 with ⟨q1, q2⟩ | ⟨q1, q2, q3⟩
  · rw [if_neg p2, if_neg q2, if_pos p1, if_pos q1]; rfl
  · rw [if_neg p2, if_pos q2, if_pos q3, if_pos p1, if_neg q1]; rfl
  · rw [if_pos p2, if_pos p3, if_neg q2, if_neg p1, if_pos q1]; rfl
  · rw [if_pos p2, if_pos p3, if_pos q2, if_pos q3, if_neg p1, if_neg q1]; rfl
