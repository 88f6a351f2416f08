/-! the reference as its constructor leaves it -/
def tf_Ms : tf_S := tf_wr (tf_wr tf_0 0 0 1) 0 3 7
def tf_Mi (σ : tf_S) (t : Nat) (c f : Int32) : tf_S := tf_wr (tf_wr (tf_wr (tf_wr σ 3 t c) 4 t (-1)) 5 t (-1)) 6 t f
def tf_Mb : tf_S := tf_Mi (tf_Mi (tf_Mi (tf_Mi (tf_Mi (tf_Mi (tf_Mi tf_Ms 0 (-1) 0) 1 (-1) 0) 2 (-1) 0) 3 (-1) 0) 4 (-1) 1) 5 (-1) 2) 6 0 0
def tf_M0 : tf_S := tf_wr tf_Mb 2 0 (-1)
theorem tf_Mi_0 (n : Nat) (σ : tf_S) : fX7_init_235 (n + 1) σ 0 = fX7_init_235 n (tf_Mi σ 0 (-1) 0) 1 := by rw [fX7_init_235]; rfl
theorem tf_Mi_1 (n : Nat) (σ : tf_S) : fX7_init_235 (n + 1) σ 1 = fX7_init_235 n (tf_Mi σ 1 (-1) 0) 2 := by rw [fX7_init_235]; rfl
theorem tf_Mi_2 (n : Nat) (σ : tf_S) : fX7_init_235 (n + 1) σ 2 = fX7_init_235 n (tf_Mi σ 2 (-1) 0) 3 := by rw [fX7_init_235]; rfl
theorem tf_Mi_3 (n : Nat) (σ : tf_S) : fX7_init_235 (n + 1) σ 3 = fX7_init_235 n (tf_Mi σ 3 (-1) 0) 4 := by rw [fX7_init_235]; rfl
theorem tf_Mi_4 (n : Nat) (σ : tf_S) : fX7_init_235 (n + 1) σ 4 = fX7_init_235 n (tf_Mi σ 4 (-1) 1) 5 := by rw [fX7_init_235]; rfl
theorem tf_Mi_5 (n : Nat) (σ : tf_S) : fX7_init_235 (n + 1) σ 5 = fX7_init_235 n (tf_Mi σ 5 (-1) 2) 6 := by rw [fX7_init_235]; rfl
theorem tf_Mi_6 (n : Nat) (σ : tf_S) : fX7_init_235 (n + 1) σ 6 = fX7_init_235 n (tf_Mi σ 6 0 0) 7 := by rw [fX7_init_235]; rfl
theorem tf_Mi_7 (n : Nat) (σ : tf_S) : fX7_init_235 (n + 1) σ 7 = some (tf_wr σ 2 0 (-1)) := by rw [fX7_init_235]; rfl
theorem tf_M0_ok : fX7_init (tf_wr (tf_wr tf_0 0 0 1) 0 3 7) = some tf_M0 := by
  unfold fX7_init
  rw [show (100000 : Nat) = 99992 + 1 + 1 + 1 + 1 + 1 + 1 + 1 + 1 from rfl, tf_Mi_0, tf_Mi_1, tf_Mi_2, tf_Mi_3, tf_Mi_4, tf_Mi_5, tf_Mi_6, tf_Mi_7]
  rfl
