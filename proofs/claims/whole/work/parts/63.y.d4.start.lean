set_option maxHeartbeats 8000000 in
set_option maxRecDepth 100000 in
/-- THE LAW, from its entry -/
theorem whole_start_open {p : Program} {e : Env} {s : State} {m : MethodId} {below : List Frame} {meth : Method} {c : Code} {Rl : tf_S → tf_S → Prop} (hOK : tf_OK Rl) (hR0 : Rl tf_T0 tf_M0) (l : Launch) {b L : Nat} {xs : Nat → Int32} (hL : L ≤ 3584) (C0 : lw_At p s m meth c b L xs) : W p l e room_1 s m #[Value.ref b] below meth c s.heap [] 0 0 (lw_Z below #[Value.ref b] s) (entryFrame m ([Value.ref b] : List Value).toArray 4) := by
  obtain ⟨D, cI, cZ, hK⟩ := st_k C0
  have hN := st_n C0
  have hl := lv_entry ([.ref b]) (n := 4) (Nat.le_of_ble_eq_true rfl)
  rw [lg_entry_eq]
  generalize (lg_sl ([.ref b]) ++ List.replicate (4 - (lg_sl ([.ref b])).length) Slot.unset).toArray = ls at hl ⊢
  have hl : lv_has ls 4 [(0, .ref b)] := hl
  refine st_x l C0 hK hN hl (fun ax H locs ls hP hD hS hl => ?_)
  refine st_m l C0 hK hN hP hD hS hl (fun am H locs ls hP hD hS hl => ?_)
  exact law_loop hOK hL C0 hK hN (L + 8) 0 0 (Nat.zero_le _) (by omega) nI_0.symm tf_T0 tf_M0 _ _ _ hR0 hP hD hS (lv_sub hl [3, 2, 1, 0] rfl)
