set_option maxHeartbeats 8000000 in
set_option maxRecDepth 100000 in
theorem st_n {p : Program} {s : State} {m : MethodId} {meth : Method} {c : Code} {b L : Nat} {xs : Nat → Int32} (C0 : lw_At p s m meth c b L xs) : tf_N tf_nest s := by
  obtain ⟨hx, hb, hr, hml, hown, hts0, hX, hbl, hlocks, hgv⟩ := id C0
  have hts := fun w h => hts0 w (wsL_law_in w h)
  have hA : ∀ q : Nat, s.heap.size ≤ q → (fun q : Nat => s.heap.size ≤ q) q := fun _ h => h
  intro q hq
  unfold tf_nest at hq
  simp only [List.mem_cons, List.not_mem_nil, or_false] at hq
  rcases hq with rfl | rfl | rfl | rfl | rfl | rfl | rfl | rfl | rfl
  · exact va_Nw.of rfl (hts0 (.methodLinkNest RX3 71 yX6_isPrimitive "TypeFlow") mw_10)
  · exact va_Nw.of rfl (hts0 (.methodLinkNest RX3 74 yX6_widens "TypeFlow") mw_11)
  · exact va_Nw.of rfl (hts0 (.methodLinkNest RX3 78 yX6_isVariable "TypeFlow") mw_12)
  · exact va_Nw.of rfl (hts0 (.methodLinkNest RX4 78 yX6_widens "TypeFlow") mw_13)
  · exact va_Nw.of rfl (hts0 (.methodLinkNest RX4 81 yX6_isPrimitive "TypeFlow") mw_14)
  · exact va_Nw.of rfl (hts0 (.methodLinkNest RX5 103 yX6_isPrimitive "TypeFlow") mw_15)
  · exact va_Nw.of rfl (hts0 (.methodLinkNest RX6 18 yX1_init "TypeFlow") mw_16)
  · exact va_Nw.of rfl (hts0 (.methodLinkNest RX6 25 yX0_init "TypeFlow") mw_17)
  · exact va_Nw.of rfl (hts0 (.methodLinkNest RX6 32 yX2_init "TypeFlow") mw_18)
