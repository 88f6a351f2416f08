theorem mL_at {c : List Cond} {w : Cond} (i j : Nat) (h1 : wsL_ch[i]? = some c) (h2 : c[j]? = some w) : w ∈ wsL_law := by
  rw [wsL_fl]
  exact List.mem_flatten.mpr ⟨c, List.mem_of_getElem? h1, List.mem_of_getElem? h2⟩
theorem mT_at {w : Cond} (k j : Nat) (h : ([tables_1_1, tables_1_2, tables_1_3, tables_1_4] : List (List Cond))[k]?.bind (fun c => c[j]?) = some w) : w ∈ lw_tbl := by
  refine List.mem_append_right _ ?_
  match k, h with
  | 0, h => exact List.mem_append_left _ (List.mem_of_getElem? (show tables_1_1[j]? = some w from h))
  | 1, h => exact List.mem_append_right _ (List.mem_append_left _ (List.mem_of_getElem? (show tables_1_2[j]? = some w from h)))
  | 2, h => exact List.mem_append_right _ (List.mem_append_right _ (List.mem_append_left _ (List.mem_of_getElem? (show tables_1_3[j]? = some w from h))))
  | 3, h => exact List.mem_append_right _ (List.mem_append_right _ (List.mem_append_right _ (List.mem_of_getElem? (show tables_1_4[j]? = some w from h))))
  | k + 4, h => exact nomatch (show (none : Option Cond) = some w from h)
theorem mw_0 : Cond.instantiable RX0 5 ∈ wsL_law := mL_at 0 21 rfl rfl
theorem mw_1 : Cond.instantiable RX1 3 ∈ wsL_law := mL_at 0 17 rfl rfl
theorem mw_2 : Cond.instantiable RX2 11 ∈ wsL_law := mL_at 1 1 rfl rfl
theorem mw_3 : Cond.instantiable RX3 7 ∈ wsL_law := mL_at 4 2 rfl rfl
theorem mw_4 : Cond.instantiable RX4 10 ∈ wsL_law := mL_at 0 13 rfl rfl
theorem mw_5 : Cond.instantiable RX5 6 ∈ wsL_law := mL_at 1 5 rfl rfl
theorem mw_6 : Cond.instantiable RX6 5 ∈ wsL_law := mL_at 0 1 rfl rfl
theorem mw_7 : Cond.instantiable RX7 35 ∈ wsL_law := mL_at 0 4 rfl rfl
theorem mw_8 : Cond.arrayClass .int ∈ wsL_law := mL_at 1 13 rfl rfl
theorem mw_9 : Cond.arrayClass .boolean ∈ wsL_law := mL_at 3 13 rfl rfl
theorem mw_10 : Cond.methodLinkNest RX3 71 yX6_isPrimitive "TypeFlow" ∈ lw_tbl := mT_at 1 134 (by decide +kernel)
theorem mw_11 : Cond.methodLinkNest RX3 74 yX6_widens "TypeFlow" ∈ lw_tbl := mT_at 1 137 (by decide +kernel)
theorem mw_12 : Cond.methodLinkNest RX3 78 yX6_isVariable "TypeFlow" ∈ lw_tbl := mT_at 1 140 (by decide +kernel)
theorem mw_13 : Cond.methodLinkNest RX4 78 yX6_widens "TypeFlow" ∈ lw_tbl := mT_at 1 187 (by decide +kernel)
theorem mw_14 : Cond.methodLinkNest RX4 81 yX6_isPrimitive "TypeFlow" ∈ lw_tbl := mT_at 1 188 (by decide +kernel)
theorem mw_15 : Cond.methodLinkNest RX5 103 yX6_isPrimitive "TypeFlow" ∈ lw_tbl := mT_at 1 207 (by decide +kernel)
theorem mw_16 : Cond.methodLinkNest RX6 18 yX1_init "TypeFlow" ∈ lw_tbl := mT_at 0 81 (by decide +kernel)
theorem mw_17 : Cond.methodLinkNest RX6 25 yX0_init "TypeFlow" ∈ lw_tbl := mT_at 0 100 (by decide +kernel)
theorem mw_18 : Cond.methodLinkNest RX6 32 yX2_init "TypeFlow" ∈ lw_tbl := mT_at 0 128 (by decide +kernel)
theorem mw_19 : Cond.classLink RL 7 RX6 ∈ wsL_law := mL_at 0 0 rfl rfl
theorem mw_20 : Cond.initialized RX6 ∈ wsL_law := mL_at 0 2 rfl rfl
theorem mw_21 : Cond.methodLink RL 9 yX6_init ∈ wsL_law := mL_at 0 6 rfl rfl
theorem mw_22 : Cond.instanceMethod yX6_init ∈ wsL_law := mL_at 0 7 rfl rfl
theorem mw_23 : Cond.classLink RL 10 RX7 ∈ wsL_law := mL_at 0 3 rfl rfl
theorem mw_24 : Cond.initialized RX7 ∈ wsL_law := mL_at 0 5 rfl rfl
theorem mw_25 : Cond.methodLink RL 12 yX7_init ∈ wsL_law := mL_at 4 16 rfl rfl
theorem mw_26 : Cond.instanceMethod yX7_init ∈ wsL_law := mL_at 4 17 rfl rfl
