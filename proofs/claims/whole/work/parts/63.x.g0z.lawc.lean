def wsL_ch : List (List Cond) := [wsL_law_r1, wsL_law_r2, wsL_law_r3, wsL_law_r4, wsL_law_r5, wsL_law_r6, wsL_law_r7, wsL_law_r8, wsL_law_r9, wsL_law_r10, wsL_law_r11, wsL_law_r12, wsL_law_r13, wsL_law_r14, wsL_law_r15, wsL_law_r16, wsL_law_r17, wsL_law_r18, wsL_law_r19, wsL_law_r20, wsL_law_r21, wsL_law_r22, wsL_law_r23, wsL_law_r24, wsL_law_r25, wsL_law_r26, wsL_law_r27, wsX60, wsX70, wsX40, wsX10, wsX00, wsX20, wsX50, wsX30]
theorem wsL_fl : wsL_law = wsL_ch.flatten := by
  unfold wsL_law wsL_ch
  simp only [List.flatten_cons, List.flatten_nil, List.append_assoc, List.append_nil]
def wsL_at (q : Nat × Nat) : Option Cond := (wsL_ch[q.1]?).bind (fun c => c[q.2]?)
theorem goodIn_c (ws : List Cond) (ps : List (Nat × Nat)) (hp : ws = ps.filterMap wsL_at) (h : ws.all goodWord = true) : GoodIn wsL_law ws := by
  intro w hw
  refine ⟨?_, good_of_word ((List.all_eq_true.mp h) w hw)⟩
  rw [hp] at hw
  obtain ⟨q, -, hq⟩ := List.mem_filterMap.mp hw
  rw [wsL_fl]
  unfold wsL_at at hq
  cases hc : wsL_ch[q.1]? with
  | none => rw [hc] at hq; cases hq
  | some c =>
    rw [hc] at hq
    exact List.mem_flatten.mpr ⟨c, List.mem_of_getElem? hc, List.mem_of_getElem? hq⟩
