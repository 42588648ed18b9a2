/-! ===== the start: words of the tables, by their places ===== -/
def be_st : List (String × String × String) := [("QueueBlame", "LOWEST", "[I"), ("QueueBlame", "HIGHEST", "[I"), ("QueueBlame", "ORDERS_BY_FLOWS_BEFORE", "[I"), ("QueueBlame", "INITIAL", "[I"), ("QueueBlame", "COMMANDS", "[LQueueBlame$Command;"), ("QueueBlame$Command", "PACKET", "LQueueBlame$Command;"), ("QueueBlame$Command", "PRIORITY", "LQueueBlame$Command;"), ("java/lang/String", "COMPACT_STRINGS", "Z"), (Bundle.tN, "UNASSIGNED_STACK", Bundle.steD), (Bundle.tN, "SUPPRESSED_SENTINEL", Bundle.listD), ("jdk/internal/util/Preconditions", "SIOOBE_FORMATTER", "Ljava/util/function/BiFunction;")]
theorem be_t1 : ∀ w ∈ nestM, Cond.methodLinkNest w.1 w.2.1 w.2.2.1 w.2.2.2 ∈ lw_tbl := by
  intro w hw
  simp only [nestM, List.mem_cons, List.not_mem_nil, or_false] at hw
  rcases hw with rfl | rfl | rfl | rfl | rfl | rfl | rfl | rfl
  · exact List.mem_of_getElem? (i := 105) (by decide +kernel)
  · exact List.mem_of_getElem? (i := 153) (by decide +kernel)
  · exact List.mem_of_getElem? (i := 173) (by decide +kernel)
  · exact List.mem_of_getElem? (i := 209) (by decide +kernel)
  · exact List.mem_of_getElem? (i := 266) (by decide +kernel)
  · exact List.mem_of_getElem? (i := 375) (by decide +kernel)
  · exact List.mem_of_getElem? (i := 424) (by decide +kernel)
  · exact List.mem_of_getElem? (i := 1023) (by decide +kernel)
theorem be_t2 : ∀ w ∈ nestF, Cond.fieldLinkNest w.1 w.2.1 w.2.2.1 w.2.2.2.1 w.2.2.2.2.1 w.2.2.2.2.2 ∈ lw_tbl := by
  intro w hw
  simp only [nestF, List.mem_cons, List.not_mem_nil, or_false] at hw
  rcases hw with rfl | rfl
  · exact List.mem_of_getElem? (i := 109) (by decide +kernel)
  · exact List.mem_of_getElem? (i := 501) (by decide +kernel)
theorem be_t3 : ∀ w ∈ msgL, Cond.stringRef RX7 w.1 w.2 ∈ lw_tbl := by
  intro w hw
  simp only [msgL, List.mem_cons, List.not_mem_nil, or_false] at hw
  rcases hw with rfl | rfl | rfl | rfl | rfl | rfl | rfl | rfl | rfl | rfl | rfl | rfl | rfl | rfl | rfl | rfl
  · exact List.mem_of_getElem? (i := 635) (by decide +kernel)
  · exact List.mem_of_getElem? (i := 674) (by decide +kernel)
  · exact List.mem_of_getElem? (i := 694) (by decide +kernel)
  · exact List.mem_of_getElem? (i := 731) (by decide +kernel)
  · exact List.mem_of_getElem? (i := 743) (by decide +kernel)
  · exact List.mem_of_getElem? (i := 762) (by decide +kernel)
  · exact List.mem_of_getElem? (i := 829) (by decide +kernel)
  · exact List.mem_of_getElem? (i := 852) (by decide +kernel)
  · exact List.mem_of_getElem? (i := 863) (by decide +kernel)
  · exact List.mem_of_getElem? (i := 915) (by decide +kernel)
  · exact List.mem_of_getElem? (i := 938) (by decide +kernel)
  · exact List.mem_of_getElem? (i := 983) (by decide +kernel)
  · exact List.mem_of_getElem? (i := 992) (by decide +kernel)
  · exact List.mem_of_getElem? (i := 997) (by decide +kernel)
  · exact List.mem_of_getElem? (i := 1010) (by decide +kernel)
  · exact List.mem_of_getElem? (i := 1031) (by decide +kernel)
theorem be_t4 : ∀ w ∈ exW, w ∈ lw_tbl := by decide +kernel
theorem be_t5 : ∀ w ∈ be_st, Cond.laysStatic w.1 w.2.1 w.2.2 ∈ lw_tbl ∧ Cond.initialized w.1 ∈ lw_tbl := by
  intro w hw
  simp only [be_st, List.mem_cons, List.not_mem_nil, or_false] at hw
  rcases hw with rfl | rfl | rfl | rfl | rfl | rfl | rfl | rfl | rfl | rfl | rfl
  · exact ⟨List.mem_of_getElem? (i := 759) (by decide +kernel), List.mem_of_getElem? (i := 72) (by decide +kernel)⟩
  · exact ⟨List.mem_of_getElem? (i := 761) (by decide +kernel), List.mem_of_getElem? (i := 72) (by decide +kernel)⟩
  · exact ⟨List.mem_of_getElem? (i := 869) (by decide +kernel), List.mem_of_getElem? (i := 72) (by decide +kernel)⟩
  · exact ⟨List.mem_of_getElem? (i := 110) (by decide +kernel), List.mem_of_getElem? (i := 72) (by decide +kernel)⟩
  · exact ⟨List.mem_of_getElem? (i := 502) (by decide +kernel), List.mem_of_getElem? (i := 72) (by decide +kernel)⟩
  · exact ⟨List.mem_of_getElem? (i := 1016) (by decide +kernel), List.mem_of_getElem? (i := 94) (by decide +kernel)⟩
  · exact ⟨List.mem_of_getElem? (i := 1018) (by decide +kernel), List.mem_of_getElem? (i := 94) (by decide +kernel)⟩
  · exact ⟨List.mem_of_getElem? (i := 516) (by decide +kernel), List.mem_of_getElem? (i := 89) (by decide +kernel)⟩
  · exact ⟨List.mem_of_getElem? (i := 621) (by decide +kernel), List.mem_of_getElem? (i := 80) (by decide +kernel)⟩
  · exact ⟨List.mem_of_getElem? (i := 623) (by decide +kernel), List.mem_of_getElem? (i := 80) (by decide +kernel)⟩
  · exact ⟨List.mem_of_getElem? (i := 532) (by decide +kernel), List.mem_of_getElem? (i := 91) (by decide +kernel)⟩
theorem be_t6 : Cond.arrayClass .int ∈ lw_tbl ∧ Cond.arrayClass .long ∈ lw_tbl ∧ Cond.arrayOver (.object RX4) ∈ lw_tbl ∧ Cond.arrayOver (.object RX0) ∈ lw_tbl ∧ Cond.castable "[I" "java/lang/Cloneable" ∈ lw_tbl := ⟨List.mem_of_getElem? (i := 144) (by decide +kernel), List.mem_of_getElem? (i := 1483) (by decide +kernel), List.mem_of_getElem? (i := 152) (by decide +kernel), List.mem_of_getElem? (i := 271) (by decide +kernel), List.mem_of_getElem? (i := 116) (by decide +kernel)⟩
theorem be_t7 : ∀ w ∈ vwCl, Cond.instantiable w.1 w.2.2 ∈ lw_tbl := by
  intro w hw
  simp only [vwCl, List.mem_cons, List.not_mem_nil, or_false] at hw
  rcases hw with rfl | rfl | rfl | rfl | rfl | rfl | rfl | rfl
  · exact List.mem_of_getElem? (i := 146) (by decide +kernel)
  · exact List.mem_of_getElem? (i := 208) (by decide +kernel)
  · exact List.mem_of_getElem? (i := 172) (by decide +kernel)
  · exact List.mem_of_getElem? (i := 104) (by decide +kernel)
  · exact List.mem_of_getElem? (i := 166) (by decide +kernel)
  · exact List.mem_of_getElem? (i := 265) (by decide +kernel)
  · exact List.mem_of_getElem? (i := 96) (by decide +kernel)
  · exact List.mem_of_getElem? (i := 1037) (by decide +kernel)
theorem be_m1 : ∀ q ∈ msgL, Cond.exactly (.string RX7 q.1) "java/lang/String" ∈ be_fl := by
  intro q hq
  obtain ⟨i, hi⟩ := List.getElem?_of_mem hq
  have hl : i < 16 := (List.getElem?_eq_some_iff.mp hi).1
  have e : msgL.getD i (0, "") = q := by rw [List.getD_eq_getElem?_getD, hi]; rfl
  have h := be_m0 i hl
  rw [e] at h
  exact h
theorem be_n1 : ∀ q ∈ ncL, Cond.not (.castable (exn q.1) (exn q.2)) ∈ be_fl := by
  intro q hq
  obtain ⟨i, hi⟩ := List.getElem?_of_mem hq
  have hl : i < 6 := (List.getElem?_eq_some_iff.mp hi).1
  have e : ncL.getD i (0, 0) = q := by rw [List.getD_eq_getElem?_getD, hi]; rfl
  have h := be_n0 i hl
  rw [e] at h
  exact h
