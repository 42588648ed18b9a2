/-! ===== the start: words of the Statement and of the tables, as the machine's text wants them ===== -/
def be_fl : List Cond := flatC (Jvm.Cond.and given_1 narrow_1)
def be_nm (i : Nat) : String := ["PACKET", "CAPACITY_COMMAND", "RATE_COMMAND", "POLICY_COMMAND", "SCHEDULER_COMMAND", "PRIORITY", "MEASURE_COMMAND"].getD i ""
def be_tc (i : Nat) : Term := .static "QueueBlame$Command" (be_nm i) "LQueueBlame$Command;"
def be_ek (i : Nat) : Nat := [58, 64, 67, 70, 73, 76, 79].getD i 0
def be_tw (i : Nat) : Term := .string "QueueBlame$Command" (be_ek i)
def be_tC : Term := .static "QueueBlame" "COMMANDS" "[LQueueBlame$Command;"
def be_ti (i : Nat) : Term := .static "QueueBlame" (["LOWEST", "HIGHEST", "ORDERS_BY_FLOWS_BEFORE", "INITIAL"].getD i "") "[I"
def be_iN (i : Nat) : Nat := [14, 14, 6, 14].getD i 0
def be_iF (i j : Nat) : Int32 := if i = 0 then lowF j else if i = 1 then higF j else if i = 2 then ordF j else iniF j
theorem be_c1 : ∀ i, i < 7 → Cond.exactly (be_tc i) RX0 ∈ be_fl := fun i hi => List.mem_of_getElem? ((by decide +kernel : ∀ i, i < 7 → be_fl[([83, 94, 101, 109, 118, 88, 128] : List Nat).getD i 0]? = some (Cond.exactly (be_tc i) RX0)) i hi)
theorem be_c2 : ∀ i, i < 7 → Cond.eq (.field (be_tc i) RX0 "word" "Ljava/lang/String;") (be_tw i) ∈ be_fl := fun i hi => List.mem_of_getElem? ((by decide +kernel : ∀ i, i < 7 → be_fl[([85, 96, 103, 111, 120, 90, 130] : List Nat).getD i 0]? = some (Cond.eq (.field (be_tc i) RX0 "word" "Ljava/lang/String;") (be_tw i))) i hi)
theorem be_c3 : ∀ i, i < 7 → Cond.eq (.field (be_tc i) RX0 "numbers" "I") (.int (cmdN i)) ∈ be_fl := fun i hi => List.mem_of_getElem? ((by decide +kernel : ∀ i, i < 7 → be_fl[([86, 97, 104, 112, 121, 91, 131] : List Nat).getD i 0]? = some (Cond.eq (.field (be_tc i) RX0 "numbers" "I") (.int (cmdN i)))) i hi)
theorem be_c4 : ∀ i, i < 7 → Cond.eq (.field (be_tc i) RX0 "setting" "I") (.int (cmdS i)) ∈ be_fl := fun i hi => List.mem_of_getElem? ((by decide +kernel : ∀ i, i < 7 → be_fl[([87, 98, 105, 113, 122, 92, 132] : List Nat).getD i 0]? = some (Cond.eq (.field (be_tc i) RX0 "setting" "I") (.int (cmdS i)))) i hi)
def be_c5_p : List (Nat × Nat × Nat) := [(0, 1, 99), (0, 2, 106), (0, 3, 114), (0, 4, 123), (0, 5, 93), (0, 6, 133), (1, 2, 108), (1, 3, 116), (1, 4, 125), (1, 6, 135), (2, 3, 117), (2, 4, 126), (2, 6, 136), (3, 4, 127), (3, 6, 137), (4, 6, 138), (5, 1, 100), (5, 2, 107), (5, 3, 115), (5, 4, 124), (5, 6, 134)]
theorem be_c5_q : ∀ q ∈ be_c5_p, be_fl[q.2.2]? = some (Cond.not (.eq (be_tc q.1) (be_tc q.2.1))) := by decide +kernel
theorem be_c5 : ∀ i, i < 7 → ∀ j, j < 7 → i ≠ j → Cond.not (.eq (be_tc i) (be_tc j)) ∈ be_fl ∨ Cond.not (.eq (be_tc j) (be_tc i)) ∈ be_fl := by
  intro i hi j hj hij
  have key : ∀ i, i < 7 → ∀ j, j < 7 → i ≠ j → (∃ q ∈ be_c5_p, q.1 = i ∧ q.2.1 = j) ∨ ∃ q ∈ be_c5_p, q.1 = j ∧ q.2.1 = i := by decide +kernel
  rcases key i hi j hj hij with ⟨q, hq, rfl, rfl⟩ | ⟨q, hq, rfl, rfl⟩
  · exact Or.inl (List.mem_of_getElem? (be_c5_q q hq))
  · exact Or.inr (List.mem_of_getElem? (be_c5_q q hq))
theorem be_c6 : ∀ i, i < 7 → Cond.eq (.elem be_tC (.int (Int32.ofNat i))) (be_tc i) ∈ be_fl := fun i hi => List.mem_of_getElem? ((by decide +kernel : ∀ i, i < 7 → be_fl[([26, 27, 28, 29, 30, 31, 32] : List Nat).getD i 0]? = some (Cond.eq (.elem be_tC (.int (Int32.ofNat i))) (be_tc i))) i hi)
theorem be_c7 : Cond.arrayOf be_tC (.object RX0) ∈ be_fl := List.mem_of_getElem? (i := 23) (by decide +kernel)
theorem be_c8 : Cond.eq (.length be_tC) (.int (Int32.ofNat 7)) ∈ be_fl := List.mem_of_getElem? (i := 24) (by decide +kernel)
theorem be_w1 : ∀ i, i < 7 → Cond.exactly (be_tw i) "java/lang/String" ∈ be_fl := fun i hi => List.mem_of_getElem? ((by decide +kernel : ∀ i, i < 7 → be_fl[([720, 775, 805, 832, 862, 746, 896] : List Nat).getD i 0]? = some (Cond.exactly (be_tw i) "java/lang/String")) i hi)
theorem be_w2 : ∀ i, i < 7 → Cond.eq (.field (be_tw i) "java/lang/String" "coder" "B") (.int 0) ∈ be_fl := fun i hi => List.mem_of_getElem? ((by decide +kernel : ∀ i, i < 7 → be_fl[([721, 776, 806, 833, 863, 747, 897] : List Nat).getD i 0]? = some (Cond.eq (.field (be_tw i) "java/lang/String" "coder" "B") (.int 0))) i hi)
theorem be_w3 : ∀ i, i < 7 → Cond.arrayOf (.field (be_tw i) "java/lang/String" "value" "[B") .byte ∈ be_fl := fun i hi => List.mem_of_getElem? ((by decide +kernel : ∀ i, i < 7 → be_fl[([722, 777, 807, 834, 864, 748, 898] : List Nat).getD i 0]? = some (Cond.arrayOf (.field (be_tw i) "java/lang/String" "value" "[B") .byte)) i hi)
theorem be_w4 : ∀ i, i < 7 → Cond.eq (.length (.field (be_tw i) "java/lang/String" "value" "[B")) (.int (Int32.ofNat (wLen.getD i 0))) ∈ be_fl := fun i hi => List.mem_of_getElem? ((by decide +kernel : ∀ i, i < 7 → be_fl[([723, 778, 808, 835, 865, 749, 899] : List Nat).getD i 0]? = some (Cond.eq (.length (.field (be_tw i) "java/lang/String" "value" "[B")) (.int (Int32.ofNat (wLen.getD i 0))))) i hi)
theorem be_w5 : ∀ i, i < 7 → ∀ j, j < wLen.getD i 0 → Cond.eq (.elem (.field (be_tw i) "java/lang/String" "value" "[B") (.int (Int32.ofNat j))) (.int ((wByt.getD i []).getD j 0)) ∈ be_fl := fun i hi j hj => List.mem_of_getElem? ((by decide +kernel : ∀ i, i < 7 → ∀ j, j < wLen.getD i 0 → be_fl[([724, 779, 809, 836, 866, 750, 900] : List Nat).getD i 0 + j]? = some (Cond.eq (.elem (.field (be_tw i) "java/lang/String" "value" "[B") (.int (Int32.ofNat j))) (.int ((wByt.getD i []).getD j 0)))) i hi j hj)
def be_w6_p : List (Nat × Nat × Nat) := [(0, 1, 803), (0, 2, 829), (0, 3, 858), (0, 4, 891), (0, 5, 774), (0, 6, 923), (1, 2, 831), (1, 3, 860), (1, 4, 893), (1, 6, 925), (2, 3, 861), (2, 4, 894), (2, 6, 926), (3, 4, 895), (3, 6, 927), (4, 6, 928), (5, 1, 804), (5, 2, 830), (5, 3, 859), (5, 4, 892), (5, 6, 924)]
theorem be_w6_q : ∀ q ∈ be_w6_p, be_fl[q.2.2]? = some (Cond.not (.eq (be_tw q.1) (be_tw q.2.1))) := by decide +kernel
theorem be_w6 : ∀ i, i < 7 → ∀ j, j < 7 → i ≠ j → Cond.not (.eq (be_tw i) (be_tw j)) ∈ be_fl ∨ Cond.not (.eq (be_tw j) (be_tw i)) ∈ be_fl := by
  intro i hi j hj hij
  have key : ∀ i, i < 7 → ∀ j, j < 7 → i ≠ j → (∃ q ∈ be_w6_p, q.1 = i ∧ q.2.1 = j) ∨ ∃ q ∈ be_w6_p, q.1 = j ∧ q.2.1 = i := by decide +kernel
  rcases key i hi j hj hij with ⟨q, hq, rfl, rfl⟩ | ⟨q, hq, rfl, rfl⟩
  · exact Or.inl (List.mem_of_getElem? (be_w6_q q hq))
  · exact Or.inr (List.mem_of_getElem? (be_w6_q q hq))
theorem be_i1 : ∀ i, i < 4 → Cond.arrayOf (be_ti i) .int ∈ be_fl := fun i hi => List.mem_of_getElem? ((by decide +kernel : ∀ i, i < 4 → be_fl[([41, 58, 75, 5] : List Nat).getD i 0]? = some (Cond.arrayOf (be_ti i) .int)) i hi)
theorem be_i2 : ∀ i, i < 4 → Cond.eq (.length (be_ti i)) (.int (Int32.ofNat (be_iN i))) ∈ be_fl := fun i hi => List.mem_of_getElem? ((by decide +kernel : ∀ i, i < 4 → be_fl[([42, 59, 76, 6] : List Nat).getD i 0]? = some (Cond.eq (.length (be_ti i)) (.int (Int32.ofNat (be_iN i))))) i hi)
theorem be_i3 : ∀ i, i < 4 → ∀ j, j < be_iN i → Cond.eq (.elem (be_ti i) (.int (Int32.ofNat j))) (.int (be_iF i j)) ∈ be_fl := fun i hi j hj => List.mem_of_getElem? ((by decide +kernel : ∀ i, i < 4 → ∀ j, j < be_iN i → be_fl[([43, 60, 77, 7] : List Nat).getD i 0 + j]? = some (Cond.eq (.elem (be_ti i) (.int (Int32.ofNat j))) (.int (be_iF i j)))) i hi j hj)
theorem be_i4 : Cond.exactly (be_ti 3) "[I" ∈ be_fl := List.mem_of_getElem? (i := 933) (by decide +kernel)
theorem be_m0 : ∀ i, i < 16 → Cond.exactly (.string RX7 (msgL.getD i (0, "")).1) "java/lang/String" ∈ be_fl := fun i hi => List.mem_of_getElem? ((by decide +kernel : ∀ i, i < 16 → be_fl[([198, 212, 245, 271, 301, 327, 357, 387, 421, 451, 487, 532, 569, 602, 646, 684] : List Nat).getD i 0]? = some (Cond.exactly (.string RX7 (msgL.getD i (0, "")).1) "java/lang/String")) i hi)
theorem be_n0 : ∀ i, i < 6 → Cond.not (.castable (exn (ncL.getD i (0, 0)).1) (exn (ncL.getD i (0, 0)).2)) ∈ be_fl := fun i hi => List.mem_of_getElem? ((by decide +kernel : ∀ i, i < 6 → be_fl[([158, 169, 147, 170, 148, 159] : List Nat).getD i 0]? = some (Cond.not (.castable (exn (ncL.getD i (0, 0)).1) (exn (ncL.getD i (0, 0)).2)))) i hi)
theorem be_z1 : Cond.eq (.static "java/lang/String" "COMPACT_STRINGS" "Z") (.int 1) ∈ be_fl := List.mem_of_getElem? (i := 33) (by decide +kernel)
theorem be_z2 : Cond.isRef (.static Bundle.tN "UNASSIGNED_STACK" Bundle.steD) ∈ be_fl := List.mem_of_getElem? (i := 38) (by decide +kernel)
theorem be_z3 : Cond.isRef (.static Bundle.tN "SUPPRESSED_SENTINEL" Bundle.listD) ∈ be_fl := List.mem_of_getElem? (i := 39) (by decide +kernel)
theorem be_z4 : Cond.isRef (.static "jdk/internal/util/Preconditions" "SIOOBE_FORMATTER" "Ljava/util/function/BiFunction;") ∈ be_fl := List.mem_of_getElem? (i := 34) (by decide +kernel)
