/-! ===== the start: Ec, out of the words ===== -/
theorem be_len {args : Array Value} {s : State} {t : Term} {N : Nat} (hN : N < 2 ^ 31) (h : (Cond.eq (.length t) (.int (Int32.ofNat N))).before args s = true) : ∃ (a : Nat) (cell : Cell), t.eval args s none [] s = some (.ref a) ∧ s.arrayAt? a = some cell ∧ cell.slots.size = N := by
  have key : ∀ v : Value, (Term.length t).eval args s none [] s = some v → ∃ (a : Nat) (cell : Cell), t.eval args s none [] s = some (.ref a) ∧ s.arrayAt? a = some cell ∧ cell.slots.size < 2147483648 ∧ v = .int cell.slots.size.toInt32 := by
    intro v h
    simp only [Term.eval, Option.bind_eq_bind] at h
    cases ht : t.eval args s none [] s with
    | none => simp [ht] at h
    | some x =>
      cases x <;> simp [ht] at h
      case ref a =>
        obtain ⟨cell, hcell, h⟩ := Option.bind_eq_some_iff.mp h
        by_cases hn : cell.slots.size < 2147483648
        · rw [if_pos hn] at h; cases h; exact ⟨a, cell, rfl, hcell, hn, rfl⟩
        · rw [if_neg hn] at h; cases h
  obtain ⟨a, cell, h1, h2, h3, h4⟩ := key _ (va_eqt h)
  refine ⟨a, cell, h1, h2, ?_⟩
  have e2 := congrArg Int32.toNatClampNeg (Value.int.inj h4)
  rw [show (cell.slots.size).toInt32 = Int32.ofNat cell.slots.size from rfl, Int32.toNatClampNeg_ofNat_of_lt hN, Int32.toNatClampNeg_ofNat_of_lt h3] at e2
  exact e2.symm
/-- a static array of ints: so many, and which -/
theorem be_X {args : Array Value} {s : State} {t : Term} {N : Nat} {f : Nat → Int32} (hN : N < 2 ^ 31) (harr : (Cond.arrayOf t .int).before args s = true) (hlen : (Cond.eq (.length t) (.int (Int32.ofNat N))).before args s = true) (hel : ∀ j : Nat, j < N → (Cond.eq (.elem t (.int (Int32.ofNat j))) (.int (f j))).before args s = true) : ∃ a : Nat, t.eval args s none [] s = some (.ref a) ∧ va_X a N f s s.heap ∧ a < s.heap.size := by
  obtain ⟨a, cell, h1, h2, h3⟩ := be_len hN hlen
  obtain ⟨a2, g1, c2, g2, g3, g4, -, -, g5, -⟩ := va_Tof (f := fun j => .int (f j)) (A := fun _ => False) hN harr (va_eqt hlen) (fun j hj => va_eqt (hel j hj)) (fun _ _ h => h)
  cases h1.symm.trans g1
  have h4 := (State.arrayAt?_spec h2).1
  cases h4.symm.trans g2
  exact ⟨a, h1, ⟨cell, h4, g3, g4, h3, g5⟩, (Array.getElem?_eq_some_iff.mp h4).1⟩
theorem be_K {args : Array Value} {s : State} (hts : ∀ w ∈ lw_tbl, w.before args s = true) : ∃ D : va_G, ∀ (c : Nat) (q : vw_C), vwCl[c]? = some q → u_Kn s q.1 q.2.1 q.2.2 (D.1 c) (D.2 c) := by
  have hin : ∀ q ∈ vwCl, ∀ w ∈ u_ws q.1 q.2.1 q.2.2, w ∈ lw_tbl := by
    intro q hq w hw
    have h1 : w ∈ tbG := by
      simp only [vwCl, List.mem_cons, List.not_mem_nil, or_false] at hq
      rcases hq with rfl | rfl | rfl | rfl | rfl | rfl | rfl | rfl
      · exact ck0.2.1 w hw
      · exact ck1.2.1 w hw
      · exact ck2.2.1 w hw
      · exact ck3.2.1 w hw
      · exact ck4.2.1 w hw
      · exact ck5.2.1 w hw
      · exact ck6.2.1 w hw
      · exact ck7.2.1 w hw
    exact (List.mem_filter.mp h1).1
  have h0 : ∀ c : Nat, ∃ p : ClassId × (Nat → Nat), ∀ q : vw_C, vwCl[c]? = some q → u_Kn s q.1 q.2.1 q.2.2 p.1 p.2 := by
    intro c
    cases hc : vwCl[c]? with
    | none => exact ⟨(0, fun _ => 0), fun q h => by cases h⟩
    | some q =>
      obtain ⟨cC, iS, hK⟩ := u_known hts (hin q (List.mem_of_getElem? hc)) (hts _ (be_t7 q (List.mem_of_getElem? hc)))
      exact ⟨(cC, iS), fun q' h => by cases h; exact hK⟩
  obtain ⟨f, hf⟩ := Classical.axiomOfChoice h0
  exact ⟨(fun c => (f c).1, fun c => (f c).2), fun c q h => hf c q h⟩
theorem be_En6 {G : Ga} {b : Nat} {s : State} {A : Nat → Prop} (hs : ∀ c ∈ be_fl, c.before #[Value.ref b] s = true) (hts : ∀ w ∈ lw_tbl, w.before #[Value.ref b] s = true) (hA : ∀ a : Nat, a < s.heap.size → ¬ A a)
    (hec : ∀ i, i < 7 → (be_tc i).eval #[Value.ref b] s none [] s = some (.ref (G.ec i))) (hC : be_tC.eval #[Value.ref b] s none [] s = some (.ref (G.sa 4)))
    (hS : vk_S 7 wLen wByt (fun i => G.sa (10 + i)) (fun i => G.sa (20 + i)) A s s.heap) (hW : ∀ i, i < 7 → (be_tw i).eval #[Value.ref b] s none [] s = some (.ref (G.sa (10 + i)))) : En6 G A s s.heap := by
  refine ⟨?_, fun i hi => ⟨?_, ?_, ?_, ?_⟩, hS, ?_, fun i j hi hj e => ?_⟩
  · obtain ⟨t, h1, h2⟩ := va_Tof (ty := .object RX0) (N := 7) (tm := be_tC) (f := fun j => .ref (G.ec j)) (A := A) (by decide) (hs _ be_c7) (va_eqt (hs _ be_c8)) (fun j hj => va_eqv (hs _ (be_c6 j hj)) (hec j hj)) hA
    cases h1.symm.trans hC
    exact h2
  · exact va_Oof (hs _ (be_c1 i hi)) (hec i hi) hA
  · exact vk_OFof (hec i hi) (va_eqv (hs _ (be_c2 i hi)) (hW i hi)) hA
  · exact vk_OFof (hec i hi) (va_eqt (hs _ (be_c3 i hi))) hA
  · exact vk_OFof (hec i hi) (va_eqt (hs _ (be_c4 i hi))) hA
  · exact va_Zqof (hts _ (be_t5 ("jdk/internal/util/Preconditions", "SIOOBE_FORMATTER", "Ljava/util/function/BiFunction;") (by decide +kernel)).1) (hts _ (be_t5 ("jdk/internal/util/Preconditions", "SIOOBE_FORMATTER", "Ljava/util/function/BiFunction;") (by decide +kernel)).2) (hs _ be_z4) hA
  · by_cases hij : i = j
    · exact hij
    · rcases be_c5 i hi j hj hij with h | h
      · exact absurd e (va_neR (hs _ h) (hec i hi) (hec j hj))
      · exact absurd e.symm (va_neR (hs _ h) (hec j hj) (hec i hi))
theorem be_Ec {b : Nat} {s : State} (hts : ∀ w ∈ lw_tbl, w.before #[Value.ref b] s = true) (hgv : (Jvm.Cond.and given_1 narrow_1).before #[Value.ref b] s = true) : ∃ G : Ga, Ec G (fun q => s.heap.size ≤ q) s s.heap := by
  have hs : ∀ c ∈ be_fl, c.before #[Value.ref b] s = true := flat_of_before _ hgv
  have hA : ∀ a : Nat, a < s.heap.size → ¬ (fun q : Nat => s.heap.size ≤ q) a := fun a h => Nat.not_le.mpr h
  obtain ⟨D, hD⟩ := be_K hts
  obtain ⟨c0, k0, p0, i1, i2, i3⟩ := Cond.arrayClass_spec (args := #[Value.ref b]) (first := s) (o := none) (s := s) (idx := []) (type := .int) (hts _ be_t6.1)
  obtain ⟨c1, k1, p1, j1, j2, j3⟩ := Cond.arrayClass_spec (args := #[Value.ref b]) (first := s) (o := none) (s := s) (idx := []) (type := .long) (hts _ be_t6.2.1)
  obtain ⟨m2, c2, k2, r1, -, r2, r3, r4⟩ := Cond.arrayOver_spec (args := #[Value.ref b]) (first := s) (o := none) (s := s) (idx := []) (n := RX4) (hts _ be_t6.2.2.1)
  obtain ⟨m3, c3, k3, q1, -, q2, q3, q4⟩ := Cond.arrayOver_spec (args := #[Value.ref b]) (first := s) (o := none) (s := s) (idx := []) (n := RX0) (hts _ be_t6.2.2.2.1)
  obtain ⟨ca, e0, e1, e2, e3⟩ : ∃ ca : Nat → ClassId, ca 0 = c0 ∧ ca 1 = c1 ∧ ca 2 = c2 ∧ ca 3 = c3 := ⟨fun j => if j = 0 then c0 else if j = 1 then c1 else if j = 2 then c2 else c3, rfl, rfl, rfl, rfl⟩
  have hX0 : ∀ i : Nat, ∃ a : Nat, i < 4 → (be_ti i).eval #[Value.ref b] s none [] s = some (.ref a) ∧ va_X a (be_iN i) (be_iF i) s s.heap ∧ a < s.heap.size := by
    intro i
    by_cases hi : i < 4
    · obtain ⟨a, h⟩ := be_X (t := be_ti i) (N := be_iN i) (f := be_iF i) (by rcases (show i = 0 ∨ i = 1 ∨ i = 2 ∨ i = 3 by omega) with rfl | rfl | rfl | rfl <;> decide) (hs _ (be_i1 i hi)) (hs _ (be_i2 i hi)) (fun j hj => hs _ (be_i3 i hi j hj))
      exact ⟨a, fun _ => h⟩
    · exact ⟨0, fun h => absurd h hi⟩
  obtain ⟨sX, hX⟩ := Classical.axiomOfChoice hX0
  have hc0 : ∀ i : Nat, ∃ a : Nat, i < 7 → (be_tc i).eval #[Value.ref b] s none [] s = some (.ref a) := by
    intro i
    by_cases hi : i < 7
    · obtain ⟨a, c, cA, kA, h1, -⟩ := Cond.exactly_spec (args := #[Value.ref b]) (first := s) (o := none) (s := s) (idx := []) (t := be_tc i) (cls := RX0) (hs _ (be_c1 i hi))
      exact ⟨a, fun _ => h1⟩
    · exact ⟨0, fun h => absurd h hi⟩
  obtain ⟨ec, hec⟩ := Classical.axiomOfChoice hc0
  obtain ⟨tC, _, hC, -⟩ := be_len (t := be_tC) (N := 7) (by decide) (hs _ be_c8)
  obtain ⟨adK, adV, hS, hW⟩ := vk_Sof (args := #[Value.ref b]) (s := s) (N := 7) (tm := be_tw) (len := wLen) (byt := wByt) (A := fun q : Nat => s.heap.size ≤ q) (by decide) (fun i hi => hs _ (be_w1 i hi)) (fun i hi => hs _ (be_w2 i hi)) (fun i hi => hs _ (be_w3 i hi)) (fun i hi => hs _ (be_w4 i hi)) (fun i hi j hj => hs _ (be_w5 i hi j hj)) (fun i j hi hj hij => (be_w6 i hi j hj hij).imp (fun h => hs _ h) (fun h => hs _ h)) hA
  have hm0 : ∀ j : Nat, ∃ a : Nat, ∀ q : Nat × String, msgL[j]? = some q → (Term.string RX7 q.1).eval #[Value.ref b] s none [] s = some (.ref a) := by
    intro j
    cases hj : msgL[j]? with
    | none => exact ⟨0, fun q h => by cases h⟩
    | some q =>
      obtain ⟨a, c, cA, kA, h1, -⟩ := Cond.exactly_spec (args := #[Value.ref b]) (first := s) (o := none) (s := s) (idx := []) (t := .string RX7 q.1) (cls := "java/lang/String") (hs _ (be_m1 q (List.mem_of_getElem? hj)))
      exact ⟨a, fun q' h => by cases h; exact h1⟩
  obtain ⟨aM, hM⟩ := Classical.axiomOfChoice hm0
  obtain ⟨sa, s0, s4, s10, s20, s30⟩ : ∃ sa : Nat → Nat, (∀ i, i < 4 → sa i = sX i) ∧ sa 4 = tC ∧ (∀ i, i < 7 → sa (10 + i) = adK i) ∧ (∀ i, i < 7 → sa (20 + i) = adV i) ∧ (∀ j, sa (30 + j) = aM j) := by
    refine ⟨fun j => if j < 4 then sX j else if j = 4 then tC else if j < 20 then adK (j - 10) else if j < 30 then adV (j - 20) else aM (j - 30), fun i hi => ?_, rfl, fun i hi => ?_, fun i hi => ?_, fun j => ?_⟩
    · show (if i < 4 then _ else _) = _
      rw [if_pos hi]
    · show (if 10 + i < 4 then _ else if 10 + i = 4 then _ else if 10 + i < 20 then _ else _) = _
      rw [if_neg (by omega), if_neg (by omega), if_pos (by omega), show 10 + i - 10 = i by omega]
    · show (if 20 + i < 4 then _ else if 20 + i = 4 then _ else if 20 + i < 20 then _ else if 20 + i < 30 then _ else _) = _
      rw [if_neg (by omega), if_neg (by omega), if_neg (by omega), if_pos (by omega), show 20 + i - 20 = i by omega]
    · show (if 30 + j < 4 then _ else if 30 + j = 4 then _ else if 30 + j < 20 then _ else if 30 + j < 30 then _ else _) = _
      rw [if_neg (by omega), if_neg (by omega), if_neg (by omega), if_neg (by omega), show 30 + j - 30 = j by omega]
  have hZ : ∀ (C n d : String) (v : Value), (C, n, d) ∈ be_st → (Term.static C n d).eval #[Value.ref b] s none [] s = some v → va_Z C n d v (fun q : Nat => s.heap.size ≤ q) s s.heap := fun C n d v h hv => va_Zof (hts _ (be_t5 (C, n, d) h).1) (hts _ (be_t5 (C, n, d) h).2) hv hA
  have hsX : ∀ i, i < 4 → (be_ti i).eval #[Value.ref b] s none [] s = some (Value.ref (sa i)) ∧ va_X (sa i) (be_iN i) (be_iF i) s s.heap ∧ sa i < s.heap.size := fun i hi => by rw [s0 i hi]; exact hX i hi
  have hE6 : En6 ((fun _ => 0, ec, ca, D, sa) : Ga) (fun q : Nat => s.heap.size ≤ q) s s.heap := by
    refine be_En6 hs hts hA hec (by show _ = some (Value.ref (sa 4)); rw [s4]; exact hC) ?_ (fun i hi => by show _ = some (Value.ref (sa (10 + i))); rw [s10 i hi]; exact hW i hi)
    refine ⟨fun i hi => ?_, fun i j hi hj e => ?_⟩
    · show va_O _ (sa (10 + i)) _ _ _ ∧ va_OF _ _ _ _ (sa (10 + i)) _ _ _ ∧ va_OF _ _ _ (.ref (sa (20 + i))) (sa (10 + i)) _ _ _ ∧ va_T _ (sa (20 + i)) _ _ _ _ _
      rw [s10 i hi, s20 i hi]
      exact hS.1 i hi
    · have e' : sa (10 + i) = sa (10 + j) := e
      rw [s10 i hi, s10 j hj] at e'
      exact hS.2 i j hi hj e'
  have hK : va_K D vwCl [(ca 0, .int), (ca 1, .long), (ca 2, .object "QueueBlame$Recording"), (ca 3, .object "QueueBlame$Command")] s := by
    refine ⟨hD, fun k q hk => ?_⟩
    match k, hk with
    | 0, hk => cases hk; rw [e0]; exact ⟨fun N z => ⟨fun k h => (by cases h), k0, i2, p0, i3⟩, i1⟩
    | 1, hk => cases hk; rw [e1]; exact ⟨fun N z => ⟨fun k h => (by cases h), k1, j2, p1, j3⟩, j1⟩
    | 2, hk => cases hk; rw [e2]; exact ⟨fun N z => ⟨fun k h => (by cases h), k2, r2, m2, r3⟩, k2, m2, r2, r3, r1, r4⟩
    | 3, hk => cases hk; rw [e3]; exact ⟨fun N z => ⟨fun k h => (by cases h), k3, q2, m3, q3⟩, k3, m3, q2, q3, q1, q4⟩
    | k + 4, hk => simp at hk
  refine ⟨(fun _ => 0, ec, ca, D, sa), ⟨hK, fun w hw => va_Nw.of rfl (hts _ (be_t1 w hw)), fun w hw => va_Nw.of rfl (hts _ (be_t2 w hw)), fun z hz => ?_, fun q hq => ?_, fun j q hq => ?_, ?_, ?_, fun w hw => va_Nw.of (List.all_eq_true.mp exW_ot w hw) (hts _ (be_t4 w hw)), fun q hq => va_Nc.of (hs _ (be_n1 q hq)), hE6⟩, va_AO.of (hts _ be_t6.2.2.1), va_AO.of (hts _ be_t6.2.2.2.1), va_Nw.of rfl (hts _ be_t6.2.2.2.2), ?_⟩
  · simp only [statZ, List.mem_cons, List.not_mem_nil, or_false] at hz
    rcases hz with rfl | rfl | rfl | rfl | rfl | rfl | rfl | rfl
    · exact hZ "QueueBlame" "LOWEST" "[I" _ (by decide +kernel) (hsX 0 (by decide)).1
    · exact hZ "QueueBlame" "HIGHEST" "[I" _ (by decide +kernel) (hsX 1 (by decide)).1
    · exact hZ "QueueBlame" "ORDERS_BY_FLOWS_BEFORE" "[I" _ (by decide +kernel) (hsX 2 (by decide)).1
    · exact hZ "QueueBlame" "INITIAL" "[I" _ (by decide +kernel) (hsX 3 (by decide)).1
    · exact hZ "QueueBlame" "COMMANDS" "[LQueueBlame$Command;" _ (by decide +kernel) (by show _ = some (Value.ref (sa 4)); rw [s4]; exact hC)
    · exact hZ "QueueBlame$Command" "PACKET" "LQueueBlame$Command;" _ (by decide +kernel) (hec 0 (by decide))
    · exact hZ "QueueBlame$Command" "PRIORITY" "LQueueBlame$Command;" _ (by decide +kernel) (hec 5 (by decide))
    · exact hZ "java/lang/String" "COMPACT_STRINGS" "Z" _ (by decide +kernel) (va_eqt (hs _ be_z1))
  · simp only [statX, List.mem_cons, List.not_mem_nil, or_false] at hq
    rcases hq with rfl | rfl | rfl | rfl
    · exact ⟨(hsX 0 (by decide)).2.1, (hsX 0 (by decide)).2.2, hA _ (hsX 0 (by decide)).2.2⟩
    · exact ⟨(hsX 1 (by decide)).2.1, (hsX 1 (by decide)).2.2, hA _ (hsX 1 (by decide)).2.2⟩
    · exact ⟨(hsX 2 (by decide)).2.1, (hsX 2 (by decide)).2.2, hA _ (hsX 2 (by decide)).2.2⟩
    · exact ⟨(hsX 3 (by decide)).2.1, (hsX 3 (by decide)).2.2, hA _ (hsX 3 (by decide)).2.2⟩
  · show vk_R RX7 q.1 q.2 (sa (30 + j)) s
    rw [s30 j]
    exact vk_R.of (hts _ (be_t3 q (List.mem_of_getElem? hq))) (hM j q hq)
  · exact vx_Zqof (hts _ (be_t5 (Bundle.tN, "UNASSIGNED_STACK", Bundle.steD) (by decide +kernel)).1) (hts _ (be_t5 (Bundle.tN, "UNASSIGNED_STACK", Bundle.steD) (by decide +kernel)).2) (hs _ be_z2) hA
  · exact vx_Zqof (hts _ (be_t5 (Bundle.tN, "SUPPRESSED_SENTINEL", Bundle.listD) (by decide +kernel)).1) (hts _ (be_t5 (Bundle.tN, "SUPPRESSED_SENTINEL", Bundle.listD) (by decide +kernel)).2) (hs _ be_z3) hA
  · obtain ⟨g1, ⟨scr, g2, g3, g4, g5, g6⟩, g7⟩ := hsX 3 (by decide)
    obtain ⟨a, c, cA, kA, h1, h2, h3, h4, h5, h6, -⟩ := Cond.exactly_spec (args := #[Value.ref b]) (first := s) (o := none) (s := s) (idx := []) (t := be_ti 3) (cls := "[I") (hs _ be_i4)
    cases g1.symm.trans h1
    cases g2.symm.trans h3
    have h7 : s.vm.findClass "[I" = some c0 := i1
    cases h2.symm.trans h7
    refine ⟨scr, g2, h6.trans e0.symm, g4, g3.1, ?_, hA _ g7⟩
    apply Array.ext_getElem?
    intro i
    by_cases hi : i < 14
    · rw [arrV_read _ _ hi]
      exact g6 i hi
    · rw [Array.getElem?_eq_none (by rw [g5]; exact Nat.not_lt.mp hi), Array.getElem?_eq_none (by rw [arrV_size]; exact Nat.not_lt.mp hi)]
