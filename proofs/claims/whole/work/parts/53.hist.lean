/-! ===== states saved and brought back ===== -/
theorem RCa.cg {a : Nat} {r : Rd} {S T : St} (h : RCa a r S) (e : ∀ x y, a ≤ x → x ≤ a + 4 → gi T x y = gi S x y) : RCa a r T := by
  obtain ⟨h1, h2, h3⟩ := h
  refine ⟨by rw [e _ _ (by omega) (by omega)]; exact h1, fun p hp => ?_, fun j hj => ?_⟩
  · rw [e _ _ (by omega) (by omega), e _ _ (by omega) (by omega), e _ _ (by omega) (by omega)]; exact h2 p hp
  · rw [e _ _ (by omega) (by omega)]; exact h3 j hj
theorem RMa.cg {k o o' : Nat} {r : Rd} {S T : St} (h : RMa k o r S) (hW : RW r) (e : ∀ y, y < 135 → gi T k (o' + y) = gi S k (o + y)) : RMa k o' r T := by
  obtain ⟨h1, h2, h3⟩ := h
  have hn := hW.1
  refine ⟨by have := e 0 (by omega); rw [Nat.add_zero, Nat.add_zero] at this; rw [this]; exact h1, fun p hp => ?_, fun j hj => ?_⟩
  · rw [e _ (by omega), e _ (by omega), e _ (by omega)]; exact h2 p hp
  · rw [e _ (by omega)]; exact h3 j hj
theorem RM.a {r : Rd} {S : St} (h : RM r (r.g 0) (r.g 2) S) : RMa 76 0 r S := by
  obtain ⟨h1, h2, h3, h4, h5⟩ := h
  refine ⟨h1, fun p hp => ?_, fun j hj => ?_⟩
  · rw [Nat.zero_add, Nat.zero_add, Nat.zero_add]; exact h2 p hp
  · rw [Nat.zero_add]
    by_cases h0 : j = 0
    · subst h0; exact h3
    · by_cases h2' : j = 2
      · subst h2'; exact h4
      · exact h5 j hj h0 h2'
theorem RMa.m {r : Rd} {S : St} (h : RMa 76 0 r S) : RM r (r.g 0) (r.g 2) S := by
  obtain ⟨h1, h2, h3⟩ := h
  refine ⟨h1, fun p hp => ?_, h3 0 (by omega), h3 2 (by omega), fun j hj _ _ => ?_⟩
  · have := h2 p hp; rw [Nat.zero_add, Nat.zero_add, Nat.zero_add] at this; exact this
  · have := h3 j hj; rw [Nat.zero_add] at this; exact this
theorem HI.cg {n nw : Nat} {S T : St} (h : HI n nw S) (e : ∀ x y, x = 6 ∨ (8 ≤ x ∧ x ≤ 47) ∨ (x = 75 ∧ y = 2) ∨ x = 77 → gi T x y = gi S x y) : HI n nw T := by
  obtain ⟨h1, h2, h3, h4, h5, h6⟩ := h
  refine ⟨h1, h2, ?_, ?_, ?_, fun j hj => ?_⟩
  · rw [e _ _ (by omega)]; exact h3
  · rw [e _ _ (by omega)]; exact h4
  · rw [e _ _ (by omega)]; exact h5
  · obtain ⟨q, q1, q2, q3⟩ := h6 j hj
    have hm := Nat.mod_lt (nw + 8 - j) (show 0 < 8 by omega)
    exact ⟨q, q1, q2.cg (fun x y a b => e x y (by omega)), q3.cg q1 (fun y _ => e 77 _ (by omega))⟩
theorem LT.cg {S T : St} (h : LT S) (e : ∀ x y, (48 ≤ x ∧ x ≤ 57) ∨ (x = 75 ∧ 15 ≤ y ∧ y ≤ 20) ∨ (83 ≤ x ∧ x ≤ 85) → gi T x y = gi S x y) : LT T := by
  rcases h with ⟨l1, l2, l3⟩ | ⟨l1, l2, n', dm, T', mc, mt, ml, g, k1, k2, k3, k4, k5, k6, k7, k8, k9, k10, k11, k12, k13, k14, k15⟩
  · refine Or.inl ⟨?_, ?_, ?_⟩
    · rw [e _ _ (by omega)]; exact l1
    · rw [e _ _ (by omega)]; exact l2
    · rw [e _ _ (by omega)]; exact l3
  · refine Or.inr ⟨?_, ?_, n', dm, T', mc, mt, ml, g, k1, ?_, ?_, k4, ?_, ?_, fun p hp => ?_, fun j hj => ?_, k9, ?_, ?_, k12, k13.cg (fun a b hab => e a b (by omega)), fun τ hτ => ?_, k15⟩
    · rw [e _ _ (by omega)]; exact l1
    · rw [e _ _ (by omega)]; exact l2
    · rw [e _ _ (by omega)]; exact k2
    · rw [e _ _ (by omega)]; exact k3
    · rw [e _ _ (by omega)]; exact k5
    · rw [e _ _ (by omega)]; exact k6
    · rw [e _ _ (by omega), e 83 p (by omega)]; exact k7 p hp
    · rw [e _ _ (by omega), e 84 j (by omega)]; exact k8 j hj
    · rw [e _ _ (by omega)]; exact k10
    · rw [e _ _ (by omega)]; exact k11
    · rw [e _ _ (by omega)]; exact k14 τ hτ
theorem TX.cg {S T : St} (h : TX S) (e : ∀ x y, (x = 68 ∧ y = 1) ∨ x = 69 ∨ (x = 75 ∧ y = 27) ∨ x = 88 → gi T x y = gi S x y) : TX T := by
  obtain ⟨L, ch, t1, t2, t3, t4⟩ := h
  refine ⟨L, ch, t1, ?_, ?_, fun k hk => ?_⟩
  · rw [e _ _ (by omega)]; exact t2
  · rw [e _ _ (by omega)]; exact t3
  · rw [e _ _ (by omega), e 88 k (by omega)]; exact t4 k hk
theorem c_copy {k o : Nat} {r : Rd} {S : St} (hR : RCa o r S) (hW : RW r) (hd : k + 4 < o ∨ o + 4 < k) : ∃ S', X4_copyFrom k o S = some ((), S') ∧ RCa k r S' ∧ Fr (fun a _ => k ≤ a ∧ a ≤ k + 4) S S' := by
  obtain ⟨h1, h2, h3⟩ := hR
  have hn := hW.1
  have g1 : ∀ (x : Option (Unit × St)), og (cpy (nI 0) (nI 0) (nI 40) 40 40) x = x := fun x => qCP (by omega) (by omega) (by omega) (by omega) (by omega)
  have g2 : ∀ (x : Option (Unit × St)), og (cpy (nI 0) (nI 0) (nI 14) 14 14) x = x := fun x => qCP (by omega) (by omega) (by omega) (by omega) (by omega)
  unfold X4_copyFrom
  simp (disch := omega) only [qlj, nI_add, pk_mul, qIX, qIN, qOB, qOL, qLE1, qLE0, qLT1, qLT0, qEQ1, qEQ0, qM0, qM1, qR, qN0, qMM, qNL1, qNL0, qNE1, qNE0, qB1, qB0, qOT, qOF, qGT, g1, g2]
  refine ⟨_, rfl, ⟨?_, fun p hp => ⟨?_, ?_, ?_⟩, fun j hj => ?_⟩, ?_⟩
  · simp (disch := omega) only [qlj, nI_add, pk_mul, qIX, qIN, qOB, qOL, qLE1, qLE0, qLT1, qLT0, qEQ1, qEQ0, qM0, qM1, qR, qN0, qMM, qNL1, qNL0, qNE1, qNE0, qB1, qB0, qOT, qOF, qGT, qC0, qG1]; exact h1
  · simp (disch := omega) only [qlj, nI_add, pk_mul, qIX, qIN, qOB, qOL, qLE1, qLE0, qLT1, qLT0, qEQ1, qEQ0, qM0, qM1, qR, qN0, qMM, qNL1, qNL0, qNE1, qNE0, qB1, qB0, qOT, qOF, qGT, qC0, qC1, qG0]; rw [show 0 + (p - 0) = p by omega]; exact (h2 p hp).1
  · simp (disch := omega) only [qlj, nI_add, pk_mul, qIX, qIN, qOB, qOL, qLE1, qLE0, qLT1, qLT0, qEQ1, qEQ0, qM0, qM1, qR, qN0, qMM, qNL1, qNL0, qNE1, qNE0, qB1, qB0, qOT, qOF, qGT, qC0, qC1, qG0]; rw [show 0 + (p - 0) = p by omega]; exact (h2 p hp).2.1
  · simp (disch := omega) only [qlj, nI_add, pk_mul, qIX, qIN, qOB, qOL, qLE1, qLE0, qLT1, qLT0, qEQ1, qEQ0, qM0, qM1, qR, qN0, qMM, qNL1, qNL0, qNE1, qNE0, qB1, qB0, qOT, qOF, qGT, qC0, qC1, qG0]; rw [show 0 + (p - 0) = p by omega]; exact (h2 p hp).2.2
  · simp (disch := omega) only [qlj, nI_add, pk_mul, qIX, qIN, qOB, qOL, qLE1, qLE0, qLT1, qLT0, qEQ1, qEQ0, qM0, qM1, qR, qN0, qMM, qNL1, qNL0, qNE1, qNE0, qB1, qB0, qOT, qOF, qGT, qC0, qC1, qG0]; rw [show 0 + (j - 0) = j by omega]; exact h3 j hj
  · refine Fr.sc (Fr.sc (Fr.sc (Fr.sc (Fr.si Fr.rf ?_) ?_) ?_) ?_) ?_
    all_goals first | (intro j; omega) | omega
theorem c_save {n nw : Nat} {r : Rd} {S : St} (hR : RC r S) (hW : RW r) (hH : HI n nw S) : ∃ S', X1_save 1 S = some ((), S') ∧ RCa (8 + 5 * ((nw + 1) % 8)) r S' ∧ gi S' 6 1 = nI (min (n + 1) 8) ∧ gi S' 6 2 = nI ((nw + 1) % 8) ∧ Fr (fun a b => (a = 6 ∧ (b = 1 ∨ b = 2)) ∨ (8 + 5 * ((nw + 1) % 8) ≤ a ∧ a ≤ 8 + 5 * ((nw + 1) % 8) + 4)) S S' := by
  obtain ⟨h1, h2, h3, h4, h5, h6⟩ := hH
  have hm := Nat.mod_lt (nw + 1) (show 0 < 8 by omega)
  have hR' : RCa 1 r (si S 6 2 (nI ((nw + 1) % 8))) := ⟨hR.1, hR.2.1, hR.2.2⟩
  obtain ⟨S1, e1, e2, e3⟩ := c_copy (k := 8 + 5 * ((nw + 1) % 8)) hR' hW (by omega)
  have e61 : gi S1 6 1 = nI n := by rw [e3.1 6 1 (by omega), qG0 (by omega)]; exact h3
  have e62 : gi S1 6 2 = nI ((nw + 1) % 8) := by rw [e3.1 6 2 (by omega)]; exact qG1 rfl rfl
  have hmin : (if nI 8 < nI (n + 1) then nI 8 else nI (n + 1)) = nI (min (n + 1) 8) := by
    by_cases h : 8 < n + 1
    · rw [qTL1 h (by omega), Nat.min_eq_right (by omega)]
    · rw [qTL0 (by omega) (by omega), Nat.min_eq_left (by omega)]
  refine ⟨si S1 6 1 (nI (min (n + 1) 8)), ?_, e2.cg (fun x y a b => qG0 (by omega)), qG1 rfl rfl, ?_, ?_⟩
  · unfold X1_save
    simp (disch := omega) only [qlj, nI_add, pk_mul, qIX, qIN, qOB, qOL, qLE1, qLE0, qLT1, qLT0, qEQ1, qEQ0, qM0, qM1, qR, qN0, qMM, qNL1, qNL0, qNE1, qNE0, qB1, qB0, qOT, qOF, qGT, h4, pk_rem, qG1, e1, e61, hmin]
  · rw [qG0 (by omega)]; exact e62
  · refine Fr.si (Fr.tr (Fr.si Fr.rf ?_) (e3.mono (fun a b h => Or.inr h))) ?_
    all_goals exact Or.inl ⟨rfl, by omega⟩
theorem r_keeps {n : Nat} {T : St} (hn : n ≤ 8) (h2 : gi T 75 2 = nI n) : ∃ T1, X8_keeps T = some ((), T1) ∧ gi T1 75 2 = nI (min (n + 1) 8) ∧ (∀ y, y < 135 → gi T1 77 (135 * (min (n + 1) 8 - 1) + y) = gi T 76 y) ∧ (∀ y, y < 135 * (min (n + 1) 8 - 1) → gi T1 77 y = gi T 77 (if n = 8 then y + 135 else y)) ∧ Fr (fun a b => (a = 75 ∧ b = 2) ∨ a = 77) T T1 := by
  have l52 : ∀ (k : Nat) (U : St), k ≤ 7 → gi U 75 2 = nI k → X8_keeps_52L (nI 0) U = some ((), sc U 76 77 0 (135 * k) 135) := by
    intro k U hk hU
    unfold X8_keeps_52L
    have h := lp_for (body := fun (a : Int32) (S : St) => X8_keeps_52 a S) (b := ()) (T' := sc U 76 77 0 (135 * k) 135) 135 (fun i => nI i) (fun i => sc U 76 77 0 (135 * k) i) (fun i hi => ?_) ?_
    · rw [sc_0] at h; exact h
    · have hg : gi (sc U 76 77 0 (135 * k) i) 75 2 = nI k := by rw [qC0 (by omega)]; exact hU
      have h1 := sc_si (S := U) (q := 76) (k := 77) (sp := 0) (dp := 135 * k) (i := i)
      rw [Nat.zero_add] at h1
      show X8_keeps_52 (nI i) (sc U 76 77 0 (135 * k) i) = _
      unfold X8_keeps_52
      simp (disch := omega) only [qlj, nI_add, pk_mul, qIX, qIN, qOB, qOL, qLE1, qLE0, qLT1, qLT0, qEQ1, qEQ0, qM0, qM1, qR, qN0, qMM, qNL1, qNL0, qNE1, qNE0, qB1, qB0, qOT, qOF, qGT, hg, qC0]
      rw [h1]
    · show X8_keeps_52 (nI 135) _ = _
      unfold X8_keeps_52
      simp (disch := omega) only [qlj, nI_add, pk_mul, qIX, qIN, qOB, qOL, qLE1, qLE0, qLT1, qLT0, qEQ1, qEQ0, qM0, qM1, qR, qN0, qMM, qNL1, qNL0, qNE1, qNE0, qB1, qB0, qOT, qOF, qGT]
  have l11 : X8_keeps_11L (nI 0) T = some ((), sc T 77 77 135 0 945) := by
    unfold X8_keeps_11L
    have h := lp_for (body := fun (a : Int32) (S : St) => X8_keeps_11 a S) (b := ()) (T' := sc T 77 77 135 0 945) 945 (fun i => nI i) (fun i => sc T 77 77 135 0 i) (fun i hi => ?_) ?_
    · rw [sc_0] at h; exact h
    · have h1 := sc_si (S := T) (q := 77) (k := 77) (sp := 135) (dp := 0) (i := i)
      rw [Nat.zero_add] at h1
      show X8_keeps_11 (nI i) (sc T 77 77 135 0 i) = _
      unfold X8_keeps_11
      simp (disch := omega) only [qlj, nI_add, pk_mul, qIX, qIN, qOB, qOL, qLE1, qLE0, qLT1, qLT0, qEQ1, qEQ0, qM0, qM1, qR, qN0, qMM, qNL1, qNL0, qNE1, qNE0, qB1, qB0, qOT, qOF, qGT, qC2]
      rw [← h1, Nat.add_comm 135 i]
    · show X8_keeps_11 (nI 945) _ = _
      unfold X8_keeps_11
      simp (disch := omega) only [qlj, nI_add, pk_mul, qIX, qIN, qOB, qOL, qLE1, qLE0, qLT1, qLT0, qEQ1, qEQ0, qM0, qM1, qR, qN0, qMM, qNL1, qNL0, qNE1, qNE0, qB1, qB0, qOT, qOF, qGT]
  unfold X8_keeps
  by_cases h8 : n = 8
  · have hm : min (n + 1) 8 = 8 := by omega
    have hU : gi (si (sc T 77 77 135 0 945) 75 2 (nI 7)) 75 2 = nI 7 := qG1 rfl rfl
    have hx := l52 7 _ (by omega) hU
    have hs : gi (sc T 77 77 135 0 945) 75 2 = nI n := by rw [qC0 (by omega)]; exact h2
    rw [hm]
    have hn8 : nI n - nI 1 = nI 7 := by rw [qSUB (by omega), h8]
    simp (disch := omega) only [qlj, nI_add, pk_mul, qIX, qIN, qOB, qOL, qLE1, qLE0, qLT1, qLT0, qEQ1, qEQ0, qM0, qM1, qR, qN0, qMM, qNL1, qNL0, qNE1, qNE0, qB1, qB0, qOT, qOF, qGT, h2, l11, hs, hn8, hx, qC0, qG1]
    refine ⟨_, rfl, qG1 rfl rfl, fun y hy => ?_, fun y hy => ?_, ?_⟩
    · rw [qG0 (by omega), qC1 rfl (by omega) (by omega), show 0 + (135 * (8 - 1) + y - 135 * 7) = y by omega, qG0 (by omega), qC0 (by omega)]
    · rw [if_pos h8, qG0 (by omega), qC2 rfl (by omega), qG0 (by omega), qC1 rfl (by omega) (by omega), show 135 + (y - 0) = y + 135 by omega]
    · refine Fr.si (Fr.sc (Fr.si (Fr.sc Fr.rf ?_) ?_) ?_) ?_
      all_goals first | (intro j; omega) | omega
  · have hm : min (n + 1) 8 = n + 1 := by omega
    have hx := l52 n T (by omega) h2
    rw [hm]
    have hs : gi (sc T 76 77 0 (135 * n) 135) 75 2 = nI n := by rw [qC0 (by omega)]; exact h2
    simp (disch := omega) only [qlj, nI_add, pk_mul, qIX, qIN, qOB, qOL, qLE1, qLE0, qLT1, qLT0, qEQ1, qEQ0, qM0, qM1, qR, qN0, qMM, qNL1, qNL0, qNE1, qNE0, qB1, qB0, qOT, qOF, qGT, h2, hx, hs]
    refine ⟨_, rfl, qG1 rfl rfl, fun y hy => ?_, fun y hy => ?_, ?_⟩
    · rw [qG0 (by omega), qC1 rfl (by omega) (by omega), show 0 + (135 * (n + 1 - 1) + y - 135 * n) = y by omega]
    · rw [if_neg h8, qG0 (by omega), qC2 rfl (by omega)]
    · refine Fr.si (Fr.sc Fr.rf ?_) ?_
      all_goals first | (intro j; omega) | omega
/-- the history after a save, from both sides -/
theorem hi_new {n nw : Nat} {r : Rd} {S U : St} (hH : HI n nw S) (hW : RW r) (hM : RMa 76 0 r S) (u1 : gi U 6 1 = nI (min (n + 1) 8)) (u2 : gi U 6 2 = nI ((nw + 1) % 8)) (u3 : gi U 75 2 = nI (min (n + 1) 8)) (u4 : RCa (8 + 5 * ((nw + 1) % 8)) r U) (u5 : ∀ x y, 8 ≤ x → x ≤ 47 → ¬ (8 + 5 * ((nw + 1) % 8) ≤ x ∧ x ≤ 8 + 5 * ((nw + 1) % 8) + 4) → gi U x y = gi S x y) (u6 : ∀ y, y < 135 → gi U 77 (135 * (min (n + 1) 8 - 1) + y) = gi S 76 y) (u7 : ∀ y, y < 135 * (min (n + 1) 8 - 1) → gi U 77 y = gi S 77 (if n = 8 then y + 135 else y)) : HI (min (n + 1) 8) ((nw + 1) % 8) U := by
  obtain ⟨h1, h2, h3, h4, h5, h6⟩ := hH
  have hm := Nat.mod_lt (nw + 1) (show 0 < 8 by omega)
  refine ⟨by omega, hm, u1, u2, u3, fun j hj => ?_⟩
  by_cases hj0 : j = 0
  · subst hj0
    refine ⟨r, hW, ?_, ?_⟩
    · rw [show ((nw + 1) % 8 + 8 - 0) % 8 = (nw + 1) % 8 by omega]; exact u4
    · rw [Nat.sub_zero]
      have hn := hW.1
      obtain ⟨q1, q2, q3⟩ := hM
      refine ⟨by have := u6 0 (by omega); rw [Nat.add_zero] at this; rw [this]; exact q1, fun p hp => ?_, fun i hi => ?_⟩
      · have := q2 p hp
        rw [Nat.zero_add, Nat.zero_add, Nat.zero_add] at this
        rw [u6 _ (by omega), u6 _ (by omega), u6 _ (by omega)]; exact this
      · have := q3 i hi
        rw [Nat.zero_add] at this
        rw [u6 _ (by omega)]; exact this
  · obtain ⟨q, q1, q2, q3⟩ := h6 (j - 1) (by omega)
    have hx : ((nw + 1) % 8 + 8 - j) % 8 = (nw + 8 - (j - 1)) % 8 := by omega
    have hne : ((nw + 1) % 8 + 8 - j) % 8 ≠ (nw + 1) % 8 := by omega
    refine ⟨q, q1, ?_, q3.cg q1 (fun y hy => ?_)⟩
    · rw [hx] at hne ⊢
      have hm2 := Nat.mod_lt (nw + 8 - (j - 1)) (show 0 < 8 by omega)
      exact q2.cg (fun x y a b => u5 x y (by omega) (by omega) (by omega))
    · rw [u7 _ (by omega)]
      by_cases h8 : n = 8
      · rw [if_pos h8]; congr 1; omega
      · rw [if_neg h8]; congr 1; omega
