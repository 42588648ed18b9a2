/-! ===== the reference's arrivals ===== -/
def PRf (a b : Nat) : Prop := (a = 75 ∧ b ≠ 8 ∧ 6 ≤ b ∧ b ≤ 14) ∨ (78 ≤ a ∧ a ≤ 82 ∧ a ≠ 80)
theorem RM.fr {r : Rd} {c π : Nat} {S T : St} (h : RM r c π S) (e : Fr PRf S T) : RM r c π T := h.cg (fun b => e.1 76 b (by unfold PRf; omega))
theorem qsm_pos {v : Nat → Nat} : ∀ {m : Nat}, 0 < qsm v m → ∃ k, k < m ∧ 0 < v k := by
  intro m
  induction m with
  | zero => intro h; exact absurd h (Nat.lt_irrefl 0)
  | succ m ih =>
    intro h
    rw [qsm] at h
    by_cases e : 0 < v m
    · exact ⟨m, Nat.lt_succ_self m, e⟩
    · obtain ⟨k, h1, h2⟩ := ih (by omega)
      exact ⟨k, by omega, h2⟩
theorem q_lg6 {r : Rd} {p : Nat} {Q : Qt} : qlg r p Q < 6 := by
  have : qlg r p Q ≤ 5 := (qamax_sp (v := qam r p Q) 5).1
  omega
theorem q_lw {r : Rd} {p : Nat} {Q : Qt} (hz : 1 ≤ r.z p) (hf : r.f p < 6) (h : qlg r p Q ≠ r.f p) : 0 < qlw r Q (qlg r p Q) ∧ qlw r Q (qlg r p Q) ≤ Q.m := by
  have h1 : qam r p Q (r.f p) ≤ qam r p Q (qlg r p Q) := (qamax_sp (v := qam r p Q) 5).2 (r.f p) (by omega)
  have h2 : 1 ≤ qam r p Q (r.f p) := by unfold qam; rw [if_pos rfl]; omega
  have h3 : 0 < qam r p Q (qlg r p Q) := by omega
  rw [qam, if_neg (fun e => h e.symm), Nat.zero_add] at h3
  obtain ⟨k, hk, h4⟩ := qsm_pos h3
  have h5 : Q.R (Q.w k) = r.z (Q.w k) ∧ r.f (Q.w k) = qlg r p Q := by
    by_cases e : Q.R (Q.w k) = r.z (Q.w k) ∧ r.f (Q.w k) = qlg r p Q
    · exact e
    · have h4' : 0 < (if Q.R (Q.w k) = r.z (Q.w k) ∧ r.f (Q.w k) = qlg r p Q then r.z (Q.w k) else 0) := h4
      rw [if_neg e] at h4'
      omega
  have h6 := qlst_ex (P := fun k => decide (Q.R (Q.w k) = r.z (Q.w k) ∧ r.f (Q.w k) = qlg r p Q)) hk (by simp [h5])
  have h7 := (qlst_sp (P := fun k => decide (Q.R (Q.w k) = r.z (Q.w k) ∧ r.f (Q.w k) = qlg r p Q)) Q.m).1
  unfold qlw
  exact ⟨by omega, h7⟩
theorem r_dropsAt {r : Rd} {cur k : Nat} {S : St} {Q : Qt} (hW : RW r) (hQ : QR r S Q) (hI : QI r cur Q) (hc : cur ≤ r.n) (hk : k < Q.m) : ∃ S', X8_dropsAt (nI k) S = some ((), S') ∧ QR r S' (qrem k Q) ∧ Fr PRf S S' := by
  obtain ⟨b1, b2, b3, b4⟩ := q_bd hW hI hc
  obtain ⟨q1, q2, q3, q4, q5, q6, q7, q8, q9⟩ := hQ
  obtain ⟨c1, c2, c3, c4, c5, c6⟩ := b4 k hk
  have hl := qld_rem hk
  have hlv := r_leaves q1 q2 (q8 k hk) (q9 k hk) hk b1 c2 (by omega) b3
  have hdr := r_drops (S := sc (si (si S 75 12 (nI (qld Q - Q.R (Q.w k)))) 75 10 (nI (Q.m - 1))) 81 81 (k + 1) k (Q.m - 1 - k)) (p := Q.w k) (d := Q.dm) (by simp (disch := omega) only [qlit, nI_add, pk_mul, qIX, qIN, qOB, qOL, qLE1, qLE0, qLT1, qLT0, qEQ1, qEQ0, qM0, qM1, qR, qN0, qMM, qNL1, qNL0, qNE1, qNE0, qB1, qB0, qOT, qOF, qGT, qC0, qG0, q5]) c2 (by omega)
  unfold X8_dropsAt
  simp (disch := omega) only [qlit, nI_add, pk_mul, qIX, qIN, qOB, qOL, qLE1, qLE0, qLT1, qLT0, qEQ1, qEQ0, qM0, qM1, qR, qN0, qMM, qNL1, qNL0, qNE1, qNE0, qB1, qB0, qOT, qOF, qGT, q8 k hk, hlv, hdr]
  refine ⟨_, rfl, ⟨?_, ?_, ?_, ?_, ?_, fun p hp => ?_, fun j hj => ?_, fun i hi => ?_, fun i hi => ?_⟩, ?_⟩
  · simp (disch := omega) only [qlit, nI_add, pk_mul, qIX, qIN, qOB, qOL, qLE1, qLE0, qLT1, qLT0, qEQ1, qEQ0, qM0, qM1, qR, qN0, qMM, qNL1, qNL0, qNE1, qNE0, qB1, qB0, qOT, qOF, qGT, qG0, qG1, qC0]; rfl
  · simp (disch := omega) only [qlit, nI_add, pk_mul, qIX, qIN, qOB, qOL, qLE1, qLE0, qLT1, qLT0, qEQ1, qEQ0, qM0, qM1, qR, qN0, qMM, qNL1, qNL0, qNE1, qNE0, qB1, qB0, qOT, qOF, qGT, qG0, qG1, qC0]
    rw [show qld Q - Q.R (Q.w k) = qld (qrem k Q) by omega]
  · simp (disch := omega) only [qlit, nI_add, pk_mul, qIX, qIN, qOB, qOL, qLE1, qLE0, qLT1, qLT0, qEQ1, qEQ0, qM0, qM1, qR, qN0, qMM, qNL1, qNL0, qNE1, qNE0, qB1, qB0, qOT, qOF, qGT, qG0, qG1, qC0]; exact q3
  · simp (disch := omega) only [qlit, nI_add, pk_mul, qIX, qIN, qOB, qOL, qLE1, qLE0, qLT1, qLT0, qEQ1, qEQ0, qM0, qM1, qR, qN0, qMM, qNL1, qNL0, qNE1, qNE0, qB1, qB0, qOT, qOF, qGT, qG0, qG1, qC0]; exact q4
  · simp (disch := omega) only [qlit, nI_add, pk_mul, qIX, qIN, qOB, qOL, qLE1, qLE0, qLT1, qLT0, qEQ1, qEQ0, qM0, qM1, qR, qN0, qMM, qNL1, qNL0, qNE1, qNE0, qB1, qB0, qOT, qOF, qGT, qG0, qG1, qC0]; rfl
  · show _ = qup Q.F (Q.w k) (-nI 2) p
    by_cases e : p = Q.w k
    · subst e; simp (disch := omega) only [qlit, nI_add, pk_mul, qIX, qIN, qOB, qOL, qLE1, qLE0, qLT1, qLT0, qEQ1, qEQ0, qM0, qM1, qR, qN0, qMM, qNL1, qNL0, qNE1, qNE0, qB1, qB0, qOT, qOF, qGT, qG0, qG1, qC0, qup_s]
    · simp (disch := omega) only [qlit, nI_add, pk_mul, qIX, qIN, qOB, qOL, qLE1, qLE0, qLT1, qLT0, qEQ1, qEQ0, qM0, qM1, qR, qN0, qMM, qNL1, qNL0, qNE1, qNE0, qB1, qB0, qOT, qOF, qGT, qG0, qG1, qC0, qup_n e]; exact q6 p hp
  · show _ = nI (qup Q.D Q.dm (Q.w k) j)
    have hj' : j < Q.dm + 1 := hj
    by_cases e : j = Q.dm
    · subst e; simp (disch := omega) only [qlit, nI_add, pk_mul, qIX, qIN, qOB, qOL, qLE1, qLE0, qLT1, qLT0, qEQ1, qEQ0, qM0, qM1, qR, qN0, qMM, qNL1, qNL0, qNE1, qNE0, qB1, qB0, qOT, qOF, qGT, qG0, qG1, qC0, qup_s]
    · simp (disch := omega) only [qlit, nI_add, pk_mul, qIX, qIN, qOB, qOL, qLE1, qLE0, qLT1, qLT0, qEQ1, qEQ0, qM0, qM1, qR, qN0, qMM, qNL1, qNL0, qNE1, qNE0, qB1, qB0, qOT, qOF, qGT, qG0, qG1, qC0, qup_n e]; exact q7 j (by omega)
  · show _ = nI (qdel Q.w k i)
    have hi' : i < Q.m - 1 := hi
    unfold qdel
    by_cases e : i < k
    · rw [if_pos e]; simp (disch := omega) only [qlit, nI_add, pk_mul, qIX, qIN, qOB, qOL, qLE1, qLE0, qLT1, qLT0, qEQ1, qEQ0, qM0, qM1, qR, qN0, qMM, qNL1, qNL0, qNE1, qNE0, qB1, qB0, qOT, qOF, qGT, qG0, qG1, qC2]; exact q8 i (by omega)
    · rw [if_neg e]; simp (disch := omega) only [qlit, nI_add, pk_mul, qIX, qIN, qOB, qOL, qLE1, qLE0, qLT1, qLT0, qEQ1, qEQ0, qM0, qM1, qR, qN0, qMM, qNL1, qNL0, qNE1, qNE0, qB1, qB0, qOT, qOF, qGT, qG0, qG1, qC1, qC0]
      rw [show k + 1 + (i - k) = i + 1 by omega]; exact q8 (i + 1) (by omega)
  · show _ = nI (Q.R (qdel Q.w k i))
    have hi' : i < Q.m - 1 := hi
    show gi _ 82 (qdel Q.w k i) = _
    simp (disch := omega) only [qlit, nI_add, pk_mul, qIX, qIN, qOB, qOL, qLE1, qLE0, qLT1, qLT0, qEQ1, qEQ0, qM0, qM1, qR, qN0, qMM, qNL1, qNL0, qNE1, qNE0, qB1, qB0, qOT, qOF, qGT, qG0, qG1, qC0]
    rw [qdel_get]
    exact q9 _ (by split <;> omega)
  · have : ∀ a b, ¬ PRf a b → (a ≠ 75 ∨ b ≠ 12) ∧ (a ≠ 75 ∨ b ≠ 10) ∧ (a ≠ 75 ∨ b ≠ 6) ∧ a ≠ 78 ∧ a ≠ 79 ∧ a ≠ 81 := by
      intro a b h; unfold PRf at h; omega
    refine ⟨fun a b h => ?_, rfl⟩
    obtain ⟨d1, d2, d3, d4, d5, d6⟩ := this a b h
    simp (disch := omega) only [qlit, nI_add, pk_mul, qIX, qIN, qOB, qOL, qLE1, qLE0, qLT1, qLT0, qEQ1, qEQ0, qM0, qM1, qR, qN0, qMM, qNL1, qNL0, qNE1, qNE0, qB1, qB0, qOT, qOF, qGT, qG0, qC0]
theorem r_room1 {r : Rd} {c π cur p : Nat} {S : St} {Q : Qt} (hW : RW r) (hM : RM r c π S) (hQ : QR r S Q) (hI : QI r cur Q) (hc : cur ≤ r.n) (hp : p < r.n) (hc2 : c ≤ 1000) (hpi : π ≤ 4) (h : c < qld Q + r.z p) : X8_makesRoom_0 (nI p) S = X8_makesRoom_79 (nI p) (if qvic r π p Q < Q.m then nI (qvic r π p Q) else -nI 1) S := by
  obtain ⟨b1, b2, b3, b4⟩ := q_bd hW hI hc
  have hz := hW.2.1 p hp
  have hof := r_of hW hM hp
  unfold X8_makesRoom_0 X8_makesRoom_78
  simp (disch := omega) only [qlit, nI_add, pk_mul, qIX, qIN, qOB, qOL, qLE1, qLE0, qLT1, qLT0, qEQ1, qEQ0, qM0, qM1, qR, qN0, qMM, qNL1, qNL0, qNE1, qNE0, qB1, qB0, qOT, qOF, qGT, hof.2.2, hQ.2.1, hM.2.2.1, hM.2.2.2.1]
  by_cases h1 : π = 1
  · subst h1
    simp (disch := omega) only [qlit, nI_add, pk_mul, qIX, qIN, qOB, qOL, qLE1, qLE0, qLT1, qLT0, qEQ1, qEQ0, qM0, qM1, qR, qN0, qMM, qNL1, qNL0, qNE1, qNE0, qB1, qB0, qOT, qOF, qGT, r_firstWhole hW hM hQ hI hc]
    rfl
  · by_cases h2 : π = 2
    · subst h2
      have hl6 := q_lg6 (r := r) (p := p) (Q := Q)
      simp (disch := omega) only [qlit, nI_add, pk_mul, qIX, qIN, qOB, qOL, qLE1, qLE0, qLT1, qLT0, qEQ1, qEQ0, qM0, qM1, qR, qN0, qMM, qNL1, qNL0, qNE1, qNE0, qB1, qB0, qOT, qOF, qGT, r_longest hW hM hQ hI hc hp, hof.2.1]
      have hv : qvic r 2 p Q = if qlg r p Q = r.f p then Q.m else qlw r Q (qlg r p Q) - 1 := rfl
      rw [hv]
      by_cases e : qlg r p Q = r.f p
      · rw [if_pos e, if_neg (Nat.lt_irrefl _)]
        simp (disch := omega) only [qlit, nI_add, pk_mul, qIX, qIN, qOB, qOL, qLE1, qLE0, qLT1, qLT0, qEQ1, qEQ0, qM0, qM1, qR, qN0, qMM, qNL1, qNL0, qNE1, qNE0, qB1, qB0, qOT, qOF, qGT]
      · have h5 := q_lw hz.2.2.1 hz.2.1 e
        rw [if_neg e, if_pos (by omega)]
        simp (disch := omega) only [qlit, nI_add, pk_mul, qIX, qIN, qOB, qOL, qLE1, qLE0, qLT1, qLT0, qEQ1, qEQ0, qM0, qM1, qR, qN0, qMM, qNL1, qNL0, qNE1, qNE0, qB1, qB0, qOT, qOF, qGT, r_lastWhole hW hM hQ hI hc hl6]
        rw [qix, if_pos h5.1]
    · have hv : qvic r π p Q = Q.m := by unfold qvic; rw [if_neg h1, if_neg h2]
      rw [hv, if_neg (Nat.lt_irrefl _)]
      simp (disch := omega) only [qlit, nI_add, pk_mul, qIX, qIN, qOB, qOL, qLE1, qLE0, qLT1, qLT0, qEQ1, qEQ0, qM0, qM1, qR, qN0, qMM, qNL1, qNL0, qNE1, qNE0, qB1, qB0, qOT, qOF, qGT]
theorem r_room {r : Rd} {c π cur p : Nat} (hW : RW r) (hc : cur ≤ r.n) (hp : p < r.n) (hc2 : c ≤ 1000) (hpi : π ≤ 4) (hzc : r.z p ≤ c) : ∀ (n : Nat) (Q : Qt) (S : St), Q.m < n → RM r c π S → QR r S Q → QI r cur Q →
    ∃ S', X8_makesRoom_0L (nI p) () S = some (if (qroom r c π p n Q).1 = true then .inr () else .inl (), S') ∧ QR r S' (qroom r c π p n Q).2 ∧ Fr PRf S S' := by
  intro n
  induction n with
  | zero => intro Q S h; omega
  | succ n ih =>
    intro Q S hm hM hQ hI
    obtain ⟨b1, b2, b3, b4⟩ := q_bd hW hI hc
    have hz := hW.2.1 p hp
    have hof := r_of hW hM hp
    unfold X8_makesRoom_0L
    rw [qroom]
    by_cases h1 : qld Q + r.z p ≤ c
    · rw [if_pos h1]
      refine ⟨S, lp_end ?_, hQ, Fr.rf⟩
      show X8_makesRoom_0 (nI p) S = _
      unfold X8_makesRoom_0
      simp (disch := omega) only [qlit, nI_add, pk_mul, qIX, qIN, qOB, qOL, qLE1, qLE0, qLT1, qLT0, qEQ1, qEQ0, qM0, qM1, qR, qN0, qMM, qNL1, qNL0, qNE1, qNE0, qB1, qB0, qOT, qOF, qGT, hof.2.2, hQ.2.1, hM.2.2.1]
      rfl
    · rw [if_neg h1]
      have h2 := r_room1 hW hM hQ hI hc hp hc2 hpi (by omega)
      by_cases h3 : qvic r π p Q < Q.m
      · rw [if_pos h3] at h2 ⊢
        obtain ⟨S1, e1, e2, e3⟩ := r_dropsAt hW hQ hI hc h3
        unfold X8_makesRoom_79 at h2
        have h4 : X8_makesRoom_0 (nI p) S = some (.inl (), S1) := by
          rw [h2]
          simp (disch := omega) only [qlit, nI_add, pk_mul, qIX, qIN, qOB, qOL, qLE1, qLE0, qLT1, qLT0, qEQ1, qEQ0, qM0, qM1, qR, qN0, qMM, qNL1, qNL0, qNE1, qNE0, qB1, qB0, qOT, qOF, qGT, e1]
        obtain ⟨S2, e4, e5, e6⟩ := ih (qrem (qvic r π p Q) (qnc (qld Q + r.z p) Q)) S1 (by show Q.m - 1 < n; omega) (hM.fr e3) e2 (qI_rem (qI_nc hI) h3)
        exact ⟨S2, lp_go h4 e4, e5, e3.tr e6⟩
      · rw [if_neg h3] at h2 ⊢
        refine ⟨S, lp_end ?_, hQ, Fr.rf⟩
        show X8_makesRoom_0 (nI p) S = _
        rw [h2]
        unfold X8_makesRoom_79
        simp (disch := omega) only [qlit, nI_add, pk_mul, qIX, qIN, qOB, qOL, qLE1, qLE0, qLT1, qLT0, qEQ1, qEQ0, qM0, qM1, qR, qN0, qMM, qNL1, qNL0, qNE1, qNE0, qB1, qB0, qOT, qOF, qGT]
        rfl
theorem qceil {a g x : Nat} (hg : 1 ≤ g) : (a + g - 1) / g ≤ x ↔ a ≤ g * x := by
  have h := Nat.div_lt_iff_lt_mul (x := a + g - 1) (y := x + 1) (k := g) (by omega)
  rw [Nat.add_mul, Nat.one_mul, Nat.mul_comm x g] at h
  constructor
  · intro h1
    have := h.mp (by omega)
    omega
  · intro h1
    have := h.mpr (by omega)
    omega
theorem r_over {r : Rd} {c π cur p : Nat} {S : St} {Q : Qt} (hW : RW r) (hM : RM r c π S) (hQ : QR r S Q) (hI : QI r cur Q) (hc : cur ≤ r.n) (hp : p < r.n) (hc2 : c ≤ 1000) (hl : qld Q ≤ c) : X8_isOverShare (nI p) S = some (if qld Q + qth r p Q ≤ c then nI 0 else nI 1, S) := by
  obtain ⟨b1, b2, b3, b4⟩ := q_bd hW hI hc
  obtain ⟨q1, q2, q3, q4, q5, q6, q7, q8, q9⟩ := hQ
  have hz := hW.2.1 p hp
  have hof := r_of hW hM hp
  have hg := hW.2.2.2.2.2.2.2.1
  have hg4 := hM.2.2.2.2 4 (by omega) (by omega) (by omega)
  have hin : X8_isOverShare_9L (nI p) (nI (r.z p), nI 0) S = some (nI (qown r p Q), S) := by
    unfold X8_isOverShare_9L
    refine lp_same Q.m (fun i => (nI (r.z p + qsm (fun k => if r.f (Q.w k) = r.f p then Q.R (Q.w k) else 0) i), nI i)) (fun i hi => ?_) ?_
    · obtain ⟨c1, c2, c3, c4, c5, c6⟩ := b4 i hi
      have ho := r_of hW hM c1
      unfold X8_isOverShare_9
      rw [qsm]
      by_cases e : r.f (Q.w i) = r.f p
      · rw [if_pos e]
        simp (disch := omega) only [qlit, nI_add, pk_mul, qIX, qIN, qOB, qOL, qLE1, qLE0, qLT1, qLT0, qEQ1, qEQ0, qM0, qM1, qR, qN0, qMM, qNL1, qNL0, qNE1, qNE0, qB1, qB0, qOT, qOF, qGT, q1, q8 i hi, q9 i hi, ho.2.1, hof.2.1, Nat.add_assoc]
      · rw [if_neg e]
        simp (disch := omega) only [qlit, nI_add, pk_mul, qIX, qIN, qOB, qOL, qLE1, qLE0, qLT1, qLT0, qEQ1, qEQ0, qM0, qM1, qR, qN0, qMM, qNL1, qNL0, qNE1, qNE0, qB1, qB0, qOT, qOF, qGT, q1, q8 i hi, q9 i hi, ho.2.1, hof.2.1, Nat.add_assoc]
    · unfold X8_isOverShare_9
      simp (disch := omega) only [qlit, nI_add, pk_mul, qIX, qIN, qOB, qOL, qLE1, qLE0, qLT1, qLT0, qEQ1, qEQ0, qM0, qM1, qR, qN0, qMM, qNL1, qNL0, qNE1, qNE0, qB1, qB0, qOT, qOF, qGT, q1]
      rfl
  have hbd : qown r p Q ≤ 4100 := by
    have := qsm_le (v := fun k => if r.f (Q.w k) = r.f p then Q.R (Q.w k) else 0) (c := 100) (m := Q.m) (fun k hk => by
      have := (b4 k hk).2.2.2.1
      show (if _ then _ else _) ≤ 100
      split <;> omega)
    unfold qown
    omega
  have hmul : r.g 4 * (c - qld Q) ≤ 16000 := Nat.mul_le_mul (show r.g 4 ≤ 16 by omega) (show c - qld Q ≤ 1000 by omega)
  have hcl := qceil (a := 4 * qown r p Q) (g := r.g 4) (x := c - qld Q) hg.1
  unfold X8_isOverShare
  have e125 : gi S 76 125 = nI (r.g 4) := hg4
  simp (disch := omega) only [qlit, nI_add, pk_mul, qIX, qIN, qOB, qOL, qLE1, qLE0, qLT1, qLT0, qEQ1, qEQ0, qM0, qM1, qR, qN0, qMM, qNL1, qNL0, qNE1, qNE0, qB1, qB0, qOT, qOF, qGT, hof.2.2, hin, e125, hM.2.2.1, q2, qSUB]
  by_cases e : 4 * qown r p Q ≤ r.g 4 * (c - qld Q)
  · rw [if_pos (by have := hcl.mpr e; unfold qth; omega)]
    simp (disch := omega) only [qlit, nI_add, pk_mul, qIX, qIN, qOB, qOL, qLE1, qLE0, qLT1, qLT0, qEQ1, qEQ0, qM0, qM1, qR, qN0, qMM, qNL1, qNL0, qNE1, qNE0, qB1, qB0, qOT, qOF, qGT]
  · rw [if_neg (by intro h; exact e (hcl.mp (by unfold qth at h; omega)))]
    simp (disch := omega) only [qlit, nI_add, pk_mul, qIX, qIN, qOB, qOL, qLE1, qLE0, qLT1, qLT0, qEQ1, qEQ0, qM0, qM1, qR, qN0, qMM, qNL1, qNL0, qNE1, qNE0, qB1, qB0, qOT, qOF, qGT]
theorem qroom_ok {r : Rd} {c π p : Nat} : ∀ (n : Nat) (Q : Qt), Q.m < n → (qroom r c π p n Q).1 = true → qld (qroom r c π p n Q).2 + r.z p ≤ c := by
  intro n
  induction n with
  | zero => intro Q h; omega
  | succ n ih =>
    intro Q hm h
    rw [qroom] at h ⊢
    by_cases h1 : qld Q + r.z p ≤ c
    · rw [if_pos h1]; exact h1
    · rw [if_neg h1] at h ⊢
      by_cases h2 : qvic r π p Q < Q.m
      · rw [if_pos h2] at h ⊢
        exact ih _ (by show Q.m - 1 < n; omega) h
      · rw [if_neg h2] at h
        cases h
theorem qadm_1 {r : Rd} {c π p : Nat} {Q : Qt} (h : c < r.z p) : qadm r c π p Q = (false, qnc (r.z p) Q) := if_pos h
theorem qadm_2 {r : Rd} {c π p : Nat} {Q Q1 : Qt} (h : r.z p ≤ c) (hG : qroom r c π p 41 Q = (false, Q1)) : qadm r c π p Q = (false, Q1) := by
  unfold qadm; rw [if_neg (by omega), hG, if_pos rfl]
theorem qadm_3 {r : Rd} {c π p : Nat} {Q Q1 : Qt} (h : r.z p ≤ c) (hG : qroom r c π p 41 Q = (true, Q1)) (h3 : π = 3) (h4 : qld Q1 + qth r p Q1 ≤ c) : qadm r c π p Q = (true, Q1) := by
  unfold qadm; rw [if_neg (by omega), hG, if_neg (by simp), if_pos h3, if_pos h4]
theorem qadm_4 {r : Rd} {c π p : Nat} {Q Q1 : Qt} (h : r.z p ≤ c) (hG : qroom r c π p 41 Q = (true, Q1)) (h3 : π = 3) (h4 : ¬ qld Q1 + qth r p Q1 ≤ c) : qadm r c π p Q = (false, qnc (qld Q1 + qth r p Q1) Q1) := by
  unfold qadm; rw [if_neg (by omega), hG, if_neg (by simp), if_pos h3, if_neg h4]
theorem qadm_5 {r : Rd} {c π p : Nat} {Q Q1 : Qt} (h : r.z p ≤ c) (hG : qroom r c π p 41 Q = (true, Q1)) (h3 : π = 4) (h4 : r.g 5 ≤ qld Q1) : qadm r c π p Q = (decide ((Q1.cn + 1) % r.g 6 ≠ 0), qcn Q1) := by
  unfold qadm; rw [if_neg (by omega), hG, if_neg (by simp), if_neg (by omega), if_pos ⟨h3, h4⟩]
theorem qadm_6 {r : Rd} {c π p : Nat} {Q Q1 : Qt} (h : r.z p ≤ c) (hG : qroom r c π p 41 Q = (true, Q1)) (h3 : π ≠ 3) (h4 : ¬ (π = 4 ∧ r.g 5 ≤ qld Q1)) : qadm r c π p Q = (true, Q1) := by
  unfold qadm; rw [if_neg (by omega), hG, if_neg (by simp), if_neg h3, if_neg h4]
theorem qif_t {β : Type} {x y : β} {i : Decidable True} : @ite β True i x y = x := if_pos trivial
theorem qif_f {β : Type} {x y : β} : (if false = true then x else y) = y := rfl
theorem r_accept {r : Rd} {c π p : Nat} {S : St} {Q : Qt} (hW : RW r) (hM : RM r c π S) (hQ : QR r S Q) (hI : QI r p Q) (hp : p < r.n) (hc2 : c ≤ 1000) (hpi : π ≤ 4) (hcn : Q.cn ≤ 40) :
    ∃ S', X8_isAccepted (nI p) S = some (if (qadm r c π p Q).1 = true then nI 1 else nI 0, S') ∧ QR r S' (qadm r c π p Q).2 ∧ Fr PRf S S' := by
  obtain ⟨b1, b2, b3, b4⟩ := q_bd hW hI (by omega)
  have hz := hW.2.1 p hp
  have hof := r_of hW hM hp
  have hg6 := hW.2.2.2.2.2.2.2.2.2.1
  have hg5 := hW.2.2.2.2.2.2.2.2.1
  unfold X8_isAccepted
  by_cases h1 : c < r.z p
  · rw [qadm_1 h1]
    simp (disch := omega) only [qlit, nI_add, pk_mul, qIX, qIN, qOB, qOL, qLE1, qLE0, qLT1, qLT0, qEQ1, qEQ0, qM0, qM1, qR, qN0, qMM, qNL1, qNL0, qNE1, qNE0, qB1, qB0, qOT, qOF, qGT, hof.2.2, hM.2.2.1, qif_t, qif_f]
    exact ⟨S, rfl, hQ, Fr.rf⟩
  · have h1' : r.z p ≤ c := by omega
    obtain ⟨S1, e1, e2, e3⟩ := r_room (cur := p) hW (by omega) hp hc2 hpi h1' 41 Q S (by omega) hM hQ hI
    have hI1 : QI r p (qroom r c π p 41 Q).2 := qroom_ind (fun Q => QI r p Q) (fun x Q h => qI_nc h) (fun k Q hk h => qI_rem h hk) 41 Q hI
    have hcn1 : (qroom r c π p 41 Q).2.cn ≤ 40 := qroom_ind (fun Q => Q.cn ≤ 40) (fun x Q h => h) (fun k Q hk h => h) 41 Q hcn
    have hok := qroom_ok (r := r) (c := c) (π := π) (p := p) 41 Q (by omega)
    have hM1 := hM.fr e3
    rcases hG : qroom r c π p 41 Q with ⟨g, Q1⟩
    rw [hG] at e1 e2 hI1 hcn1 hok
    simp only at e1 e2 hI1 hcn1 hok
    unfold X8_makesRoom
    simp (disch := omega) only [qlit, nI_add, pk_mul, qIX, qIN, qOB, qOL, qLE1, qLE0, qLT1, qLT0, qEQ1, qEQ0, qM0, qM1, qR, qN0, qMM, qNL1, qNL0, qNE1, qNE0, qB1, qB0, qOT, qOF, qGT, hof.2.2, hM.2.2.1, e1]
    cases g with
    | false =>
      rw [qadm_2 h1' hG]
      simp (disch := omega) only [qlit, nI_add, pk_mul, qIX, qIN, qOB, qOL, qLE1, qLE0, qLT1, qLT0, qEQ1, qEQ0, qM0, qM1, qR, qN0, qMM, qNL1, qNL0, qNE1, qNE0, qB1, qB0, qOT, qOF, qGT, qif_t, qif_f]
      exact ⟨S1, rfl, e2, e3⟩
    | true =>
      have hok' := hok rfl
      obtain ⟨d1, d2, d3, d4⟩ := q_bd hW hI1 (by omega)
      simp (disch := omega) only [qlit, nI_add, pk_mul, qIX, qIN, qOB, qOL, qLE1, qLE0, qLT1, qLT0, qEQ1, qEQ0, qM0, qM1, qR, qN0, qMM, qNL1, qNL0, qNE1, qNE0, qB1, qB0, qOT, qOF, qGT, hM1.2.2.2.1, qif_t, qif_f]
      by_cases h3 : π = 3
      · simp (disch := omega) only [qlit, nI_add, pk_mul, qIX, qIN, qOB, qOL, qLE1, qLE0, qLT1, qLT0, qEQ1, qEQ0, qM0, qM1, qR, qN0, qMM, qNL1, qNL0, qNE1, qNE0, qB1, qB0, qOT, qOF, qGT, r_over hW hM1 e2 hI1 (by omega) hp hc2 (by omega)]
        by_cases h4 : qld Q1 + qth r p Q1 ≤ c
        · rw [qadm_3 h1' hG h3 h4, if_pos h4]
          simp (disch := omega) only [qlit, nI_add, pk_mul, qIX, qIN, qOB, qOL, qLE1, qLE0, qLT1, qLT0, qEQ1, qEQ0, qM0, qM1, qR, qN0, qMM, qNL1, qNL0, qNE1, qNE0, qB1, qB0, qOT, qOF, qGT, qif_t, qif_f]
          exact ⟨S1, rfl, e2, e3⟩
        · rw [qadm_4 h1' hG h3 h4, if_neg h4]
          simp (disch := omega) only [qlit, nI_add, pk_mul, qIX, qIN, qOB, qOL, qLE1, qLE0, qLT1, qLT0, qEQ1, qEQ0, qM0, qM1, qR, qN0, qMM, qNL1, qNL0, qNE1, qNE0, qB1, qB0, qOT, qOF, qGT, qif_t, qif_f]
          exact ⟨S1, rfl, e2, e3⟩
      · simp (disch := omega) only [qlit, nI_add, pk_mul, qIX, qIN, qOB, qOL, qLE1, qLE0, qLT1, qLT0, qEQ1, qEQ0, qM0, qM1, qR, qN0, qMM, qNL1, qNL0, qNE1, qNE0, qB1, qB0, qOT, qOF, qGT]
        by_cases h4 : π = 4
        · have e126 : gi S1 76 126 = nI (r.g 5) := hM1.2.2.2.2 5 (by omega) (by omega) (by omega)
          have e127 : gi S1 76 127 = nI (r.g 6) := hM1.2.2.2.2 6 (by omega) (by omega) (by omega)
          simp (disch := omega) only [qlit, nI_add, pk_mul, qIX, qIN, qOB, qOL, qLE1, qLE0, qLT1, qLT0, qEQ1, qEQ0, qM0, qM1, qR, qN0, qMM, qNL1, qNL0, qNE1, qNE0, qB1, qB0, qOT, qOF, qGT, e2.2.1, e126]
          by_cases h5 : r.g 5 ≤ qld Q1
          · rw [qadm_5 h1' hG h4 h5]
            simp (disch := omega) only [qlit, nI_add, pk_mul, qIX, qIN, qOB, qOL, qLE1, qLE0, qLT1, qLT0, qEQ1, qEQ0, qM0, qM1, qR, qN0, qMM, qNL1, qNL0, qNE1, qNE0, qB1, qB0, qOT, qOF, qGT, qG0, qG1, e127, e2.2.2.2.1, qNZ, pk_rem]
            have hm := Nat.mod_lt (Q1.cn + 1) (show 0 < r.g 6 by omega)
            refine ⟨si S1 75 13 (nI (Q1.cn + 1)), ?_, ⟨?_, ?_, ?_, ?_, ?_, ?_, ?_, ?_, ?_⟩, e3.si (by unfold PRf; omega)⟩
            · by_cases h6 : (Q1.cn + 1) % r.g 6 = 0
              · simp (disch := omega) only [qlit, nI_add, pk_mul, qIX, qIN, qOB, qOL, qLE1, qLE0, qLT1, qLT0, qEQ1, qEQ0, qM0, qM1, qR, qN0, qMM, qNL1, qNL0, qNE1, qNE0, qB1, qB0, qOT, qOF, qGT, h6]
                simp
              · simp (disch := omega) only [qlit, nI_add, pk_mul, qIX, qIN, qOB, qOL, qLE1, qLE0, qLT1, qLT0, qEQ1, qEQ0, qM0, qM1, qR, qN0, qMM, qNL1, qNL0, qNE1, qNE0, qB1, qB0, qOT, qOF, qGT]
                simp [h6]
            · exact e2.1
            · exact e2.2.1
            · exact e2.2.2.1
            · rfl
            · exact e2.2.2.2.2.1
            · exact e2.2.2.2.2.2.1
            · exact e2.2.2.2.2.2.2.1
            · exact e2.2.2.2.2.2.2.2.1
            · exact e2.2.2.2.2.2.2.2.2
          · rw [qadm_6 h1' hG h3 (fun h => h5 h.2)]
            simp (disch := omega) only [qlit, nI_add, pk_mul, qIX, qIN, qOB, qOL, qLE1, qLE0, qLT1, qLT0, qEQ1, qEQ0, qM0, qM1, qR, qN0, qMM, qNL1, qNL0, qNE1, qNE0, qB1, qB0, qOT, qOF, qGT, qif_t, qif_f]
            exact ⟨S1, rfl, e2, e3⟩
        · rw [qadm_6 h1' hG h3 (fun h => h4 h.1)]
          simp (disch := omega) only [qlit, nI_add, pk_mul, qIX, qIN, qOB, qOL, qLE1, qLE0, qLT1, qLT0, qEQ1, qEQ0, qM0, qM1, qR, qN0, qMM, qNL1, qNL0, qNE1, qNE0, qB1, qB0, qOT, qOF, qGT, qif_t, qif_f]
          exact ⟨S1, rfl, e2, e3⟩
theorem r_arrives {r : Rd} {c π p : Nat} {S : St} {Q : Qt} (hW : RW r) (hM : RM r c π S) (hQ : QR r S Q) (hI : QI r p Q) (hp : p < r.n) (hc2 : c ≤ 1000) (hpi : π ≤ 4) (hcn : Q.cn ≤ 40) :
    ∃ S', X8_arrives (nI p) S = some ((), S') ∧ QR r S' (qarr r c π p Q) ∧ Fr PRf S S' := by
  obtain ⟨S1, e1, e2, e3⟩ := r_accept hW hM hQ hI hp hc2 hpi hcn
  have hz := hW.2.1 p hp
  have hM1 := hM.fr e3
  have hof := r_of hW hM1 hp
  have hn := hW.1
  have hI1 : QI r p (qadm r c π p Q).2 := qadm_ind (fun Q => QI r p Q) (fun x Q h => qI_nc h) (fun k Q hk h => qI_rem h hk) (fun Q h => qI_cn h) Q hI
  obtain ⟨d1, d2, d3, d4⟩ := q_bd hW hI1 (by omega)
  unfold X8_arrives qarr
  rcases hG : qadm r c π p Q with ⟨g, Q1⟩
  rw [hG] at e1 e2 hI1 d1 d2 d3 d4
  simp only at e1 e2 hI1 d1 d2 d3 d4
  have hdm := hI1.2.2.2.1
  obtain ⟨q1, q2, q3, q4, q5, q6, q7, q8, q9⟩ := e2
  rw [e1, qOB]
  cases g with
  | false =>
    simp (disch := omega) only [qlit, nI_add, pk_mul, qIX, qIN, qOB, qOL, qLE1, qLE0, qLT1, qLT0, qEQ1, qEQ0, qM0, qM1, qR, qN0, qMM, qNL1, qNL0, qNE1, qNE0, qB1, qB0, qOT, qOF, qGT, qif_t, qif_f, r_drops q5 (show p < 40 by omega) (show Q1.dm < 40 by omega)]
    refine ⟨_, rfl, ⟨?_, ?_, ?_, ?_, ?_, fun x hx => ?_, fun j hj => ?_, fun i hi => ?_, fun i hi => ?_⟩, ?_⟩
    · simp (disch := omega) only [qlit, nI_add, pk_mul, qIX, qIN, qOB, qOL, qLE1, qLE0, qLT1, qLT0, qEQ1, qEQ0, qM0, qM1, qR, qN0, qMM, qNL1, qNL0, qNE1, qNE0, qB1, qB0, qOT, qOF, qGT, qG0]; exact q1
    · simp (disch := omega) only [qlit, nI_add, pk_mul, qIX, qIN, qOB, qOL, qLE1, qLE0, qLT1, qLT0, qEQ1, qEQ0, qM0, qM1, qR, qN0, qMM, qNL1, qNL0, qNE1, qNE0, qB1, qB0, qOT, qOF, qGT, qG0]; exact q2
    · simp (disch := omega) only [qlit, nI_add, pk_mul, qIX, qIN, qOB, qOL, qLE1, qLE0, qLT1, qLT0, qEQ1, qEQ0, qM0, qM1, qR, qN0, qMM, qNL1, qNL0, qNE1, qNE0, qB1, qB0, qOT, qOF, qGT, qG0]; exact q3
    · simp (disch := omega) only [qlit, nI_add, pk_mul, qIX, qIN, qOB, qOL, qLE1, qLE0, qLT1, qLT0, qEQ1, qEQ0, qM0, qM1, qR, qN0, qMM, qNL1, qNL0, qNE1, qNE0, qB1, qB0, qOT, qOF, qGT, qG0]; exact q4
    · simp (disch := omega) only [qlit, nI_add, pk_mul, qIX, qIN, qOB, qOL, qLE1, qLE0, qLT1, qLT0, qEQ1, qEQ0, qM0, qM1, qR, qN0, qMM, qNL1, qNL0, qNE1, qNE0, qB1, qB0, qOT, qOF, qGT, qG1]; rfl
    · show _ = qup Q1.F p (-nI 2) x
      by_cases e : x = p
      · subst e; simp (disch := omega) only [qlit, nI_add, pk_mul, qIX, qIN, qOB, qOL, qLE1, qLE0, qLT1, qLT0, qEQ1, qEQ0, qM0, qM1, qR, qN0, qMM, qNL1, qNL0, qNE1, qNE0, qB1, qB0, qOT, qOF, qGT, qG0, qG1, qup_s]
      · simp (disch := omega) only [qlit, nI_add, pk_mul, qIX, qIN, qOB, qOL, qLE1, qLE0, qLT1, qLT0, qEQ1, qEQ0, qM0, qM1, qR, qN0, qMM, qNL1, qNL0, qNE1, qNE0, qB1, qB0, qOT, qOF, qGT, qG0, qup_n e]; exact q6 x hx
    · show _ = nI (qup Q1.D Q1.dm p j)
      have hj' : j < Q1.dm + 1 := hj
      by_cases e : j = Q1.dm
      · subst e; simp (disch := omega) only [qlit, nI_add, pk_mul, qIX, qIN, qOB, qOL, qLE1, qLE0, qLT1, qLT0, qEQ1, qEQ0, qM0, qM1, qR, qN0, qMM, qNL1, qNL0, qNE1, qNE0, qB1, qB0, qOT, qOF, qGT, qG0, qG1, qup_s]
      · simp (disch := omega) only [qlit, nI_add, pk_mul, qIX, qIN, qOB, qOL, qLE1, qLE0, qLT1, qLT0, qEQ1, qEQ0, qM0, qM1, qR, qN0, qMM, qNL1, qNL0, qNE1, qNE0, qB1, qB0, qOT, qOF, qGT, qG0, qup_n e]; exact q7 j (by omega)
    · simp (disch := omega) only [qlit, nI_add, pk_mul, qIX, qIN, qOB, qOL, qLE1, qLE0, qLT1, qLT0, qEQ1, qEQ0, qM0, qM1, qR, qN0, qMM, qNL1, qNL0, qNE1, qNE0, qB1, qB0, qOT, qOF, qGT, qG0]; exact q8 i hi
    · simp (disch := omega) only [qlit, nI_add, pk_mul, qIX, qIN, qOB, qOL, qLE1, qLE0, qLT1, qLT0, qEQ1, qEQ0, qM0, qM1, qR, qN0, qMM, qNL1, qNL0, qNE1, qNE0, qB1, qB0, qOT, qOF, qGT, qG0]; exact q9 i hi
    · exact ((e3.si (by unfold PRf; omega)).si (by unfold PRf; omega)).si (by unfold PRf; omega)
  | true =>
    simp (disch := omega) only [qlit, nI_add, pk_mul, qIX, qIN, qOB, qOL, qLE1, qLE0, qLT1, qLT0, qEQ1, qEQ0, qM0, qM1, qR, qN0, qMM, qNL1, qNL0, qNE1, qNE0, qB1, qB0, qOT, qOF, qGT, qif_t, qif_f, hof.2.2, qG0, qG1, q1, q2]
    refine ⟨_, rfl, ⟨?_, ?_, ?_, ?_, ?_, fun x hx => ?_, fun j hj => ?_, fun i hi => ?_, fun i hi => ?_⟩, ?_⟩
    · simp (disch := omega) only [qlit, nI_add, pk_mul, qIX, qIN, qOB, qOL, qLE1, qLE0, qLT1, qLT0, qEQ1, qEQ0, qM0, qM1, qR, qN0, qMM, qNL1, qNL0, qNE1, qNE0, qB1, qB0, qOT, qOF, qGT, qG0, qG1]; rfl
    · simp (disch := omega) only [qlit, nI_add, pk_mul, qIX, qIN, qOB, qOL, qLE1, qLE0, qLT1, qLT0, qEQ1, qEQ0, qM0, qM1, qR, qN0, qMM, qNL1, qNL0, qNE1, qNE0, qB1, qB0, qOT, qOF, qGT, qG0, qG1]; rw [qld_acc hI1]
    · simp (disch := omega) only [qlit, nI_add, pk_mul, qIX, qIN, qOB, qOL, qLE1, qLE0, qLT1, qLT0, qEQ1, qEQ0, qM0, qM1, qR, qN0, qMM, qNL1, qNL0, qNE1, qNE0, qB1, qB0, qOT, qOF, qGT, qG0]; exact q3
    · simp (disch := omega) only [qlit, nI_add, pk_mul, qIX, qIN, qOB, qOL, qLE1, qLE0, qLT1, qLT0, qEQ1, qEQ0, qM0, qM1, qR, qN0, qMM, qNL1, qNL0, qNE1, qNE0, qB1, qB0, qOT, qOF, qGT, qG0]; exact q4
    · simp (disch := omega) only [qlit, nI_add, pk_mul, qIX, qIN, qOB, qOL, qLE1, qLE0, qLT1, qLT0, qEQ1, qEQ0, qM0, qM1, qR, qN0, qMM, qNL1, qNL0, qNE1, qNE0, qB1, qB0, qOT, qOF, qGT, qG0]; exact q5
    · simp (disch := omega) only [qlit, nI_add, pk_mul, qIX, qIN, qOB, qOL, qLE1, qLE0, qLT1, qLT0, qEQ1, qEQ0, qM0, qM1, qR, qN0, qMM, qNL1, qNL0, qNE1, qNE0, qB1, qB0, qOT, qOF, qGT, qG0]; exact q6 x hx
    · simp (disch := omega) only [qlit, nI_add, pk_mul, qIX, qIN, qOB, qOL, qLE1, qLE0, qLT1, qLT0, qEQ1, qEQ0, qM0, qM1, qR, qN0, qMM, qNL1, qNL0, qNE1, qNE0, qB1, qB0, qOT, qOF, qGT, qG0]; exact q7 j hj
    · show _ = nI (qup Q1.w Q1.m p i)
      have hi' : i < Q1.m + 1 := hi
      by_cases e : i = Q1.m
      · subst e; simp (disch := omega) only [qlit, nI_add, pk_mul, qIX, qIN, qOB, qOL, qLE1, qLE0, qLT1, qLT0, qEQ1, qEQ0, qM0, qM1, qR, qN0, qMM, qNL1, qNL0, qNE1, qNE0, qB1, qB0, qOT, qOF, qGT, qG0, qG1, qup_s]
      · simp (disch := omega) only [qlit, nI_add, pk_mul, qIX, qIN, qOB, qOL, qLE1, qLE0, qLT1, qLT0, qEQ1, qEQ0, qM0, qM1, qR, qN0, qMM, qNL1, qNL0, qNE1, qNE0, qB1, qB0, qOT, qOF, qGT, qG0, qup_n e]; exact q8 i (by omega)
    · show gi _ 82 (qup Q1.w Q1.m p i) = nI (qup Q1.R p (r.z p) (qup Q1.w Q1.m p i))
      have hi' : i < Q1.m + 1 := hi
      by_cases e : i = Q1.m
      · subst e; simp (disch := omega) only [qlit, nI_add, pk_mul, qIX, qIN, qOB, qOL, qLE1, qLE0, qLT1, qLT0, qEQ1, qEQ0, qM0, qM1, qR, qN0, qMM, qNL1, qNL0, qNE1, qNE0, qB1, qB0, qOT, qOF, qGT, qG0, qG1, qup_s]
      · have hw := (hI1.2.1 i (by omega)).1
        rw [qup_n e, qup_n (show Q1.w i ≠ p by omega)]
        simp (disch := omega) only [qlit, nI_add, pk_mul, qIX, qIN, qOB, qOL, qLE1, qLE0, qLT1, qLT0, qEQ1, qEQ0, qM0, qM1, qR, qN0, qMM, qNL1, qNL0, qNE1, qNE0, qB1, qB0, qOT, qOF, qGT, qG0]; exact q9 i (by omega)
    · exact (((e3.si (by unfold PRf; omega)).si (by unfold PRf; omega)).si (by unfold PRf; omega)).si (by unfold PRf; omega)
