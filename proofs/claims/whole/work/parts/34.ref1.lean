/-! ===== the reference's replay: its small steps ===== -/
theorem qIX {n : Nat} (h : n < 2147483648) : ix (nI n) = n := nI_clamp h
theorem qOT {α : Type} {x y : Option α} {i : Decidable True} : @oi α True i x y = x := if_pos trivial
theorem qOF {α : Type} {x y : Option α} {i : Decidable False} : @oi α False i x y = y := if_neg id
theorem qGT {α : Type} {x : Option α} {i : Decidable True} : @og α True i x = x := if_pos trivial
theorem lp_find {body : Int32 → St → Option ((Int32 ⊕ (Int32 ⊕ Unit)) × St)} {P : Nat → Bool} {S : St} {m : Nat} (h0 : ∀ i, i < m → P i = false → body (nI i) S = some (.inl (nI (i + 1)), S)) (h1 : ∀ i, i < m → P i = true → body (nI i) S = some (.inr (.inl (nI i)), S)) (h2 : body (nI m) S = some (.inr (.inr ()), S)) :
    lp body (nI 0) S = some (if qfnd P m < m then .inl (nI (qfnd P m)) else .inr (), S) := by
  obtain ⟨a, b, c⟩ := qfnd_sp (P := P) m
  refine lp_same (qfnd P m) (fun i => nI i) (fun i hi => h0 i (by omega) (c i hi)) ?_
  by_cases h : qfnd P m < m
  · rw [if_pos h]; exact h1 _ h (b h)
  · rw [if_neg h, show qfnd P m = m by omega]; exact h2
theorem sc_si {S : St} {q k sp dp i : Nat} : si (sc S q k sp dp i) k (dp + i) (gi S q (sp + i)) = sc S q k sp dp (i + 1) := by
  refine Prod.ext ?_ rfl
  funext a b
  show gi (si _ _ _ _) a b = gi (sc _ _ _ _ _ _) a b
  rw [gi_si, gi_sc, gi_sc]
  by_cases ha : a = k
  · by_cases hb : b = dp + i
    · rw [if_pos ⟨ha, hb⟩, if_pos ha, hb, pk_cpy_in (by omega) (by omega), show sp + (dp + i - dp) = sp + i by omega]
    · rw [if_neg (by omega), if_pos ha, if_pos ha]
      by_cases hc : dp ≤ b ∧ b < dp + i
      · rw [pk_cpy_in hc.1 hc.2, pk_cpy_in hc.1 (by omega)]
      · rw [pk_cpy_out (by omega), pk_cpy_out (by omega)]
  · rw [if_neg (by omega), if_neg ha, if_neg ha]
theorem sc_0 {S : St} {q k sp dp : Nat} : sc S q k sp dp 0 = S := by
  refine Prod.ext ?_ rfl
  funext a b
  show gi (sc _ _ _ _ _ _) a b = gi S a b
  rw [gi_sc]
  by_cases ha : a = k
  · rw [if_pos ha, pk_cpy_out (by omega), ha]
  · rw [if_neg ha]
/-- the reference's recording -/
def RM (r : Rd) (c π : Nat) (S : St) : Prop :=
  gi S 76 0 = nI r.n ∧ (∀ p, p < r.n → gi S 76 (1 + 3 * p + 0) = nI (r.t p) ∧ gi S 76 (1 + 3 * p + 1) = nI (r.f p) ∧ gi S 76 (1 + 3 * p + 2) = nI (r.z p)) ∧ gi S 76 121 = nI c ∧ gi S 76 123 = nI π ∧ (∀ j, j < 14 → j ≠ 0 → j ≠ 2 → gi S 76 (121 + j) = nI (r.g j))
/-- the reference's queue -/
def QR (r : Rd) (S : St) (Q : Qt) : Prop :=
  gi S 75 10 = nI Q.m ∧ gi S 75 12 = nI (qld Q) ∧ gi S 75 14 = nI Q.lf ∧ gi S 75 13 = nI Q.cn ∧ gi S 75 6 = nI Q.dm ∧ (∀ p, p < r.n → gi S 78 p = Q.F p) ∧ (∀ j, j < Q.dm → gi S 79 j = nI (Q.D j)) ∧ (∀ k, k < Q.m → gi S 81 k = nI (Q.w k)) ∧ (∀ k, k < Q.m → gi S 82 (Q.w k) = nI (Q.R (Q.w k)))
theorem RM.cg {r : Rd} {c π : Nat} {S T : St} (h : RM r c π S) (e : ∀ b, gi T 76 b = gi S 76 b) : RM r c π T := by
  unfold RM
  simp only [e]
  exact h
theorem q_bd {r : Rd} {cur : Nat} {Q : Qt} (hW : RW r) (hI : QI r cur Q) (hc : cur ≤ r.n) : Q.m ≤ 40 ∧ Q.dm + Q.m ≤ 40 ∧ qld Q ≤ 4000 ∧ (∀ k, k < Q.m → Q.w k < r.n ∧ Q.w k < 40 ∧ 1 ≤ Q.R (Q.w k) ∧ Q.R (Q.w k) ≤ 100 ∧ r.f (Q.w k) < 6 ∧ r.z (Q.w k) ≤ 100) := by
  have h1 := hW.1
  have h2 := hI.2.2.2.1
  have h3 := qld_le hI hW hc
  refine ⟨by omega, by omega, by omega, fun k hk => ?_⟩
  have h4 := hI.2.1 k hk
  have h5 := hW.2.1 (Q.w k) (by omega)
  omega
theorem r_of {r : Rd} {c π : Nat} {S : St} (hW : RW r) (hM : RM r c π S) {p : Nat} (hp : p < r.n) : X8_of (nI p) (nI 0) S = some (nI (r.t p), S) ∧ X8_of (nI p) (nI 1) S = some (nI (r.f p), S) ∧ X8_of (nI p) (nI 2) S = some (nI (r.z p), S) := by
  have h1 := hW.1
  have h2 := hM.2.1 p hp
  unfold X8_of
  refine ⟨?_, ?_, ?_⟩ <;> simp (disch := omega) only [qlit, nI_add, pk_mul, qIX, qIN, qOB, qOL, qLE1, qLE0, qLT1, qLT0, qEQ1, qEQ0, qM0, qM1, qR, qN0, qMM, qNL1, qNL0, qNE1, qNE0, qB1, qB0, qOT, qOF, qGT]
  · rw [h2.1]
  · rw [h2.2.1]
  · rw [h2.2.2]
theorem r_wh {r : Rd} {c π : Nat} {S : St} {p x : Nat} (hW : RW r) (hM : RM r c π S) (hp : p < r.n) (hx : gi S 82 p = nI x) (hx2 : x ≤ 100) : X8_isWhole (nI p) S = some (if x = r.z p then nI 1 else nI 0, S) := by
  have h1 := hW.1
  have h2 := hW.2.1 p hp
  unfold X8_isWhole
  simp (disch := omega) only [qlit, nI_add, pk_mul, qIX, qIN, qOB, qOL, qLE1, qLE0, qLT1, qLT0, qEQ1, qEQ0, qM0, qM1, qR, qN0, qMM, qNL1, qNL0, qNE1, qNE0, qB1, qB0, qOT, qOF, qGT, (r_of hW hM hp).2.2, hx]
  by_cases e : x = r.z p
  · simp (disch := omega) only [qlit, nI_add, pk_mul, qIX, qIN, qOB, qOL, qLE1, qLE0, qLT1, qLT0, qEQ1, qEQ0, qM0, qM1, qR, qN0, qMM, qNL1, qNL0, qNE1, qNE0, qB1, qB0, qOT, qOF, qGT, if_pos e]
  · simp (disch := omega) only [qlit, nI_add, pk_mul, qIX, qIN, qOB, qOL, qLE1, qLE0, qLT1, qLT0, qEQ1, qEQ0, qM0, qM1, qR, qN0, qMM, qNL1, qNL0, qNE1, qNE0, qB1, qB0, qOT, qOF, qGT, if_neg e]
theorem r_firstWhole {r : Rd} {c π cur : Nat} {S : St} {Q : Qt} (hW : RW r) (hM : RM r c π S) (hQ : QR r S Q) (hI : QI r cur Q) (hc : cur ≤ r.n) : X8_firstWhole S = some (if qfnd (qwh r Q) Q.m < Q.m then nI (qfnd (qwh r Q) Q.m) else -nI 1, S) := by
  obtain ⟨b1, b2, b3, b4⟩ := q_bd hW hI hc
  obtain ⟨q1, q2, q3, q4, q5, q6, q7, q8, q9⟩ := hQ
  unfold X8_firstWhole X8_firstWhole_2L
  rw [qlit 0, lp_find (P := qwh r Q) (m := Q.m)]
  · by_cases h : qfnd (qwh r Q) Q.m < Q.m
    · rw [if_pos h, if_pos h, qOB]
    · rw [if_neg h, if_neg h, qOB, qlit]
  · intro i hi hp
    obtain ⟨c1, c2, c3, c4, c5, c6⟩ := b4 i hi
    have hw := r_wh hW hM c1 (q9 i hi) c4
    rw [if_neg (by simpa [qwh] using hp)] at hw
    unfold X8_firstWhole_2
    simp (disch := omega) only [qlit, nI_add, pk_mul, qIX, qIN, qOB, qOL, qLE1, qLE0, qLT1, qLT0, qEQ1, qEQ0, qM0, qM1, qR, qN0, qMM, qNL1, qNL0, qNE1, qNE0, qB1, qB0, qOT, qOF, qGT, q1, q8 i hi, hw]
  · intro i hi hp
    obtain ⟨c1, c2, c3, c4, c5, c6⟩ := b4 i hi
    have hw := r_wh hW hM c1 (q9 i hi) c4
    rw [if_pos (by simpa [qwh] using hp)] at hw
    unfold X8_firstWhole_2
    simp (disch := omega) only [qlit, nI_add, pk_mul, qIX, qIN, qOB, qOL, qLE1, qLE0, qLT1, qLT0, qEQ1, qEQ0, qM0, qM1, qR, qN0, qMM, qNL1, qNL0, qNE1, qNE0, qB1, qB0, qOT, qOF, qGT, q1, q8 i hi, hw]
  · unfold X8_firstWhole_2
    simp (disch := omega) only [qlit, nI_add, pk_mul, qIX, qIN, qOB, qOL, qLE1, qLE0, qLT1, qLT0, qEQ1, qEQ0, qM0, qM1, qR, qN0, qMM, qNL1, qNL0, qNE1, qNE0, qB1, qB0, qOT, qOF, qGT, q1]
def qix (x : Nat) : Int32 := if 0 < x then nI (x - 1) else -nI 1
theorem r_lastWhole {r : Rd} {c π cur fl : Nat} {S : St} {Q : Qt} (hW : RW r) (hM : RM r c π S) (hQ : QR r S Q) (hI : QI r cur Q) (hc : cur ≤ r.n) (hfl : fl < 6) : X8_lastWhole (nI fl) S = some (qix (qlw r Q fl), S) := by
  obtain ⟨b1, b2, b3, b4⟩ := q_bd hW hI hc
  obtain ⟨q1, q2, q3, q4, q5, q6, q7, q8, q9⟩ := hQ
  unfold X8_lastWhole X8_lastWhole_4L
  have hl : lp (fun (a : Int32 × Int32) (S : St) => X8_lastWhole_4 (nI fl) a.1 a.2 S) (-nI 1, nI 0) S = some (qix (qlw r Q fl), S) := by
    refine lp_same Q.m (fun i => (qix (qlst (fun k => decide (Q.R (Q.w k) = r.z (Q.w k) ∧ r.f (Q.w k) = fl)) i), nI i)) (fun i hi => ?_) ?_
    · obtain ⟨c1, c2, c3, c4, c5, c6⟩ := b4 i hi
      have hw := r_wh hW hM c1 (q9 i hi) c4
      have ho := (r_of hW hM c1).2.1
      unfold X8_lastWhole_4
      rw [qlst]
      by_cases e1 : Q.R (Q.w i) = r.z (Q.w i)
      · rw [if_pos e1] at hw
        by_cases e2 : r.f (Q.w i) = fl
        · rw [if_pos (by simp [e1, e2])]
          simp (disch := omega) only [qlit, nI_add, pk_mul, qIX, qIN, qOB, qOL, qLE1, qLE0, qLT1, qLT0, qEQ1, qEQ0, qM0, qM1, qR, qN0, qMM, qNL1, qNL0, qNE1, qNE0, qB1, qB0, qOT, qOF, qGT, q1, q8 i hi, hw, ho]
          simp [qix]
        · rw [if_neg (by simp [e2])]
          simp (disch := omega) only [qlit, nI_add, pk_mul, qIX, qIN, qOB, qOL, qLE1, qLE0, qLT1, qLT0, qEQ1, qEQ0, qM0, qM1, qR, qN0, qMM, qNL1, qNL0, qNE1, qNE0, qB1, qB0, qOT, qOF, qGT, q1, q8 i hi, hw, ho]
      · rw [if_neg e1] at hw
        rw [if_neg (by simp [e1])]
        simp (disch := omega) only [qlit, nI_add, pk_mul, qIX, qIN, qOB, qOL, qLE1, qLE0, qLT1, qLT0, qEQ1, qEQ0, qM0, qM1, qR, qN0, qMM, qNL1, qNL0, qNE1, qNE0, qB1, qB0, qOT, qOF, qGT, q1, q8 i hi, hw, ho]
    · unfold X8_lastWhole_4
      simp (disch := omega) only [qlit, nI_add, pk_mul, qIX, qIN, qOB, qOL, qLE1, qLE0, qLT1, qLT0, qEQ1, qEQ0, qM0, qM1, qR, qN0, qMM, qNL1, qNL0, qNE1, qNE0, qB1, qB0, qOT, qOF, qGT, q1]
      rfl
  simp only [qlit]
  rw [hl, qOB]
theorem r_longest {r : Rd} {c π cur p : Nat} {S : St} {Q : Qt} (hW : RW r) (hM : RM r c π S) (hQ : QR r S Q) (hI : QI r cur Q) (hc : cur ≤ r.n) (hp : p < r.n) : X8_longest (nI p) S = some (nI (qlg r p Q), S) := by
  obtain ⟨b1, b2, b3, b4⟩ := q_bd hW hI hc
  obtain ⟨q1, q2, q3, q4, q5, q6, q7, q8, q9⟩ := hQ
  have hz := hW.2.1 p hp
  have hof := r_of hW hM hp
  have hin : ∀ (x2 x3 : Int32) (fl z0 : Nat), fl < 6 → X8_longest_40L (nI p) x2 x3 (nI fl) (nI z0, nI 0) S = some (nI (z0 + qsm (fun k => if Q.R (Q.w k) = r.z (Q.w k) ∧ r.f (Q.w k) = fl then r.z (Q.w k) else 0) Q.m), S) := by
    intro x2 x3 fl z0 hfl
    unfold X8_longest_40L
    refine lp_same Q.m (fun i => (nI (z0 + qsm (fun k => if Q.R (Q.w k) = r.z (Q.w k) ∧ r.f (Q.w k) = fl then r.z (Q.w k) else 0) i), nI i)) (fun i hi => ?_) ?_
    · obtain ⟨c1, c2, c3, c4, c5, c6⟩ := b4 i hi
      have hw := r_wh hW hM c1 (q9 i hi) c4
      have ho := r_of hW hM c1
      unfold X8_longest_40
      rw [qsm]
      by_cases e1 : Q.R (Q.w i) = r.z (Q.w i)
      · rw [if_pos e1] at hw
        by_cases e2 : r.f (Q.w i) = fl
        · rw [if_pos ⟨e1, e2⟩]
          simp (disch := omega) only [qlit, nI_add, pk_mul, qIX, qIN, qOB, qOL, qLE1, qLE0, qLT1, qLT0, qEQ1, qEQ0, qM0, qM1, qR, qN0, qMM, qNL1, qNL0, qNE1, qNE0, qB1, qB0, qOT, qOF, qGT, q1, q8 i hi, hw, ho.2.1, ho.2.2, Nat.add_assoc]
        · rw [if_neg (by simp [e2])]
          simp (disch := omega) only [qlit, nI_add, pk_mul, qIX, qIN, qOB, qOL, qLE1, qLE0, qLT1, qLT0, qEQ1, qEQ0, qM0, qM1, qR, qN0, qMM, qNL1, qNL0, qNE1, qNE0, qB1, qB0, qOT, qOF, qGT, q1, q8 i hi, hw, ho.2.1, ho.2.2, Nat.add_assoc]
      · rw [if_neg e1] at hw
        rw [if_neg (by simp [e1])]
        simp (disch := omega) only [qlit, nI_add, pk_mul, qIX, qIN, qOB, qOL, qLE1, qLE0, qLT1, qLT0, qEQ1, qEQ0, qM0, qM1, qR, qN0, qMM, qNL1, qNL0, qNE1, qNE0, qB1, qB0, qOT, qOF, qGT, q1, q8 i hi, hw, ho.2.1, ho.2.2, Nat.add_assoc]
    · unfold X8_longest_40
      simp (disch := omega) only [qlit, nI_add, pk_mul, qIX, qIN, qOB, qOL, qLE1, qLE0, qLT1, qLT0, qEQ1, qEQ0, qM0, qM1, qR, qN0, qMM, qNL1, qNL0, qNE1, qNE0, qB1, qB0, qOT, qOF, qGT, q1]
  have hbd : ∀ fl, qam r p Q fl ≤ 4100 := by
    intro fl
    have := qsm_le (v := fun k => if Q.R (Q.w k) = r.z (Q.w k) ∧ r.f (Q.w k) = fl then r.z (Q.w k) else 0) (c := 100) (m := Q.m) (fun k hk => by
      have := (b4 k hk).2.2.2.2.2
      show (if _ then _ else _) ≤ 100
      split <;> omega)
    unfold qam
    split <;> omega
  unfold X8_longest X8_longest_7L
  have hl : lp (fun (a : Int32 × Int32 × Int32) (S : St) => X8_longest_7 (nI p) a.1 a.2.1 a.2.2 S) (-nI 1, -nI 1, nI 0) S = some (nI (qlg r p Q), S) := by
    refine lp_same 6 (fun i => (if i = 0 then -nI 1 else nI (qamax (qam r p Q) i), if i = 0 then -nI 1 else nI (qam r p Q (qamax (qam r p Q) i)), nI i)) (fun i hi => ?_) ?_
    · have hq := hbd i
      have hx := hbd (qamax (qam r p Q) i)
      have h35 : ∀ x2 x3 : Int32, X8_longest_7 (nI p) x2 x3 (nI i) S = oi (nI (qam r p Q i) ≤ x3) (X8_longest_119 (nI p) x3 (nI i) (nI (qam r p Q i)) x2 S) (X8_longest_119 (nI p) x3 (nI i) (nI (qam r p Q i)) (nI i) S) := by
        intro x2 x3
        unfold X8_longest_7 X8_longest_35
        by_cases e : r.f p = i
        · simp (disch := omega) only [qlit, nI_add, pk_mul, qIX, qIN, qOB, qOL, qLE1, qLE0, qLT1, qLT0, qEQ1, qEQ0, qM0, qM1, qR, qN0, qMM, qNL1, qNL0, qNE1, qNE0, qB1, qB0, qOT, qOF, qGT, hof.2.1, hof.2.2, hin]
          rw [qam, if_pos e]
        · simp (disch := omega) only [qlit, nI_add, pk_mul, qIX, qIN, qOB, qOL, qLE1, qLE0, qLT1, qLT0, qEQ1, qEQ0, qM0, qM1, qR, qN0, qMM, qNL1, qNL0, qNE1, qNE0, qB1, qB0, qOT, qOF, qGT, hof.2.1, hof.2.2, hin]
          rw [qam, if_neg e]
      rw [h35]
      unfold X8_longest_119
      rw [if_neg (show ¬ i + 1 = 0 by omega), if_neg (show ¬ i + 1 = 0 by omega), qamax]
      by_cases h0 : i = 0
      · subst h0
        rw [if_pos rfl, if_pos rfl]
        simp (disch := omega) only [qlit, nI_add, pk_mul, qIX, qIN, qOB, qOL, qLE1, qLE0, qLT1, qLT0, qEQ1, qEQ0, qM0, qM1, qR, qN0, qMM, qNL1, qNL0, qNE1, qNE0, qB1, qB0, qOT, qOF, qGT]
        simp [qamax]
      · rw [if_neg h0, if_neg h0]
        by_cases hlt : qam r p Q (qamax (qam r p Q) i) < qam r p Q i
        · rw [if_pos hlt]
          simp (disch := omega) only [qlit, nI_add, pk_mul, qIX, qIN, qOB, qOL, qLE1, qLE0, qLT1, qLT0, qEQ1, qEQ0, qM0, qM1, qR, qN0, qMM, qNL1, qNL0, qNE1, qNE0, qB1, qB0, qOT, qOF, qGT]
        · rw [if_neg hlt]
          simp (disch := omega) only [qlit, nI_add, pk_mul, qIX, qIN, qOB, qOL, qLE1, qLE0, qLT1, qLT0, qEQ1, qEQ0, qM0, qM1, qR, qN0, qMM, qNL1, qNL0, qNE1, qNE0, qB1, qB0, qOT, qOF, qGT]
    · unfold X8_longest_7
      simp (disch := omega) only [qlit, nI_add, pk_mul, qIX, qIN, qOB, qOL, qLE1, qLE0, qLT1, qLT0, qEQ1, qEQ0, qM0, qM1, qR, qN0, qMM, qNL1, qNL0, qNE1, qNE0, qB1, qB0, qOT, qOF, qGT]
      rfl
  simp only [qlit]
  rw [hl, qOB]
theorem r_leaves {S : St} {m l k p x : Nat} (h1 : gi S 75 10 = nI m) (h2 : gi S 75 12 = nI l) (h3 : gi S 81 k = nI p) (h4 : gi S 82 p = nI x) (hk : k < m) (hm : m ≤ 40) (hp : p < 40) (hx : x ≤ l) (hl : l ≤ 4000) : X8_leaves (nI k) S = some ((), sc (si (si S 75 12 (nI (l - x))) 75 10 (nI (m - 1))) 81 81 (k + 1) k (m - 1 - k)) := by
  unfold X8_leaves
  simp (disch := omega) only [qlit, nI_add, pk_mul, qIX, qIN, qOB, qOL, qLE1, qLE0, qLT1, qLT0, qEQ1, qEQ0, qM0, qM1, qR, qN0, qMM, qNL1, qNL0, qNE1, qNE0, qB1, qB0, qOT, qOF, qGT, h3, h4, h2, qSUB, qG0, h1]
  have hl : X8_leaves_32L (nI k) (si (si S 75 12 (nI (l - x))) 75 10 (nI (m - 1))) = some ((), sc (si (si S 75 12 (nI (l - x))) 75 10 (nI (m - 1))) 81 81 (k + 1) k (m - 1 - k)) := by
    unfold X8_leaves_32L
    have := lp_for (body := fun (a : Int32) (S : St) => X8_leaves_32 a S) (b := ()) (T' := sc (si (si S 75 12 (nI (l - x))) 75 10 (nI (m - 1))) 81 81 (k + 1) k (m - 1 - k)) (m - 1 - k) (fun i => nI (k + i)) (fun i => sc (si (si S 75 12 (nI (l - x))) 75 10 (nI (m - 1))) 81 81 (k + 1) k i) (fun i hi => ?_) ?_
    · rw [sc_0] at this
      exact this
    · unfold X8_leaves_32
      simp (disch := omega) only [qlit, nI_add, pk_mul, qIX, qIN, qOB, qOL, qLE1, qLE0, qLT1, qLT0, qEQ1, qEQ0, qM0, qM1, qR, qN0, qMM, qNL1, qNL0, qNE1, qNE0, qB1, qB0, qOT, qOF, qGT, qC0, qG1, qC2]
      rw [← sc_si, show k + 1 + i = k + i + 1 by omega]
      rfl
    · unfold X8_leaves_32
      simp (disch := omega) only [qlit, nI_add, pk_mul, qIX, qIN, qOB, qOL, qLE1, qLE0, qLT1, qLT0, qEQ1, qEQ0, qM0, qM1, qR, qN0, qMM, qNL1, qNL0, qNE1, qNE0, qB1, qB0, qOT, qOF, qGT, qC0, qG1]
  rw [hl, qOB]
theorem r_drops {S : St} {p d : Nat} (h1 : gi S 75 6 = nI d) (hp : p < 40) (hd : d < 40) : X8_drops (nI p) S = some ((), si (si (si S 78 p (-nI 2)) 79 d (nI p)) 75 6 (nI (d + 1))) := by
  unfold X8_drops
  simp (disch := omega) only [qlit, nI_add, pk_mul, qIX, qIN, qOB, qOL, qLE1, qLE0, qLT1, qLT0, qEQ1, qEQ0, qM0, qM1, qR, qN0, qMM, qNL1, qNL0, qNE1, qNE0, qB1, qB0, qOT, qOF, qGT, qG0, h1]
