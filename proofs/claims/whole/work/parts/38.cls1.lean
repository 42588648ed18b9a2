/-! ===== the class's replay: its small steps ===== -/
def RC (r : Rd) (S : St) : Prop := gi S 1 0 = nI r.n ∧ (∀ p, p < r.n → gi S 2 p = nI (r.t p) ∧ gi S 3 p = nI (r.f p) ∧ gi S 4 p = nI (r.z p)) ∧ (∀ j, j < 14 → gi S 5 j = nI (r.g j))
theorem RC.cg {r : Rd} {S T : St} (h : RC r S) (e : ∀ a b, 1 ≤ a → a ≤ 5 → gi T a b = gi S a b) : RC r T := by
  obtain ⟨h1, h2, h3⟩ := h
  refine ⟨by rw [e 1 0 (by omega) (by omega)]; exact h1, fun p hp => ?_, fun j hj => ?_⟩
  · rw [e 2 p (by omega) (by omega), e 3 p (by omega) (by omega), e 4 p (by omega) (by omega)]; exact h2 p hp
  · rw [e 5 j (by omega) (by omega)]; exact h3 j hj
def qbgn (r : Rd) (Q : Qt) : Int32 := if qbp r Q < Q.m then nI (Q.w (qbp r Q)) else -nI 1
theorem qbgn_1 {r : Rd} {Q : Qt} {cur i : Nat} (hI : QI r cur Q) (hi : i < Q.m) (hb : Q.R (Q.w i) ≠ r.z (Q.w i)) : qbgn r Q = nI (Q.w i) := by
  have h := qch_bg hI hi hb
  unfold qbgn
  rw [h.1, if_pos hi]
theorem qbgn_0 {r : Rd} {Q : Qt} (h : ∀ i, i < Q.m → Q.R (Q.w i) = r.z (Q.w i)) : qbgn r Q = -nI 1 := by
  have h1 : qbp r Q = Q.m := qfnd_no (fun j hj => by simp [qbg, h j hj])
  unfold qbgn
  rw [h1, if_neg (Nat.lt_irrefl _)]
theorem qbgn_c {r : Rd} {Q : Qt} : (∃ i, i < Q.m ∧ Q.R (Q.w i) ≠ r.z (Q.w i)) ∨ (∀ i, i < Q.m → Q.R (Q.w i) = r.z (Q.w i)) := by
  obtain ⟨a, b, c⟩ := qbp_sp (r := r) (Q := Q)
  by_cases h : qbp r Q < Q.m
  · exact Or.inl ⟨_, h, b h⟩
  · exact Or.inr (fun i hi => c i (by omega))
theorem q_bgw {r : Rd} {Q : Qt} {cur i : Nat} (hI : QI r cur Q) (hc : cur ≤ 40) (hi : i < Q.m) : nI (Q.w i) = qbgn r Q ↔ Q.R (Q.w i) ≠ r.z (Q.w i) := by
  have hw := (hI.2.1 i hi).1
  constructor
  · intro h e
    rcases qbgn_c (r := r) (Q := Q) with ⟨j, hj, hb⟩ | h0
    · have hwj := (hI.2.1 j hj).1
      rw [qbgn_1 hI hj hb, nI_eq (by omega) (by omega)] at h
      have := hI.1 _ _ hi hj h
      subst this
      exact hb e
    · rw [qbgn_0 h0] at h
      exact qneg1 (by omega) (by omega) (by omega) h
  · intro h
    rw [qbgn_1 hI hi h]
/-- the replayer's own fields -/
def CK (r : Rd) (c k : Nat) (S : St) (Q : Qt) : Prop := gi S k 4 = nI c ∧ gi S k 5 = nI Q.nc ∧ gi S k 6 = nI (r.g 1) ∧ gi S k 7 = nI (Q.cn % r.g 6) ∧ (r.g 3 = 2 → gi S k 8 = nI Q.lf)
/-- its outcome -/
def CO (r : Rd) (cur k : Nat) (S : St) (Q : Qt) : Prop := gi S (k + 1) 0 = nI 1 ∧ gi S (k + 1) 1 = nI r.n ∧ gi S (k + 1) 3 = nI Q.dm ∧ gi S (k + 1) 5 = nI (r.g 1) ∧ (∀ p, p < cur → (∀ i, i < Q.m → Q.w i ≠ p) → gi S (k + 2) p = Q.F p) ∧ (∀ j, j < Q.dm → gi S (k + 3) j = nI (Q.D j))
/-- its line -/
def CL (r : Rd) (k : Nat) (S : St) (Q : Qt) : Prop := gi S (k + 6) 0 = nI Q.m ∧ gi S (k + 6) 3 = nI (qld Q) ∧ gi S (k + 6) 4 = qbgn r Q ∧ (∀ i, i < Q.m → gi S (k + 7) i = nI (Q.w i)) ∧ (∀ i, i < Q.m → gi S (k + 8) (Q.w i) = nI (Q.R (Q.w i)))
theorem CK.cg {r : Rd} {c k : Nat} {S T : St} {Q : Qt} (h : CK r c k S Q) (e : ∀ b, gi T k b = gi S k b) : CK r c k T Q := by
  unfold CK; simp only [e]; exact h
theorem CO.cg {r : Rd} {cur k : Nat} {S T : St} {Q : Qt} (h : CO r cur k S Q) (e : ∀ a b, (a = k + 1 ∧ b ≠ 6) ∨ a = k + 2 ∨ a = k + 3 → gi T a b = gi S a b) : CO r cur k T Q := by
  obtain ⟨h1, h2, h3, h4, h5, h6⟩ := h
  refine ⟨?_, ?_, ?_, ?_, fun p hp hq => ?_, fun j hj => ?_⟩
  · rw [e _ _ (Or.inl ⟨rfl, by omega⟩)]; exact h1
  · rw [e _ _ (Or.inl ⟨rfl, by omega⟩)]; exact h2
  · rw [e _ _ (Or.inl ⟨rfl, by omega⟩)]; exact h3
  · rw [e _ _ (Or.inl ⟨rfl, by omega⟩)]; exact h4
  · rw [e _ _ (Or.inr (Or.inl rfl))]; exact h5 p hp hq
  · rw [e _ _ (Or.inr (Or.inr rfl))]; exact h6 j hj
theorem CL.cg {r : Rd} {k : Nat} {S T : St} {Q : Qt} (h : CL r k S Q) (e : ∀ a b, a = k + 6 ∨ a = k + 7 ∨ a = k + 8 → gi T a b = gi S a b) : CL r k T Q := by
  obtain ⟨h1, h2, h3, h4, h5⟩ := h
  refine ⟨?_, ?_, ?_, fun i hi => ?_, fun i hi => ?_⟩
  · rw [e _ _ (Or.inl rfl)]; exact h1
  · rw [e _ _ (Or.inl rfl)]; exact h2
  · rw [e _ _ (Or.inl rfl)]; exact h3
  · rw [e _ _ (Or.inr (Or.inl rfl))]; exact h4 i hi
  · rw [e _ _ (Or.inr (Or.inr rfl))]; exact h5 i hi
def PC (k : Nat) (a b : Nat) : Prop := k ≤ a ∧ a ≤ k + 9 ∧ ¬ (a = k + 1 ∧ b = 6) ∧ a ≠ k + 4 ∧ a ≠ k + 5
theorem RC.fr {r : Rd} {k : Nat} {S T : St} (h : RC r S) (hk : 6 ≤ k) (e : Fr (PC k) S T) : RC r T := h.cg (fun a b h1 h2 => e.1 a b (by unfold PC; omega))
theorem c_holds {S : St} {k c nc x : Nat} (h1 : gi S k 4 = nI c) (h2 : gi S k 5 = nI nc) (hc : c ≤ 1000) (hn : nc ≤ 1001) (hx : x ≤ 100000) : X5_holds k (nI x) S = if x ≤ c then some (nI 1, S) else some (nI 0, si S k 5 (nI (min nc x))) := by
  unfold X5_holds
  by_cases h : x ≤ c
  · rw [if_pos h]; simp (disch := omega) only [qlit, nI_add, pk_mul, qIX, qIN, qOB, qOL, qLE1, qLE0, qLT1, qLT0, qEQ1, qEQ0, qM0, qM1, qR, qN0, qMM, qNL1, qNL0, qNE1, qNE0, qB1, qB0, qOT, qOF, qGT, h1]
  · rw [if_neg h]
    by_cases h3 : x < nc
    · simp (disch := omega) only [qlit, nI_add, pk_mul, qIX, qIN, qOB, qOL, qLE1, qLE0, qLT1, qLT0, qEQ1, qEQ0, qM0, qM1, qR, qN0, qMM, qNL1, qNL0, qNE1, qNE0, qB1, qB0, qOT, qOF, qGT, h1, h2, qTL1]
      rw [Nat.min_eq_right (by omega)]
    · simp (disch := omega) only [qlit, nI_add, pk_mul, qIX, qIN, qOB, qOL, qLE1, qLE0, qLT1, qLT0, qEQ1, qEQ0, qM0, qM1, qR, qN0, qMM, qNL1, qNL0, qNE1, qNE0, qB1, qB0, qOT, qOF, qGT, h1, h2, qTL0]
      rw [Nat.min_eq_left (by omega)]
theorem c_fnb {r : Rd} {cur k : Nat} {S : St} {Q : Qt} (hL : CL r k S Q) (hI : QI r cur Q) (hc : cur ≤ 40) : X2_firstNotBegun (k + 6) S = some (if qfnd (qwh r Q) Q.m < Q.m then nI (qfnd (qwh r Q) Q.m) else -nI 1, S) := by
  obtain ⟨l1, l2, l3, l4, l5⟩ := hL
  have hm := hI.2.2.2.1
  unfold X2_firstNotBegun X2_firstNotBegun_2L
  rw [qlit 0, lp_find (P := qwh r Q) (m := Q.m)]
  · by_cases h : qfnd (qwh r Q) Q.m < Q.m
    · rw [if_pos h, if_pos h, qOB]
    · rw [if_neg h, if_neg h, qOB, qlit]
  · intro i hi hp
    have h1 := (q_bgw hI hc hi).mpr (by simpa [qwh] using hp)
    have l4' : gi S (k + 6 + 1) i = nI (Q.w i) := l4 i hi
    unfold X2_firstNotBegun_2
    simp (disch := omega) only [qlit, nI_add, pk_mul, qIX, qIN, qOB, qOL, qLE1, qLE0, qLT1, qLT0, qEQ1, qEQ0, qM0, qM1, qR, qN0, qMM, qNL1, qNL0, qNE1, qNE0, qB1, qB0, qOT, qOF, qGT, l1, l4', l3, ← h1]
  · intro i hi hp
    have h1 : ¬ nI (Q.w i) = qbgn r Q := fun h => ((q_bgw hI hc hi).mp h) (by simpa [qwh] using hp)
    have l4' : gi S (k + 6 + 1) i = nI (Q.w i) := l4 i hi
    unfold X2_firstNotBegun_2
    simp (disch := omega) only [qlit, nI_add, pk_mul, qIX, qIN, qOB, qOL, qLE1, qLE0, qLT1, qLT0, qEQ1, qEQ0, qM0, qM1, qR, qN0, qMM, qNL1, qNL0, qNE1, qNE0, qB1, qB0, qOT, qOF, qGT, l1, l4', l3]
    exact if_neg h1
  · unfold X2_firstNotBegun_2
    simp (disch := omega) only [qlit, nI_add, pk_mul, qIX, qIN, qOB, qOL, qLE1, qLE0, qLT1, qLT0, qEQ1, qEQ0, qM0, qM1, qR, qN0, qMM, qNL1, qNL0, qNE1, qNE0, qB1, qB0, qOT, qOF, qGT, l1]
theorem c_takeOut {S : St} {k m l i p x : Nat} (h1 : gi S k 0 = nI m) (h2 : gi S k 3 = nI l) (h3 : gi S (k + 1) i = nI p) (h4 : gi S (k + 2) p = nI x) (hi : i < m) (hm : m ≤ 40) (hp : p < 40) (hx : x ≤ l) (hl : l ≤ 4000) : X2_takeOut k (nI i) S = some (nI p, sc (si (si S k 3 (nI (l - x))) k 0 (nI (m - 1))) (k + 1) (k + 1) (i + 1) i (m - 1 - i)) := by
  unfold X2_takeOut
  simp (disch := omega) only [qlit, nI_add, pk_mul, qIX, qIN, qOB, qOL, qLE1, qLE0, qLT1, qLT0, qEQ1, qEQ0, qM0, qM1, qR, qN0, qMM, qNL1, qNL0, qNE1, qNE0, qB1, qB0, qOT, qOF, qGT, h1, h2, h3, h4, qSUB, qG0, qG1, qCP]
theorem c_noteDrop {S : St} {k n d p : Nat} (h1 : gi S k 1 = nI n) (h2 : gi S k 3 = nI d) (hp : p < n) (hn : n ≤ 40) (hd : d < 40) : X3_noteDrop k (nI p) S = some ((), si (si (si S (k + 1) p (-nI 2)) (k + 2) d (nI p)) k 3 (nI (d + 1))) := by
  unfold X3_noteDrop
  simp (disch := omega) only [qlit, nI_add, pk_mul, qIX, qIN, qOB, qOL, qLE1, qLE0, qLT1, qLT0, qEQ1, qEQ0, qM0, qM1, qR, qN0, qMM, qNL1, qNL0, qNE1, qNE0, qB1, qB0, qOT, qOF, qGT, h1, h2, qG0]
/-- a waiting packet is dropped -/
theorem qbgn_rem {r : Rd} {Q : Qt} {cur i : Nat} (hI : QI r cur Q) (hi : i < Q.m) (hw : Q.R (Q.w i) = r.z (Q.w i)) : qbgn r (qrem i Q) = qbgn r Q := by
  have hI2 := qI_rem hI hi
  rcases qbgn_c (r := r) (Q := Q) with ⟨j, hj, hb⟩ | h0
  · rw [qbgn_1 hI hj hb]
    have hij : j ≠ i := fun e => hb (by rw [e]; exact hw)
    have hx : ∃ j', j' < Q.m - 1 ∧ qdel Q.w i j' = Q.w j := by
      by_cases h : j < i
      · exact ⟨j, by omega, if_pos h⟩
      · refine ⟨j - 1, by omega, ?_⟩
        unfold qdel
        rw [if_neg (by omega), show j - 1 + 1 = j by omega]
    obtain ⟨j', h1, h2⟩ := hx
    have h3 := qbgn_1 (r := r) (Q := qrem i Q) hI2 (i := j') h1 (by show Q.R (qdel Q.w i j') ≠ r.z (qdel Q.w i j'); rw [h2]; exact hb)
    rw [h3]
    show nI (qdel Q.w i j') = _
    rw [h2]
  · rw [qbgn_0 h0]
    refine qbgn_0 (fun j hj => ?_)
    show Q.R (qdel Q.w i j) = r.z (qdel Q.w i j)
    have hj' : j < Q.m - 1 := hj
    rw [qdel_get]
    exact h0 _ (by split <;> omega)
theorem c_drop {r : Rd} {c cur k i : Nat} {S : St} {Q : Qt} (hW : RW r) (hK : CK r c k S Q) (hO : CO r cur k S Q) (hL : CL r k S Q) (hI : QI r cur Q) (hc : cur ≤ r.n) (hi : i < Q.m) (hw : Q.R (Q.w i) = r.z (Q.w i)) :
    ∃ S1 S', X2_takeOut (k + 6) (nI i) S = some (nI (Q.w i), S1) ∧ X3_noteDrop (k + 1) (nI (Q.w i)) S1 = some ((), S') ∧ CK r c k S' (qrem i Q) ∧ CO r cur k S' (qrem i Q) ∧ CL r k S' (qrem i Q) ∧ Fr (PC k) S S' := by
  obtain ⟨b1, b2, b3, b4⟩ := q_bd hW hI hc
  obtain ⟨c1, c2, c3, c4, c5, c6⟩ := b4 i hi
  have hn := hW.1
  have hl := qld_rem hi
  have hbg := qbgn_rem hI hi hw
  obtain ⟨l1, l2, l3, l4, l5⟩ := hL
  obtain ⟨o1, o2, o3, o4, o5, o6⟩ := hO
  have ht := c_takeOut l1 l2 (l4 i hi) (l5 i hi) hi b1 c2 (by omega) b3
  have hd := c_noteDrop (S := sc (si (si S (k + 6) 3 (nI (qld Q - Q.R (Q.w i)))) (k + 6) 0 (nI (Q.m - 1))) (k + 6 + 1) (k + 6 + 1) (i + 1) i (Q.m - 1 - i)) (k := k + 1) (n := r.n) (d := Q.dm) (p := Q.w i) (by simp (disch := omega) only [qlit, nI_add, pk_mul, qIX, qIN, qOB, qOL, qLE1, qLE0, qLT1, qLT0, qEQ1, qEQ0, qM0, qM1, qR, qN0, qMM, qNL1, qNL0, qNE1, qNE0, qB1, qB0, qOT, qOF, qGT, qC0, qG0, o2]) (by simp (disch := omega) only [qlit, nI_add, pk_mul, qIX, qIN, qOB, qOL, qLE1, qLE0, qLT1, qLT0, qEQ1, qEQ0, qM0, qM1, qR, qN0, qMM, qNL1, qNL0, qNE1, qNE0, qB1, qB0, qOT, qOF, qGT, qC0, qG0, o3]) c1 hn (by omega)
  refine ⟨_, _, ht, hd, ?_, ⟨?_, ?_, ?_, ?_, fun p hp hq => ?_, fun j hj => ?_⟩, ⟨?_, ?_, ?_, fun j hj => ?_, fun j hj => ?_⟩, ?_⟩
  · have := hK.cg (T := si (si (si (sc (si (si S (k + 6) 3 (nI (qld Q - Q.R (Q.w i)))) (k + 6) 0 (nI (Q.m - 1))) (k + 6 + 1) (k + 6 + 1) (i + 1) i (Q.m - 1 - i)) (k + 1 + 1) (Q.w i) (-nI 2)) (k + 1 + 2) Q.dm (nI (Q.w i))) (k + 1) 3 (nI (Q.dm + 1))) (fun b => by simp (disch := omega) only [qlit, nI_add, pk_mul, qIX, qIN, qOB, qOL, qLE1, qLE0, qLT1, qLT0, qEQ1, qEQ0, qM0, qM1, qR, qN0, qMM, qNL1, qNL0, qNE1, qNE0, qB1, qB0, qOT, qOF, qGT, qG0, qC0])
    exact this
  · simp (disch := omega) only [qlit, nI_add, pk_mul, qIX, qIN, qOB, qOL, qLE1, qLE0, qLT1, qLT0, qEQ1, qEQ0, qM0, qM1, qR, qN0, qMM, qNL1, qNL0, qNE1, qNE0, qB1, qB0, qOT, qOF, qGT, qG0, qC0]; exact o1
  · simp (disch := omega) only [qlit, nI_add, pk_mul, qIX, qIN, qOB, qOL, qLE1, qLE0, qLT1, qLT0, qEQ1, qEQ0, qM0, qM1, qR, qN0, qMM, qNL1, qNL0, qNE1, qNE0, qB1, qB0, qOT, qOF, qGT, qG0, qC0]; exact o2
  · simp (disch := omega) only [qlit, nI_add, pk_mul, qIX, qIN, qOB, qOL, qLE1, qLE0, qLT1, qLT0, qEQ1, qEQ0, qM0, qM1, qR, qN0, qMM, qNL1, qNL0, qNE1, qNE0, qB1, qB0, qOT, qOF, qGT, qG1]; rfl
  · simp (disch := omega) only [qlit, nI_add, pk_mul, qIX, qIN, qOB, qOL, qLE1, qLE0, qLT1, qLT0, qEQ1, qEQ0, qM0, qM1, qR, qN0, qMM, qNL1, qNL0, qNE1, qNE0, qB1, qB0, qOT, qOF, qGT, qG0, qC0]; exact o4
  · show _ = qup Q.F (Q.w i) (-nI 2) p
    by_cases e : p = Q.w i
    · subst e; simp (disch := omega) only [qlit, nI_add, pk_mul, qIX, qIN, qOB, qOL, qLE1, qLE0, qLT1, qLT0, qEQ1, qEQ0, qM0, qM1, qR, qN0, qMM, qNL1, qNL0, qNE1, qNE0, qB1, qB0, qOT, qOF, qGT, qG0, qG1, qup_s]
    · simp (disch := omega) only [qlit, nI_add, pk_mul, qIX, qIN, qOB, qOL, qLE1, qLE0, qLT1, qLT0, qEQ1, qEQ0, qM0, qM1, qR, qN0, qMM, qNL1, qNL0, qNE1, qNE0, qB1, qB0, qOT, qOF, qGT, qG0, qC0, qup_n e]
      refine o5 p hp (fun j hj hjp => ?_)
      have hji : j ≠ i := fun h => e (by rw [← hjp, h])
      by_cases h : j < i
      · exact hq j (show j < Q.m - 1 by omega) (by show qdel Q.w i j = p; unfold qdel; rw [if_pos h]; exact hjp)
      · exact hq (j - 1) (show j - 1 < Q.m - 1 by omega) (by show qdel Q.w i (j - 1) = p; unfold qdel; rw [if_neg (by omega), show j - 1 + 1 = j by omega]; exact hjp)
  · show _ = nI (qup Q.D Q.dm (Q.w i) j)
    have hj' : j < Q.dm + 1 := hj
    by_cases e : j = Q.dm
    · subst e; simp (disch := omega) only [qlit, nI_add, pk_mul, qIX, qIN, qOB, qOL, qLE1, qLE0, qLT1, qLT0, qEQ1, qEQ0, qM0, qM1, qR, qN0, qMM, qNL1, qNL0, qNE1, qNE0, qB1, qB0, qOT, qOF, qGT, qG0, qG1, qup_s]
    · simp (disch := omega) only [qlit, nI_add, pk_mul, qIX, qIN, qOB, qOL, qLE1, qLE0, qLT1, qLT0, qEQ1, qEQ0, qM0, qM1, qR, qN0, qMM, qNL1, qNL0, qNE1, qNE0, qB1, qB0, qOT, qOF, qGT, qG0, qC0, qup_n e]; exact o6 j (by omega)
  · simp (disch := omega) only [qlit, nI_add, pk_mul, qIX, qIN, qOB, qOL, qLE1, qLE0, qLT1, qLT0, qEQ1, qEQ0, qM0, qM1, qR, qN0, qMM, qNL1, qNL0, qNE1, qNE0, qB1, qB0, qOT, qOF, qGT, qG0, qG1, qC0]; rfl
  · simp (disch := omega) only [qlit, nI_add, pk_mul, qIX, qIN, qOB, qOL, qLE1, qLE0, qLT1, qLT0, qEQ1, qEQ0, qM0, qM1, qR, qN0, qMM, qNL1, qNL0, qNE1, qNE0, qB1, qB0, qOT, qOF, qGT, qG0, qG1, qC0]
    rw [show qld Q - Q.R (Q.w i) = qld (qrem i Q) by omega]
  · simp (disch := omega) only [qlit, nI_add, pk_mul, qIX, qIN, qOB, qOL, qLE1, qLE0, qLT1, qLT0, qEQ1, qEQ0, qM0, qM1, qR, qN0, qMM, qNL1, qNL0, qNE1, qNE0, qB1, qB0, qOT, qOF, qGT, qG0, qC0]; rw [hbg]; exact l3
  · show _ = nI (qdel Q.w i j)
    have hj' : j < Q.m - 1 := hj
    unfold qdel
    by_cases e : j < i
    · rw [if_pos e]; simp (disch := omega) only [qlit, nI_add, pk_mul, qIX, qIN, qOB, qOL, qLE1, qLE0, qLT1, qLT0, qEQ1, qEQ0, qM0, qM1, qR, qN0, qMM, qNL1, qNL0, qNE1, qNE0, qB1, qB0, qOT, qOF, qGT, qG0, qC2]; exact l4 j (by omega)
    · rw [if_neg e]; simp (disch := omega) only [qlit, nI_add, pk_mul, qIX, qIN, qOB, qOL, qLE1, qLE0, qLT1, qLT0, qEQ1, qEQ0, qM0, qM1, qR, qN0, qMM, qNL1, qNL0, qNE1, qNE0, qB1, qB0, qOT, qOF, qGT, qG0, qC1]
      rw [show i + 1 + (j - i) = j + 1 by omega]; exact l4 (j + 1) (by omega)
  · show gi _ (k + 8) (qdel Q.w i j) = nI (Q.R (qdel Q.w i j))
    have hj' : j < Q.m - 1 := hj
    simp (disch := omega) only [qlit, nI_add, pk_mul, qIX, qIN, qOB, qOL, qLE1, qLE0, qLT1, qLT0, qEQ1, qEQ0, qM0, qM1, qR, qN0, qMM, qNL1, qNL0, qNE1, qNE0, qB1, qB0, qOT, qOF, qGT, qG0, qC0]
    rw [qdel_get]
    exact l5 _ (by split <;> omega)
  · refine ((Fr.si (Fr.si (Fr.si (Fr.sc ((Fr.rf.si ?_).si ?_) ?_) ?_) ?_) ?_))
    all_goals first | (intro j; unfold PC; omega) | (unfold PC; omega)
theorem c_nc {r : Rd} {c cur k x : Nat} {S : St} {Q : Qt} (hK : CK r c k S Q) (hO : CO r cur k S Q) (hL : CL r k S Q) : CK r c k (si S k 5 (nI (min Q.nc x))) (qnc x Q) ∧ CO r cur k (si S k 5 (nI (min Q.nc x))) (qnc x Q) ∧ CL r k (si S k 5 (nI (min Q.nc x))) (qnc x Q) ∧ Fr (PC k) S (si S k 5 (nI (min Q.nc x))) := by
  obtain ⟨k1, k2, k3, k4, k5⟩ := hK
  refine ⟨⟨?_, ?_, ?_, ?_, fun h => ?_⟩, ?_, ?_, Fr.rf.si (by unfold PC; omega)⟩
  · simp (disch := omega) only [qlit, nI_add, pk_mul, qIX, qIN, qOB, qOL, qLE1, qLE0, qLT1, qLT0, qEQ1, qEQ0, qM0, qM1, qR, qN0, qMM, qNL1, qNL0, qNE1, qNE0, qB1, qB0, qOT, qOF, qGT, qG0]; exact k1
  · simp (disch := omega) only [qlit, nI_add, pk_mul, qIX, qIN, qOB, qOL, qLE1, qLE0, qLT1, qLT0, qEQ1, qEQ0, qM0, qM1, qR, qN0, qMM, qNL1, qNL0, qNE1, qNE0, qB1, qB0, qOT, qOF, qGT, qG1]; rfl
  · simp (disch := omega) only [qlit, nI_add, pk_mul, qIX, qIN, qOB, qOL, qLE1, qLE0, qLT1, qLT0, qEQ1, qEQ0, qM0, qM1, qR, qN0, qMM, qNL1, qNL0, qNE1, qNE0, qB1, qB0, qOT, qOF, qGT, qG0]; exact k3
  · simp (disch := omega) only [qlit, nI_add, pk_mul, qIX, qIN, qOB, qOL, qLE1, qLE0, qLT1, qLT0, qEQ1, qEQ0, qM0, qM1, qR, qN0, qMM, qNL1, qNL0, qNE1, qNE0, qB1, qB0, qOT, qOF, qGT, qG0]; exact k4
  · simp (disch := omega) only [qlit, nI_add, pk_mul, qIX, qIN, qOB, qOL, qLE1, qLE0, qLT1, qLT0, qEQ1, qEQ0, qM0, qM1, qR, qN0, qMM, qNL1, qNL0, qNE1, qNE0, qB1, qB0, qOT, qOF, qGT, qG0]; exact k5 h
  · exact hO.cg (fun a b h => qG0 (by omega))
  · exact hL.cg (fun a b h => qG0 (by omega))
/-- the three parts together -/
def QC (r : Rd) (c cur k : Nat) (S : St) (Q : Qt) : Prop := CK r c k S Q ∧ CO r cur k S Q ∧ CL r k S Q
theorem c_head {r : Rd} {c cur k p : Nat} (hW : RW r) (hc : cur ≤ r.n) (hp : p < r.n) (hc2 : c ≤ 1000) (hzc : r.z p ≤ c) : ∀ (n : Nat) (Q : Qt) (S : St), Q.m < n → n ≤ 41 → Q.nc ≤ 1001 → QC r c cur k S Q → QI r cur Q →
    ∃ S', X5_makesRoomAtHead_2L k (nI (r.z p)) (nI (41 - n)) S = some (if (qroom r c 1 p n Q).1 = true then .inr () else .inl (), S') ∧ QC r c cur k S' (qroom r c 1 p n Q).2 ∧ Fr (PC k) S S' := by
  intro n
  induction n with
  | zero => intro Q S h; omega
  | succ n ih =>
    intro Q S hm hn hnc hQ hI
    obtain ⟨hK, hO, hL⟩ := hQ
    have hn40 := hW.1
    obtain ⟨b1, b2, b3, b4⟩ := q_bd hW hI hc
    have hz := hW.2.1 p hp
    have hh := c_holds (x := qld Q + r.z p) hK.1 hK.2.1 hc2 hnc (by omega)
    unfold X5_makesRoomAtHead_2L
    rw [qroom]
    by_cases h1 : qld Q + r.z p ≤ c
    · rw [if_pos h1] at hh ⊢
      refine ⟨S, lp_end ?_, ⟨hK, hO, hL⟩, Fr.rf⟩
      show X5_makesRoomAtHead_2 k (nI (r.z p)) (nI (41 - (n + 1))) S = _
      unfold X5_makesRoomAtHead_2
      simp (disch := omega) only [qlit, nI_add, pk_mul, qIX, qIN, qOB, qOL, qLE1, qLE0, qLT1, qLT0, qEQ1, qEQ0, qM0, qM1, qR, qN0, qMM, qNL1, qNL0, qNE1, qNE0, qB1, qB0, qOT, qOF, qGT, hL.2.1, hh]
      rfl
    · rw [if_neg h1] at hh ⊢
      obtain ⟨hK1, hO1, hL1, hF1⟩ := c_nc (x := qld Q + r.z p) hK hO hL
      have hf := c_fnb hL1 (qI_nc hI) (by omega)
      have hv : qvic r 1 p Q = qfnd (qwh r Q) Q.m := rfl
      have hv2 : qfnd (qwh r (qnc (qld Q + r.z p) Q)) (qnc (qld Q + r.z p) Q).m = qfnd (qwh r Q) Q.m := rfl
      have hv3 : (qnc (qld Q + r.z p) Q).m = Q.m := rfl
      rw [hv2, hv3] at hf
      rw [hv]
      by_cases h3 : qfnd (qwh r Q) Q.m < Q.m
      · rw [if_pos h3] at hf ⊢
        have hwh : Q.R (Q.w (qfnd (qwh r Q) Q.m)) = r.z (Q.w (qfnd (qwh r Q) Q.m)) := by
          have := (qfnd_sp (P := qwh r Q) Q.m).2.1 h3
          simpa [qwh] using this
        obtain ⟨S1, S2, e1, e2, e3, e4, e5, e6⟩ := c_drop hW hK1 hO1 hL1 (qI_nc hI) hc h3 hwh
        have e1' : X2_takeOut (k + 6) (nI (qfnd (qwh r Q) Q.m)) (si S k 5 (nI (min Q.nc (qld Q + r.z p)))) = some (nI (Q.w (qfnd (qwh r Q) Q.m)), S1) := e1
        have e2' : X3_noteDrop (k + 1) (nI (Q.w (qfnd (qwh r Q) Q.m))) S1 = some ((), S2) := e2
        have h4 : X5_makesRoomAtHead_2 k (nI (r.z p)) (nI (41 - (n + 1))) S = some (.inl (nI (41 - n)), S2) := by
          unfold X5_makesRoomAtHead_2
          simp (disch := omega) only [qlit, nI_add, pk_mul, qIX, qIN, qOB, qOL, qLE1, qLE0, qLT1, qLT0, qEQ1, qEQ0, qM0, qM1, qR, qN0, qMM, qNL1, qNL0, qNE1, qNE0, qB1, qB0, qOT, qOF, qGT, hL.2.1, hh, hf, e1', e2']
          rw [show 41 - (n + 1) + 1 = 41 - n by omega]
        obtain ⟨S3, f1, f2, f3⟩ := ih (qrem (qfnd (qwh r Q) Q.m) (qnc (qld Q + r.z p) Q)) S2 (by show Q.m - 1 < n; omega) (by omega) (by show min Q.nc (qld Q + r.z p) ≤ 1001; omega) ⟨e3, e4, e5⟩ (qI_rem (qI_nc hI) h3)
        exact ⟨S3, lp_go h4 f1, f2, hF1.tr (e6.tr f3)⟩
      · rw [if_neg h3] at hf ⊢
        refine ⟨_, lp_end ?_, ⟨hK1, hO1, hL1⟩, hF1⟩
        show X5_makesRoomAtHead_2 k (nI (r.z p)) (nI (41 - (n + 1))) S = _
        unfold X5_makesRoomAtHead_2
        simp (disch := omega) only [qlit, nI_add, pk_mul, qIX, qIN, qOB, qOL, qLE1, qLE0, qLT1, qLT0, qEQ1, qEQ0, qM0, qM1, qR, qN0, qMM, qNL1, qNL0, qNE1, qNE0, qB1, qB0, qOT, qOF, qGT, hL.2.1, hh, hf]
        rfl
theorem c_amts {r : Rd} {c cur k p : Nat} {S : St} {Q : Qt} (hW : RW r) (hR : RC r S) (hk : 6 ≤ k) (hQ : QC r c cur k S Q) (hI : QI r cur Q) (hc : cur ≤ r.n) (hp : p < r.n) : ∃ S', X5_longestFlow k (nI (r.f p)) (nI (r.z p)) S = some (nI (qlg r p Q), S') ∧ Fr (fun a _ => a = k + 9) S S' := by
  obtain ⟨hK, hO, hL⟩ := hQ
  obtain ⟨b1, b2, b3, b4⟩ := q_bd hW hI hc
  have hn40 := hW.1
  have hz := hW.2.1 p hp
  obtain ⟨l1, l2, l3, l4, l5⟩ := hL
  have hp1 : ∃ b S1, X5_longestFlow_2L k (nI (r.f p)) (nI (r.z p)) (nI 0) S = some (b, S1) ∧ (∀ f, f < 6 → gi S1 (k + 9) f = nI (if r.f p = f then r.z p else 0)) ∧ Fr (fun a _ => a = k + 9) S S1 := by
    unfold X5_longestFlow_2L
    refine lp_cnt (body := fun (a : Int32) (S : St) => X5_longestFlow_2 k (nI (r.f p)) (nI (r.z p)) a S) 6 (fun i a T => a = nI i ∧ (∀ f, f < i → gi T (k + 9) f = nI (if r.f p = f then r.z p else 0)) ∧ Fr (fun a _ => a = k + 9) S T) _ ⟨rfl, fun f hf => absurd hf (Nat.not_lt_zero _), Fr.rf⟩ ?_ ?_
    · rintro i a T hi ⟨rfl, h1, h2⟩
      show ∃ a' S', X5_longestFlow_2 k (nI (r.f p)) (nI (r.z p)) (nI i) T = _ ∧ _
      unfold X5_longestFlow_2
      by_cases e : r.f p = i
      · simp (disch := omega) only [qlit, nI_add, pk_mul, qIX, qIN, qOB, qOL, qLE1, qLE0, qLT1, qLT0, qEQ1, qEQ0, qM0, qM1, qR, qN0, qMM, qNL1, qNL0, qNE1, qNE0, qB1, qB0, qOT, qOF, qGT]
        refine ⟨_, _, rfl, rfl, fun f hf => ?_, h2.si rfl⟩
        by_cases h : f = i
        · subst h; rw [qG1 rfl rfl, if_pos e]
        · rw [qG0 (by omega)]; exact h1 f (by omega)
      · simp (disch := omega) only [qlit, nI_add, pk_mul, qIX, qIN, qOB, qOL, qLE1, qLE0, qLT1, qLT0, qEQ1, qEQ0, qM0, qM1, qR, qN0, qMM, qNL1, qNL0, qNE1, qNE0, qB1, qB0, qOT, qOF, qGT]
        refine ⟨_, _, rfl, rfl, fun f hf => ?_, h2.si rfl⟩
        by_cases h : f = i
        · subst h; rw [qG1 rfl rfl, if_neg e]
        · rw [qG0 (by omega)]; exact h1 f (by omega)
    · rintro a T ⟨rfl, h1, h2⟩
      refine ⟨(), T, ?_, h1, h2⟩
      show X5_longestFlow_2 k (nI (r.f p)) (nI (r.z p)) (nI 6) T = _
      unfold X5_longestFlow_2
      simp (disch := omega) only [qlit, nI_add, pk_mul, qIX, qIN, qOB, qOL, qLE1, qLE0, qLT1, qLT0, qEQ1, qEQ0, qM0, qM1, qR, qN0, qMM, qNL1, qNL0, qNE1, qNE0, qB1, qB0, qOT, qOF, qGT]
  obtain ⟨u1, S1, e1, e2, e3⟩ := hp1
  have hp2 : ∃ b S2, X5_longestFlow_32L k (nI 0) S1 = some (b, S2) ∧ (∀ f, f < 6 → gi S2 (k + 9) f = nI (qam r p Q f)) ∧ Fr (fun a _ => a = k + 9) S1 S2 := by
    unfold X5_longestFlow_32L
    refine lp_cnt (body := fun (a : Int32) (S : St) => X5_longestFlow_32 k a S) Q.m (fun i a T => a = nI i ∧ (∀ f, f < 6 → gi T (k + 9) f = nI ((if r.f p = f then r.z p else 0) + qsm (fun k => if Q.R (Q.w k) = r.z (Q.w k) ∧ r.f (Q.w k) = f then r.z (Q.w k) else 0) i)) ∧ Fr (fun a _ => a = k + 9) S1 T) _ ⟨rfl, fun f hf => e2 f hf, Fr.rf⟩ ?_ ?_
    · rintro i a T hi ⟨rfl, h1, h2⟩
      have hg : ∀ a b, a ≠ k + 9 → gi T a b = gi S a b := fun a b h => (h2.1 a b h).trans (e3.1 a b h)
      obtain ⟨c1, c2, c3, c4, c5, c6⟩ := b4 i hi
      have m1 : gi T (k + 6) 0 = nI Q.m := by rw [hg _ _ (by omega)]; exact l1
      have m3 : gi T (k + 6) 4 = qbgn r Q := by rw [hg _ _ (by omega)]; exact l3
      have m4 : gi T (k + 7) i = nI (Q.w i) := by rw [hg _ _ (by omega)]; exact l4 i hi
      have mf : gi T 3 (Q.w i) = nI (r.f (Q.w i)) := by rw [hg _ _ (by omega)]; exact (hR.2.1 _ c1).2.1
      have mz : gi T 4 (Q.w i) = nI (r.z (Q.w i)) := by rw [hg _ _ (by omega)]; exact (hR.2.1 _ c1).2.2
      show ∃ a' S', X5_longestFlow_32 k (nI i) T = _ ∧ _
      unfold X5_longestFlow_32
      by_cases e : Q.R (Q.w i) = r.z (Q.w i)
      · have hne : ¬ nI (Q.w i) = qbgn r Q := fun h => ((q_bgw hI (by omega) hi).mp h) e
        have hne2 : ∀ (x y : Option ((Int32 ⊕ Unit) × St)), oi (nI (Q.w i) = qbgn r Q) x y = y := fun x y => if_neg hne
        simp (disch := omega) only [qlit, nI_add, pk_mul, qIX, qIN, qOB, qOL, qLE1, qLE0, qLT1, qLT0, qEQ1, qEQ0, qM0, qM1, qR, qN0, qMM, qNL1, qNL0, qNE1, qNE0, qB1, qB0, qOT, qOF, qGT, m1, m3, m4, mf, mz, hne2, h1 (r.f (Q.w i)) c5]
        refine ⟨_, _, rfl, rfl, fun f hf => ?_, h2.si rfl⟩
        rw [qsm]
        by_cases h : f = r.f (Q.w i)
        · subst h
          rw [qG1 rfl rfl, if_pos (show Q.R (Q.w i) = r.z (Q.w i) ∧ r.f (Q.w i) = r.f (Q.w i) from ⟨e, rfl⟩), Nat.add_assoc]
        · rw [qG0 (by omega), if_neg (show ¬ (Q.R (Q.w i) = r.z (Q.w i) ∧ r.f (Q.w i) = f) from fun hh => h hh.2.symm)]
          exact h1 f hf
      · have hne2 : ∀ (x y : Option ((Int32 ⊕ Unit) × St)), oi (nI (Q.w i) = qbgn r Q) x y = x := fun x y => if_pos ((q_bgw hI (by omega) hi).mpr e)
        simp (disch := omega) only [qlit, nI_add, pk_mul, qIX, qIN, qOB, qOL, qLE1, qLE0, qLT1, qLT0, qEQ1, qEQ0, qM0, qM1, qR, qN0, qMM, qNL1, qNL0, qNE1, qNE0, qB1, qB0, qOT, qOF, qGT, m1, m3, m4, hne2]
        refine ⟨_, _, rfl, rfl, fun f hf => ?_, h2⟩
        rw [qsm, if_neg (show ¬ (Q.R (Q.w i) = r.z (Q.w i) ∧ r.f (Q.w i) = f) from fun hh => e hh.1)]
        exact h1 f hf
    · rintro a T ⟨rfl, h1, h2⟩
      refine ⟨(), T, ?_, h1, h2⟩
      have m1 : gi T (k + 6) 0 = nI Q.m := by rw [h2.1 _ _ (by show ¬ k + 6 = k + 9; omega), e3.1 _ _ (by show ¬ k + 6 = k + 9; omega)]; exact l1
      show X5_longestFlow_32 k (nI Q.m) T = _
      unfold X5_longestFlow_32
      simp (disch := omega) only [qlit, nI_add, pk_mul, qIX, qIN, qOB, qOL, qLE1, qLE0, qLT1, qLT0, qEQ1, qEQ0, qM0, qM1, qR, qN0, qMM, qNL1, qNL0, qNE1, qNE0, qB1, qB0, qOT, qOF, qGT, m1]
  obtain ⟨u2, S2, f1, f2, f3⟩ := hp2
  have hbd : ∀ fl, qam r p Q fl ≤ 4100 := by
    intro fl
    have := qsm_le (v := fun k => if Q.R (Q.w k) = r.z (Q.w k) ∧ r.f (Q.w k) = fl then r.z (Q.w k) else 0) (c := 100) (m := Q.m) (fun k hk => by
      have := (b4 k hk).2.2.2.2.2
      show (if _ then _ else _) ≤ 100
      split <;> omega)
    unfold qam
    split <;> omega
  have hp3 : X5_longestFlow_105L k (nI 0, nI 1) S2 = some (nI (qlg r p Q), S2) := by
    unfold X5_longestFlow_105L
    have h := lp_same (body := fun (a : Int32 × Int32) (S : St) => X5_longestFlow_105 k a.1 a.2 S) (b := nI (qlg r p Q)) (S := S2) (T' := S2) 5 (fun i => (nI (qamax (qam r p Q) (i + 1)), nI (i + 1))) (fun i hi => ?_) ?_
    · have e0 : qamax (qam r p Q) (0 + 1) = 0 := by simp [qamax]
      rw [e0] at h
      exact h
    · have ha := (qamax_sp (v := qam r p Q) i).1
      have g1 := f2 (i + 1) (by omega)
      have g2 := f2 (qamax (qam r p Q) (i + 1)) (by omega)
      have d1 := hbd (i + 1)
      have d2 := hbd (qamax (qam r p Q) (i + 1))
      show X5_longestFlow_105 k (nI (qamax (qam r p Q) (i + 1))) (nI (i + 1)) S2 = _
      unfold X5_longestFlow_105
      rw [show qamax (qam r p Q) (i + 1 + 1) = if qam r p Q (qamax (qam r p Q) (i + 1)) < qam r p Q (i + 1) then i + 1 else qamax (qam r p Q) (i + 1) from rfl]
      by_cases h : qam r p Q (qamax (qam r p Q) (i + 1)) < qam r p Q (i + 1)
      · rw [if_pos h]; simp (disch := omega) only [qlit, nI_add, pk_mul, qIX, qIN, qOB, qOL, qLE1, qLE0, qLT1, qLT0, qEQ1, qEQ0, qM0, qM1, qR, qN0, qMM, qNL1, qNL0, qNE1, qNE0, qB1, qB0, qOT, qOF, qGT, g1, g2]
      · rw [if_neg h]; simp (disch := omega) only [qlit, nI_add, pk_mul, qIX, qIN, qOB, qOL, qLE1, qLE0, qLT1, qLT0, qEQ1, qEQ0, qM0, qM1, qR, qN0, qMM, qNL1, qNL0, qNE1, qNE0, qB1, qB0, qOT, qOF, qGT, g1, g2]
    · show X5_longestFlow_105 k (nI (qamax (qam r p Q) 6)) (nI 6) S2 = _
      unfold X5_longestFlow_105
      simp (disch := omega) only [qlit, nI_add, pk_mul, qIX, qIN, qOB, qOL, qLE1, qLE0, qLT1, qLT0, qEQ1, qEQ0, qM0, qM1, qR, qN0, qMM, qNL1, qNL0, qNE1, qNE0, qB1, qB0, qOT, qOF, qGT]
      rfl
  unfold X5_longestFlow
  simp (disch := omega) only [qlit, nI_add, pk_mul, qIX, qIN, qOB, qOL, qLE1, qLE0, qLT1, qLT0, qEQ1, qEQ0, qM0, qM1, qR, qN0, qMM, qNL1, qNL0, qNE1, qNE0, qB1, qB0, qOT, qOF, qGT, e1, f1, hp3]
  exact ⟨S2, rfl, e3.tr f3⟩
theorem c_last {r : Rd} {cur k fl : Nat} {S : St} {Q : Qt} (hW : RW r) (hR : RC r S) (hL : CL r k S Q) (hI : QI r cur Q) (hc : cur ≤ r.n) (hfl : fl < 6) (h0 : 0 < qlw r Q fl) : X5_lastNotBegunOf k (nI fl) S = some (nI (qlw r Q fl - 1), S) := by
  obtain ⟨b1, b2, b3, b4⟩ := q_bd hW hI hc
  have hn40 := hW.1
  obtain ⟨l1, l2, l3, l4, l5⟩ := hL
  obtain ⟨s1, s2, s3⟩ := qlst_sp (P := fun k => decide (Q.R (Q.w k) = r.z (Q.w k) ∧ r.f (Q.w k) = fl)) Q.m
  have hq : qlst (fun k => decide (Q.R (Q.w k) = r.z (Q.w k) ∧ r.f (Q.w k) = fl)) Q.m = qlw r Q fl := rfl
  rw [hq] at s1 s2 s3
  have hl : X5_lastNotBegunOf_10L k (nI fl) (nI (Q.m - 1)) S = some (.inl (nI (qlw r Q fl - 1)), S) := by
    unfold X5_lastNotBegunOf_10L
    have h := lp_same (body := fun (a : Int32) (S : St) => X5_lastNotBegunOf_10 k (nI fl) a S) (b := .inl (nI (qlw r Q fl - 1))) (S := S) (T' := S) (Q.m - qlw r Q fl) (fun j => nI (Q.m - 1 - j)) (fun j hj => ?_) ?_
    · exact h
    · have hi : Q.m - 1 - j < Q.m := by omega
      obtain ⟨c1, c2, c3, c4, c5, c6⟩ := b4 _ hi
      have h1 := s3 (Q.m - 1 - j) (by omega) hi
      have m4 := l4 _ hi
      have mf := (hR.2.1 _ c1).2.1
      unfold X5_lastNotBegunOf_10
      by_cases e : Q.R (Q.w (Q.m - 1 - j)) = r.z (Q.w (Q.m - 1 - j))
      · have hne2 : ∀ (x y : Option ((Int32 ⊕ (Int32 ⊕ Unit)) × St)), oi (nI (Q.w (Q.m - 1 - j)) = qbgn r Q) x y = y := fun x y => if_neg (fun h => ((q_bgw hI (by omega) hi).mp h) e)
        have e2 : r.f (Q.w (Q.m - 1 - j)) ≠ fl := by
          intro h; simp [e, h] at h1
        simp (disch := omega) only [qlit, nI_add, pk_mul, qIX, qIN, qOB, qOL, qLE1, qLE0, qLT1, qLT0, qEQ1, qEQ0, qM0, qM1, qR, qN0, qMM, qNL1, qNL0, qNE1, qNE0, qB1, qB0, qOT, qOF, qGT, m4, l3, hne2, mf, qM]
        rw [show Q.m - 1 - j - 1 = Q.m - 1 - (j + 1) by omega]
      · have hne2 : ∀ (x y : Option ((Int32 ⊕ (Int32 ⊕ Unit)) × St)), oi (nI (Q.w (Q.m - 1 - j)) = qbgn r Q) x y = x := fun x y => if_pos ((q_bgw hI (by omega) hi).mpr e)
        simp (disch := omega) only [qlit, nI_add, pk_mul, qIX, qIN, qOB, qOL, qLE1, qLE0, qLT1, qLT0, qEQ1, qEQ0, qM0, qM1, qR, qN0, qMM, qNL1, qNL0, qNE1, qNE0, qB1, qB0, qOT, qOF, qGT, m4, l3, hne2, qM]
        rw [show Q.m - 1 - j - 1 = Q.m - 1 - (j + 1) by omega]
    · have hi : qlw r Q fl - 1 < Q.m := by omega
      obtain ⟨c1, c2, c3, c4, c5, c6⟩ := b4 _ hi
      have h1 : Q.R (Q.w (qlw r Q fl - 1)) = r.z (Q.w (qlw r Q fl - 1)) ∧ r.f (Q.w (qlw r Q fl - 1)) = fl := by simpa using s2 h0
      have m4 := l4 _ hi
      have mf := (hR.2.1 _ c1).2.1
      have hne2 : ∀ (x y : Option ((Int32 ⊕ (Int32 ⊕ Unit)) × St)), oi (nI (Q.w (qlw r Q fl - 1)) = qbgn r Q) x y = y := fun x y => if_neg (fun h => ((q_bgw hI (by omega) hi).mp h) h1.1)
      rw [show Q.m - 1 - (Q.m - qlw r Q fl) = qlw r Q fl - 1 by omega]
      unfold X5_lastNotBegunOf_10
      simp (disch := omega) only [qlit, nI_add, pk_mul, qIX, qIN, qOB, qOL, qLE1, qLE0, qLT1, qLT0, qEQ1, qEQ0, qM0, qM1, qR, qN0, qMM, qNL1, qNL0, qNE1, qNE0, qB1, qB0, qOT, qOF, qGT, m4, l3, hne2, mf]
  unfold X5_lastNotBegunOf
  simp (disch := omega) only [qlit, nI_add, pk_mul, qIX, qIN, qOB, qOL, qLE1, qLE0, qLT1, qLT0, qEQ1, qEQ0, qM0, qM1, qR, qN0, qMM, qNL1, qNL0, qNE1, qNE0, qB1, qB0, qOT, qOF, qGT, l1, qSUB, hl]
