/-! ===== the class's scheduler and service ===== -/
theorem q_sa {a b c : Nat} (h : b ≤ a + c) : nI a - nI b + nI c = nI (a + c - b) := by
  rw [Int32.sub_eq_add_neg, Int32.add_assoc, Int32.add_comm (-nI b), ← Int32.add_assoc, ← Int32.sub_eq_add_neg, nI_add, qSUB h]
theorem c_turn {r : Rd} {k lf f : Nat} {S : St} (hW : RW r) (hR : RC r S) (h0 : r.g 3 ≠ 0) (hlf : lf < 6) (hk8 : r.g 3 = 2 → gi S k 8 = nI lf) (hf : f < 6) : X5_turnOf k (nI f) S = some (nI (qtn r.g lf f), S) := by
  have hg3 := hW.2.2.2.2.2.2.1
  have h53 : gi S 5 3 = nI (r.g 3) := hR.2.2 3 (by omega)
  have hg8 := hW.2.2.2.2.2.2.2.2.2.2.2 f hf
  have h58 : gi S 5 (8 + f) = nI (r.g (8 + f)) := hR.2.2 (8 + f) (by omega)
  unfold X5_turnOf qtn
  rw [if_neg h0]
  by_cases h1 : r.g 3 = 1
  · rw [if_pos h1]
    simp (disch := omega) only [qlit, nI_add, pk_mul, qIX, qIN, qOB, qOL, qLE1, qLE0, qLT1, qLT0, qEQ1, qEQ0, qM0, qM1, qR, qN0, qMM, qNL1, qNL0, qNE1, qNE0, qB1, qB0, qOT, qOF, qGT, h53, h58]
  · rw [if_neg h1]
    have hk := hk8 (by omega)
    by_cases h2 : lf < f
    · rw [if_pos h2]
      simp (disch := omega) only [qlit, nI_add, pk_mul, qIX, qIN, qOB, qOL, qLE1, qLE0, qLT1, qLT0, qEQ1, qEQ0, qM0, qM1, qR, qN0, qMM, qNL1, qNL0, qNE1, qNE0, qB1, qB0, qOT, qOF, qGT, h53, hk, qSUB]
    · rw [if_neg h2]
      simp (disch := omega) only [qlit, nI_add, pk_mul, qIX, qIN, qOB, qOL, qLE1, qLE0, qLT1, qLT0, qEQ1, qEQ0, qM0, qM1, qR, qN0, qMM, qNL1, qNL0, qNE1, qNE0, qB1, qB0, qOT, qOF, qGT, h53, hk, q_sa]
theorem c_posb {r : Rd} {cur k : Nat} {S : St} {Q : Qt} (hL : CL r k S Q) (hI : QI r cur Q) (hc : cur ≤ 40) (hb : qbp r Q < Q.m) : X2_positionOfBegun (k + 6) S = some (nI (qbp r Q), S) := by
  obtain ⟨l1, l2, l3, l4, l5⟩ := hL
  have hm := hI.2.2.2.1
  unfold X2_positionOfBegun X2_positionOfBegun_2L
  rw [qlit 0, lp_find (P := qbg r.z Q.w Q.R) (m := Q.m)]
  · have h : qfnd (qbg r.z Q.w Q.R) Q.m < Q.m := hb
    rw [if_pos h, qOB]
    rfl
  · intro i hi hp
    have h1 : ¬ nI (Q.w i) = qbgn r Q := fun h => ((q_bgw hI hc hi).mp h) (by simpa [qbg] using hp)
    have l4' : gi S (k + 6 + 1) i = nI (Q.w i) := l4 i hi
    unfold X2_positionOfBegun_2
    simp (disch := omega) only [qlit, nI_add, pk_mul, qIX, qIN, qOB, qOL, qLE1, qLE0, qLT1, qLT0, qEQ1, qEQ0, qM0, qM1, qR, qN0, qMM, qNL1, qNL0, qNE1, qNE0, qB1, qB0, qOT, qOF, qGT, l1, l4', l3]
    exact if_neg h1
  · intro i hi hp
    have h1 := (q_bgw hI hc hi).mpr (by simpa [qbg] using hp)
    have l4' : gi S (k + 6 + 1) i = nI (Q.w i) := l4 i hi
    unfold X2_positionOfBegun_2
    simp (disch := omega) only [qlit, nI_add, pk_mul, qIX, qIN, qOB, qOL, qLE1, qLE0, qLT1, qLT0, qEQ1, qEQ0, qM0, qM1, qR, qN0, qMM, qNL1, qNL0, qNE1, qNE0, qB1, qB0, qOT, qOF, qGT, l1, l4', l3, ← h1]
  · unfold X2_positionOfBegun_2
    simp (disch := omega) only [qlit, nI_add, pk_mul, qIX, qIN, qOB, qOL, qLE1, qLE0, qLT1, qLT0, qEQ1, qEQ0, qM0, qM1, qR, qN0, qMM, qNL1, qNL0, qNE1, qNE0, qB1, qB0, qOT, qOF, qGT, l1]
theorem c_chosen {r : Rd} {c cur k : Nat} {S : St} {Q : Qt} (hW : RW r) (hR : RC r S) (hk : 6 ≤ k) (hQ : QC r c cur k S Q) (hI : QI r cur Q) (hc : cur ≤ r.n) (hm : 0 < Q.m) : ∃ S', X5_chosenPosition k S = some (nI (qch r Q), S') ∧ QC r c cur k S' (qwl r Q) ∧ Fr (PC k) S S' := by
  obtain ⟨b1, b2, b3, b4⟩ := q_bd hW hI hc
  have hn40 := hW.1
  have hg3 := hW.2.2.2.2.2.2.1
  have h53 : gi S 5 3 = nI (r.g 3) := hR.2.2 3 (by omega)
  obtain ⟨hK, hO, hL⟩ := hQ
  have hbg := hL.2.2.1
  unfold X5_chosenPosition
  by_cases hb : qbp r Q < Q.m
  · have hp := c_posb hL hI (by omega) hb
    have hw := b4 _ hb
    have e0 : qbgn r Q = nI (Q.w (qbp r Q)) := if_pos hb
    have e1 : qch r Q = qbp r Q := if_pos hb
    have e2 : qlf r Q = Q.lf := if_pos hb
    rw [e0] at hbg
    simp (disch := omega) only [qlit, nI_add, pk_mul, qIX, qIN, qOB, qOL, qLE1, qLE0, qLT1, qLT0, qEQ1, qEQ0, qM0, qM1, qR, qN0, qMM, qNL1, qNL0, qNE1, qNE0, qB1, qB0, qOT, qOF, qGT, hbg, hp]
    refine ⟨S, by rw [e1], ⟨⟨hK.1, hK.2.1, hK.2.2.1, hK.2.2.2.1, fun h => ?_⟩, hO, hL⟩, Fr.rf⟩
    show _ = nI (qlf r Q)
    rw [e2]; exact hK.2.2.2.2 h
  · have e0 : qbgn r Q = -nI 1 := if_neg hb
    have e1 : qch r Q = qamin (fun k => qtn r.g Q.lf (r.f (Q.w k))) Q.m := if_neg hb
    have e2 : qlf r Q = r.f (Q.w (qch r Q)) := if_neg hb
    rw [e0] at hbg
    by_cases h0 : r.g 3 = 0
    · have ht : ∀ k, qtn r.g Q.lf (r.f (Q.w k)) = 0 := fun k => by unfold qtn; rw [if_pos h0]
      have e3 : qch r Q = 0 := by
        rw [e1]
        exact qamin_eq hm (fun j _ => by rw [ht, ht]; exact Nat.le_refl _) (fun j hj => absurd hj (Nat.not_lt_zero _))
      simp (disch := omega) only [qlit, nI_add, pk_mul, qIX, qIN, qOB, qOL, qLE1, qLE0, qLT1, qLT0, qEQ1, qEQ0, qM0, qM1, qR, qN0, qMM, qNL1, qNL0, qNE1, qNE0, qB1, qB0, qOT, qOF, qGT, hbg, hL.1, h53]
      exact ⟨S, by rw [e3], ⟨⟨hK.1, hK.2.1, hK.2.2.1, hK.2.2.2.1, fun h => by omega⟩, hO, hL⟩, Fr.rf⟩
    · have hlf := hI.2.2.2.2
      have htn : ∀ i, i < Q.m → qtn r.g Q.lf (r.f (Q.w i)) ≤ 100 := by
        intro i hi
        have h1 := (b4 i hi).2.2.2.2.1
        have h2 := hW.2.2.2.2.2.2.2.2.2.2.2 _ h1
        unfold qtn
        split
        · omega
        · split
          · omega
          · split <;> omega
      have htu : ∀ i, i < Q.m → X5_turnOf k (nI (r.f (Q.w i))) S = some (nI (qtn r.g Q.lf (r.f (Q.w i))), S) := fun i hi => c_turn hW hR h0 hlf hK.2.2.2.2 (b4 i hi).2.2.2.2.1
      have hloop : X5_chosenPosition_71L k (nI 0, nI (qtn r.g Q.lf (r.f (Q.w 0))), nI 1) S = some (nI (qch r Q), S) := by
        unfold X5_chosenPosition_71L
        have h := lp_same (body := fun (a : Int32 × Int32 × Int32) (S : St) => X5_chosenPosition_71 k a.1 a.2.1 a.2.2 S) (b := nI (qch r Q)) (S := S) (T' := S) (Q.m - 1) (fun i => (nI (qamin (fun k => qtn r.g Q.lf (r.f (Q.w k))) (i + 1)), nI (qtn r.g Q.lf (r.f (Q.w (qamin (fun k => qtn r.g Q.lf (r.f (Q.w k))) (i + 1))))), nI (i + 1))) (fun i hi => ?_) ?_
        · have e0 : qamin (fun k => qtn r.g Q.lf (r.f (Q.w k))) (0 + 1) = 0 := by simp [qamin]
          rw [e0] at h
          exact h
        · have ha := (qamin_sp (v := fun k => qtn r.g Q.lf (r.f (Q.w k))) i).1
          have hi1 : i + 1 < Q.m := by omega
          have m4 : gi S (k + 7) (i + 1) = nI (Q.w (i + 1)) := hL.2.2.2.1 _ hi1
          have hw := b4 _ hi1
          have mf := (hR.2.1 _ hw.1).2.1
          have t1 := htu (i + 1) hi1
          have d1 := htn (i + 1) hi1
          have d2 := htn (qamin (fun k => qtn r.g Q.lf (r.f (Q.w k))) (i + 1)) (by omega)
          show X5_chosenPosition_71 k (nI (qamin (fun k => qtn r.g Q.lf (r.f (Q.w k))) (i + 1))) (nI (qtn r.g Q.lf (r.f (Q.w (qamin (fun k => qtn r.g Q.lf (r.f (Q.w k))) (i + 1)))))) (nI (i + 1)) S = _
          rw [show qamin (fun k => qtn r.g Q.lf (r.f (Q.w k))) (i + 1 + 1) = if qtn r.g Q.lf (r.f (Q.w (i + 1))) < qtn r.g Q.lf (r.f (Q.w (qamin (fun k => qtn r.g Q.lf (r.f (Q.w k))) (i + 1)))) then i + 1 else qamin (fun k => qtn r.g Q.lf (r.f (Q.w k))) (i + 1) from rfl]
          generalize hX : qamin (fun k => qtn r.g Q.lf (r.f (Q.w k))) (i + 1) = X at *
          unfold X5_chosenPosition_71
          by_cases h : qtn r.g Q.lf (r.f (Q.w (i + 1))) < qtn r.g Q.lf (r.f (Q.w X))
          · rw [if_pos h]; simp (disch := omega) only [qlit, nI_add, pk_mul, qIX, qIN, qOB, qOL, qLE1, qLE0, qLT1, qLT0, qEQ1, qEQ0, qM0, qM1, qR, qN0, qMM, qNL1, qNL0, qNE1, qNE0, qB1, qB0, qOT, qOF, qGT, hL.1, m4, mf, t1]
          · rw [if_neg h]; simp (disch := omega) only [qlit, nI_add, pk_mul, qIX, qIN, qOB, qOL, qLE1, qLE0, qLT1, qLT0, qEQ1, qEQ0, qM0, qM1, qR, qN0, qMM, qNL1, qNL0, qNE1, qNE0, qB1, qB0, qOT, qOF, qGT, hL.1, m4, mf, t1]
        · show X5_chosenPosition_71 k (nI (qamin (fun k => qtn r.g Q.lf (r.f (Q.w k))) (Q.m - 1 + 1))) _ (nI (Q.m - 1 + 1)) S = _
          rw [show Q.m - 1 + 1 = Q.m by omega, ← e1]
          unfold X5_chosenPosition_71
          simp (disch := omega) only [qlit, nI_add, pk_mul, qIX, qIN, qOB, qOL, qLE1, qLE0, qLT1, qLT0, qEQ1, qEQ0, qM0, qM1, qR, qN0, qMM, qNL1, qNL0, qNE1, qNE0, qB1, qB0, qOT, qOF, qGT, hL.1]
      have hk2 := qch_lt (r := r) hm
      have hw0 := b4 0 hm
      have hwk := b4 _ hk2
      have m0 : gi S (k + 7) 0 = nI (Q.w 0) := hL.2.2.2.1 0 hm
      have mk : gi S (k + 7) (qch r Q) = nI (Q.w (qch r Q)) := hL.2.2.2.1 _ hk2
      have mf0 := (hR.2.1 _ hw0.1).2.1
      have mfk := (hR.2.1 _ hwk.1).2.1
      simp (disch := omega) only [qlit, nI_add, pk_mul, qIX, qIN, qOB, qOL, qLE1, qLE0, qLT1, qLT0, qEQ1, qEQ0, qM0, qM1, qR, qN0, qMM, qNL1, qNL0, qNE1, qNE0, qB1, qB0, qOT, qOF, qGT, hbg, hL.1, h53, m0, mf0, htu 0 hm, hloop, mk, mfk]
      refine ⟨_, rfl, ⟨⟨?_, ?_, ?_, ?_, fun h => ?_⟩, ?_, ?_⟩, Fr.rf.si (by unfold PC; omega)⟩
      · simp (disch := omega) only [qlit, nI_add, pk_mul, qIX, qIN, qOB, qOL, qLE1, qLE0, qLT1, qLT0, qEQ1, qEQ0, qM0, qM1, qR, qN0, qMM, qNL1, qNL0, qNE1, qNE0, qB1, qB0, qOT, qOF, qGT, qG0]; exact hK.1
      · simp (disch := omega) only [qlit, nI_add, pk_mul, qIX, qIN, qOB, qOL, qLE1, qLE0, qLT1, qLT0, qEQ1, qEQ0, qM0, qM1, qR, qN0, qMM, qNL1, qNL0, qNE1, qNE0, qB1, qB0, qOT, qOF, qGT, qG0]; exact hK.2.1
      · simp (disch := omega) only [qlit, nI_add, pk_mul, qIX, qIN, qOB, qOL, qLE1, qLE0, qLT1, qLT0, qEQ1, qEQ0, qM0, qM1, qR, qN0, qMM, qNL1, qNL0, qNE1, qNE0, qB1, qB0, qOT, qOF, qGT, qG0]; exact hK.2.2.1
      · simp (disch := omega) only [qlit, nI_add, pk_mul, qIX, qIN, qOB, qOL, qLE1, qLE0, qLT1, qLT0, qEQ1, qEQ0, qM0, qM1, qR, qN0, qMM, qNL1, qNL0, qNE1, qNE0, qB1, qB0, qOT, qOF, qGT, qG0]; exact hK.2.2.2.1
      · simp (disch := omega) only [qlit, nI_add, pk_mul, qIX, qIN, qOB, qOL, qLE1, qLE0, qLT1, qLT0, qEQ1, qEQ0, qM0, qM1, qR, qN0, qMM, qNL1, qNL0, qNE1, qNE0, qB1, qB0, qOT, qOF, qGT, qG1]; show _ = nI (qlf r Q); rw [e2]
      · exact hO.cg (fun a b h => by simp (disch := omega) only [qlit, nI_add, pk_mul, qIX, qIN, qOB, qOL, qLE1, qLE0, qLT1, qLT0, qEQ1, qEQ0, qM0, qM1, qR, qN0, qMM, qNL1, qNL0, qNE1, qNE0, qB1, qB0, qOT, qOF, qGT, qG0])
      · exact hL.cg (fun a b h => by simp (disch := omega) only [qlit, nI_add, pk_mul, qIX, qIN, qOB, qOL, qLE1, qLE0, qLT1, qLT0, qEQ1, qEQ0, qM0, qM1, qR, qN0, qMM, qNL1, qNL0, qNE1, qNE0, qB1, qB0, qOT, qOF, qGT, qG0])
theorem qbgn_ck {r : Rd} {Q : Qt} {cur b s : Nat} (hI : QI r cur Q) (hm : 0 < Q.m) (hs : 1 ≤ s) (hs2 : s ≤ Q.R (Q.w (qch r Q))) (hf : ∀ p, p < cur → r.f p < 6) : qbgn r (qck r b s Q) = if Q.R (Q.w (qch r Q)) = s then -nI 1 else nI (Q.w (qch r Q)) := by
  have hk := qch_lt (r := r) hm
  have hI1 := qck_QI (b := b) hI hm hs hs2 hf
  have hu : ∀ i, i < Q.m → Q.R (Q.w i) ≠ r.z (Q.w i) → i = qch r Q := fun i hi hb => ((qch_bg hI hi hb).2).symm
  by_cases h : Q.R (Q.w (qch r Q)) = s
  · rw [if_pos h]
    rw [qck, if_pos h] at hI1 ⊢
    refine qbgn_0 (fun i hi => ?_)
    have hi' : i < Q.m - 1 := hi
    have hd : (if i < qch r Q then i else i + 1) < Q.m ∧ (if i < qch r Q then i else i + 1) ≠ qch r Q := by split <;> omega
    show qup Q.R (Q.w (qch r Q)) 0 (qdel Q.w (qch r Q) i) = r.z (qdel Q.w (qch r Q) i)
    rw [qdel_get, qup_n (fun e => hd.2 (hI.1 _ _ hd.1 hk e))]
    by_cases hx : Q.R (Q.w (if i < qch r Q then i else i + 1)) = r.z (Q.w (if i < qch r Q then i else i + 1))
    · exact hx
    · exact absurd (hu _ hd.1 hx) hd.2
  · rw [if_neg h]
    rw [qck, if_neg h] at hI1 ⊢
    have hz := (hI.2.1 _ hk).2.2
    exact qbgn_1 hI1 (i := qch r Q) hk (by
      show qup Q.R (Q.w (qch r Q)) (Q.R (Q.w (qch r Q)) - s) (Q.w (qch r Q)) ≠ r.z (Q.w (qch r Q))
      rw [qup_s]; omega)
theorem c_s1 {S T : St} {k : Nat} {x1 x3 v : Int32} (h : X2_takeOut k x1 (si S k 4 (-nI 1)) = some (v, T)) : X2_send_41 k x1 x3 (nI 1) S = some (nI 1, T) := by
  have h1 : X2_send_41 k x1 x3 (nI 1) S = X2_send_54 k x1 (nI 1) (-nI 1) S := by unfold X2_send_41; exact if_neg (show ¬ nI 1 = 0 by decide)
  have h2 : X2_send_54 k x1 (nI 1) (-nI 1) S = ob (X2_takeOut k x1 (si S k 4 (-nI 1))) (fun r4 S5 => og (isB (nI 1)) (some (nI 1, S5))) := by unfold X2_send_54; rw [qOL]; exact if_neg (show ¬ nI 1 = 0 by decide)
  rw [h1, h2, h, qOB]
  exact if_pos (Or.inr rfl)
theorem c_s0 {S : St} {k : Nat} {x1 x3 : Int32} : X2_send_41 k x1 x3 (nI 0) S = some (nI 0, si S k 4 x3) := by
  have h1 : X2_send_41 k x1 x3 (nI 0) S = X2_send_54 k x1 (nI 0) x3 S := by unfold X2_send_41; exact if_pos (show nI 0 = 0 from rfl)
  have h2 : X2_send_54 k x1 (nI 0) x3 S = og (isB (nI 0)) (some (nI 0, si S k 4 x3)) := by unfold X2_send_54; rw [qOL]; exact if_pos (show nI 0 = 0 from rfl)
  rw [h1, h2]
  exact if_pos (Or.inl rfl)
theorem c_serve1 {r : Rd} {c cur k t0 by_ sent turn s : Nat} {S : St} {Q : Qt} (hW : RW r) (hR : RC r S) (hk : 6 ≤ k) (hQ : QC r c cur k S Q) (hI : QI r cur Q) (hc : cur ≤ r.n) (hm : 0 < Q.m) (ht0 : t0 ≤ 500) (hb1 : by_ ≤ 4000) (hb2 : sent < by_) (htu : turn < 40) (hs : s = min (Q.R (Q.w (qch r Q))) (by_ - sent)) :
    ∃ S', X5_serveBehind_46 k (nI t0) (nI by_) (nI sent) (nI turn) S = some (.inl (nI (sent + s), nI (turn + 1)), S') ∧ QC r c cur k S' (qck r (t0 * r.g 1 + sent) s Q) ∧ Fr (PC k) S S' := by
  obtain ⟨b1, b2, b3, b4⟩ := q_bd hW hI hc
  have hn40 := hW.1
  have hg1 := hW.2.2.2.2.1
  obtain ⟨S1, e1, e2, e3⟩ := c_chosen hW hR hk hQ hI hc hm
  have hkk := qch_lt (r := r) hm
  obtain ⟨c1, c2, c3, c4, c5, c6⟩ := b4 _ hkk
  have hgt : Q.R (Q.w (qch r Q)) ≤ qld Q := qsm_get (v := fun k => Q.R (Q.w k)) hkk
  have hinj := hI.1
  have hf : ∀ q, q < cur → r.f q < 6 := fun q hq => (hW.2.1 q (by omega)).2.1
  have hbg := qbgn_ck (b := t0 * r.g 1 + sent) (s := s) hI hm (by omega) (by omega) hf
  have hld := qck_ld (r := r) (b := t0 * r.g 1 + sent) (s := s) hI hm (by omega)
  obtain ⟨hK1, hO1, hL1⟩ := e2
  obtain ⟨o1, o2, o3, o4, o5, o6⟩ := hO1
  obtain ⟨l1, l2, l3, l4, l5⟩ := hL1
  have l1' : gi S1 (k + 6) 0 = nI Q.m := l1
  have l2' : gi S1 (k + 6) 3 = nI (qld Q) := l2
  have m4 : gi S1 (k + 7) (qch r Q) = nI (Q.w (qch r Q)) := l4 _ hkk
  have m5 : gi S1 (k + 8) (Q.w (qch r Q)) = nI (Q.R (Q.w (qch r Q))) := l5 _ hkk
  have m4' : gi S1 (k + 6 + 1) (qch r Q) = nI (Q.w (qch r Q)) := m4
  have m5' : gi S1 (k + 6 + 2) (Q.w (qch r Q)) = nI (Q.R (Q.w (qch r Q))) := m5
  have hsx : (if nI (by_ - sent) < nI (Q.R (Q.w (qch r Q))) then nI (by_ - sent) else nI (Q.R (Q.w (qch r Q)))) = nI s := by
    by_cases h : by_ - sent < Q.R (Q.w (qch r Q))
    · rw [qTL1 h (by omega), show s = by_ - sent by omega]
    · rw [qTL0 (by omega) (by omega), show s = Q.R (Q.w (qch r Q)) by omega]
  have hfate : nI t0 + nI ((sent + s - 1) / r.g 1) = nI ((t0 * r.g 1 + sent + s - 1) / r.g 1) := by
    rw [nI_add, show t0 * r.g 1 + sent + s - 1 = sent + s - 1 + t0 * r.g 1 by omega, Nat.add_mul_div_right _ _ (by omega), Nat.add_comm]
  unfold X5_serveBehind_46
  simp (disch := omega) only [qlit, nI_add, pk_mul, qIX, qIN, qOB, qOL, qLE1, qLE0, qLT1, qLT0, qEQ1, qEQ0, qM0, qM1, qR, qN0, qMM, qNL1, qNL0, qNE1, qNE0, qB1, qB0, qOT, qOF, qGT, e1, m4, m5, qSUB, hsx]
  by_cases hs2 : Q.R (Q.w (qch r Q)) = s
  · have h0 : Q.R (Q.w (qch r Q)) - s = 0 := by omega
    rw [if_pos hs2] at hbg
    have hto := c_takeOut (S := si (si (si S1 (k + 6 + 2) (Q.w (qch r Q)) (nI 0)) (k + 6) 3 (nI (qld Q - s))) (k + 6) 4 (-nI 1)) (k := k + 6) (m := Q.m) (l := qld Q - s) (i := qch r Q) (p := Q.w (qch r Q)) (x := 0) (by simp (disch := omega) only [qlit, nI_add, pk_mul, qIX, qIN, qOB, qOL, qLE1, qLE0, qLT1, qLT0, qEQ1, qEQ0, qM0, qM1, qR, qN0, qMM, qNL1, qNL0, qNE1, qNE0, qB1, qB0, qOT, qOF, qGT, qG0, l1']) (by simp (disch := omega) only [qlit, nI_add, pk_mul, qIX, qIN, qOB, qOL, qLE1, qLE0, qLT1, qLT0, qEQ1, qEQ0, qM0, qM1, qR, qN0, qMM, qNL1, qNL0, qNE1, qNE0, qB1, qB0, qOT, qOF, qGT, qG0, qG1]) (by simp (disch := omega) only [qlit, nI_add, pk_mul, qIX, qIN, qOB, qOL, qLE1, qLE0, qLT1, qLT0, qEQ1, qEQ0, qM0, qM1, qR, qN0, qMM, qNL1, qNL0, qNE1, qNE0, qB1, qB0, qOT, qOF, qGT, qG0, m4']) (by simp (disch := omega) only [qlit, nI_add, pk_mul, qIX, qIN, qOB, qOL, qLE1, qLE0, qLT1, qLT0, qEQ1, qEQ0, qM0, qM1, qR, qN0, qMM, qNL1, qNL0, qNE1, qNE0, qB1, qB0, qOT, qOF, qGT, qG0, qG1]) hkk b1 c2 (Nat.zero_le _) (by omega)
    unfold X2_send
    simp (disch := omega) only [qlit, nI_add, pk_mul, qIX, qIN, qOB, qOL, qLE1, qLE0, qLT1, qLT0, qEQ1, qEQ0, qM0, qM1, qR, qN0, qMM, qNL1, qNL0, qNE1, qNE0, qB1, qB0, qOT, qOF, qGT, m4', m5', qSUB, h0, qG0, qG1, l2', c_s1 hto]
    have g6 : gi S1 k 6 = nI (r.g 1) := hK1.2.2.1
    simp (disch := omega) only [qlit, nI_add, pk_mul, qIX, qIN, qOB, qOL, qLE1, qLE0, qLT1, qLT0, qEQ1, qEQ0, qM0, qM1, qR, qN0, qMM, qNL1, qNL0, qNE1, qNE0, qB1, qB0, qOT, qOF, qGT, qC0, qG0, g6, c_quot, hfate]
    rw [qck, if_pos hs2] at hbg hld ⊢
    refine ⟨_, rfl, ⟨?_, ⟨?_, ?_, ?_, ?_, fun y hy hq => ?_, fun j hj => ?_⟩, ⟨?_, ?_, ?_, fun i hi => ?_, fun i hi => ?_⟩⟩, ?_⟩
    · refine ⟨?_, ?_, ?_, ?_, fun h => ?_⟩
      · simp (disch := omega) only [qlit, nI_add, pk_mul, qIX, qIN, qOB, qOL, qLE1, qLE0, qLT1, qLT0, qEQ1, qEQ0, qM0, qM1, qR, qN0, qMM, qNL1, qNL0, qNE1, qNE0, qB1, qB0, qOT, qOF, qGT, qC0, qG0]; exact hK1.1
      · simp (disch := omega) only [qlit, nI_add, pk_mul, qIX, qIN, qOB, qOL, qLE1, qLE0, qLT1, qLT0, qEQ1, qEQ0, qM0, qM1, qR, qN0, qMM, qNL1, qNL0, qNE1, qNE0, qB1, qB0, qOT, qOF, qGT, qC0, qG0]; exact hK1.2.1
      · simp (disch := omega) only [qlit, nI_add, pk_mul, qIX, qIN, qOB, qOL, qLE1, qLE0, qLT1, qLT0, qEQ1, qEQ0, qM0, qM1, qR, qN0, qMM, qNL1, qNL0, qNE1, qNE0, qB1, qB0, qOT, qOF, qGT, qC0, qG0]; exact hK1.2.2.1
      · simp (disch := omega) only [qlit, nI_add, pk_mul, qIX, qIN, qOB, qOL, qLE1, qLE0, qLT1, qLT0, qEQ1, qEQ0, qM0, qM1, qR, qN0, qMM, qNL1, qNL0, qNE1, qNE0, qB1, qB0, qOT, qOF, qGT, qC0, qG0]; exact hK1.2.2.2.1
      · simp (disch := omega) only [qlit, nI_add, pk_mul, qIX, qIN, qOB, qOL, qLE1, qLE0, qLT1, qLT0, qEQ1, qEQ0, qM0, qM1, qR, qN0, qMM, qNL1, qNL0, qNE1, qNE0, qB1, qB0, qOT, qOF, qGT, qC0, qG0]; exact hK1.2.2.2.2 h
    · simp (disch := omega) only [qlit, nI_add, pk_mul, qIX, qIN, qOB, qOL, qLE1, qLE0, qLT1, qLT0, qEQ1, qEQ0, qM0, qM1, qR, qN0, qMM, qNL1, qNL0, qNE1, qNE0, qB1, qB0, qOT, qOF, qGT, qC0, qG0]; exact o1
    · simp (disch := omega) only [qlit, nI_add, pk_mul, qIX, qIN, qOB, qOL, qLE1, qLE0, qLT1, qLT0, qEQ1, qEQ0, qM0, qM1, qR, qN0, qMM, qNL1, qNL0, qNE1, qNE0, qB1, qB0, qOT, qOF, qGT, qC0, qG0]; exact o2
    · simp (disch := omega) only [qlit, nI_add, pk_mul, qIX, qIN, qOB, qOL, qLE1, qLE0, qLT1, qLT0, qEQ1, qEQ0, qM0, qM1, qR, qN0, qMM, qNL1, qNL0, qNE1, qNE0, qB1, qB0, qOT, qOF, qGT, qC0, qG0]; exact o3
    · simp (disch := omega) only [qlit, nI_add, pk_mul, qIX, qIN, qOB, qOL, qLE1, qLE0, qLT1, qLT0, qEQ1, qEQ0, qM0, qM1, qR, qN0, qMM, qNL1, qNL0, qNE1, qNE0, qB1, qB0, qOT, qOF, qGT, qC0, qG0]; exact o4
    · show _ = qup Q.F (Q.w (qch r Q)) (nI ((t0 * r.g 1 + sent + s - 1) / r.g 1)) y
      by_cases e : y = Q.w (qch r Q)
      · subst e; simp (disch := omega) only [qlit, nI_add, pk_mul, qIX, qIN, qOB, qOL, qLE1, qLE0, qLT1, qLT0, qEQ1, qEQ0, qM0, qM1, qR, qN0, qMM, qNL1, qNL0, qNE1, qNE0, qB1, qB0, qOT, qOF, qGT, qG1, qup_s]
      · simp (disch := omega) only [qlit, nI_add, pk_mul, qIX, qIN, qOB, qOL, qLE1, qLE0, qLT1, qLT0, qEQ1, qEQ0, qM0, qM1, qR, qN0, qMM, qNL1, qNL0, qNE1, qNE0, qB1, qB0, qOT, qOF, qGT, qC0, qG0, qup_n e]
        refine o5 y hy (fun j hj hjp => ?_)
        have hj2 : j < Q.m := hj
        have hjp2 : Q.w j = y := hjp
        have hji : j ≠ qch r Q := fun h => e (by rw [← hjp2, h])
        by_cases h : j < qch r Q
        · exact hq j (show j < Q.m - 1 by omega) (by show qdel Q.w (qch r Q) j = y; unfold qdel; rw [if_pos h]; exact hjp2)
        · exact hq (j - 1) (show j - 1 < Q.m - 1 by omega) (by show qdel Q.w (qch r Q) (j - 1) = y; unfold qdel; rw [if_neg (by omega), show j - 1 + 1 = j by omega]; exact hjp2)
    · simp (disch := omega) only [qlit, nI_add, pk_mul, qIX, qIN, qOB, qOL, qLE1, qLE0, qLT1, qLT0, qEQ1, qEQ0, qM0, qM1, qR, qN0, qMM, qNL1, qNL0, qNE1, qNE0, qB1, qB0, qOT, qOF, qGT, qC0, qG0]; exact o6 j hj
    · simp (disch := omega) only [qlit, nI_add, pk_mul, qIX, qIN, qOB, qOL, qLE1, qLE0, qLT1, qLT0, qEQ1, qEQ0, qM0, qM1, qR, qN0, qMM, qNL1, qNL0, qNE1, qNE0, qB1, qB0, qOT, qOF, qGT, qC0, qG0, qG1]; rfl
    · simp (disch := omega) only [qlit, nI_add, pk_mul, qIX, qIN, qOB, qOL, qLE1, qLE0, qLT1, qLT0, qEQ1, qEQ0, qM0, qM1, qR, qN0, qMM, qNL1, qNL0, qNE1, qNE0, qB1, qB0, qOT, qOF, qGT, qC0, qG0, qG1]
      rw [← hld]
      congr 1
      omega
    · simp (disch := omega) only [qlit, nI_add, pk_mul, qIX, qIN, qOB, qOL, qLE1, qLE0, qLT1, qLT0, qEQ1, qEQ0, qM0, qM1, qR, qN0, qMM, qNL1, qNL0, qNE1, qNE0, qB1, qB0, qOT, qOF, qGT, qC0, qG0, qG1]; exact hbg.symm
    · show _ = nI (qdel Q.w (qch r Q) i)
      have hi' : i < Q.m - 1 := hi
      unfold qdel
      by_cases e : i < qch r Q
      · rw [if_pos e]; simp (disch := omega) only [qlit, nI_add, pk_mul, qIX, qIN, qOB, qOL, qLE1, qLE0, qLT1, qLT0, qEQ1, qEQ0, qM0, qM1, qR, qN0, qMM, qNL1, qNL0, qNE1, qNE0, qB1, qB0, qOT, qOF, qGT, qG0, qC2]; exact l4 i (show i < Q.m by omega)
      · rw [if_neg e]; simp (disch := omega) only [qlit, nI_add, pk_mul, qIX, qIN, qOB, qOL, qLE1, qLE0, qLT1, qLT0, qEQ1, qEQ0, qM0, qM1, qR, qN0, qMM, qNL1, qNL0, qNE1, qNE0, qB1, qB0, qOT, qOF, qGT, qG0, qC1]
        rw [show qch r Q + 1 + (i - qch r Q) = i + 1 by omega]; exact l4 (i + 1) (show i + 1 < Q.m by omega)
    · show gi _ (k + 8) (qdel Q.w (qch r Q) i) = nI (qup Q.R (Q.w (qch r Q)) 0 (qdel Q.w (qch r Q) i))
      have hi' : i < Q.m - 1 := hi
      have hne : qdel Q.w (qch r Q) i ≠ Q.w (qch r Q) := by
        rw [qdel_get]
        intro e
        have := hinj _ _ (by split <;> omega) hkk e
        split at this <;> omega
      rw [qup_n hne]
      simp (disch := omega) only [qlit, nI_add, pk_mul, qIX, qIN, qOB, qOL, qLE1, qLE0, qLT1, qLT0, qEQ1, qEQ0, qM0, qM1, qR, qN0, qMM, qNL1, qNL0, qNE1, qNE0, qB1, qB0, qOT, qOF, qGT, qG0, qC0]
      rw [qdel_get]
      exact l5 _ (by show _ < Q.m; split <;> omega)
    · refine Fr.si (Fr.sc (Fr.si (Fr.si (Fr.si (Fr.si (Fr.si e3 ?_) ?_) ?_) ?_) ?_) ?_) ?_
      all_goals first | (intro j; unfold PC; omega) | (unfold PC; omega)
  · rw [if_neg hs2] at hbg
    unfold X2_send
    simp (disch := omega) only [qlit, nI_add, pk_mul, qIX, qIN, qOB, qOL, qLE1, qLE0, qLT1, qLT0, qEQ1, qEQ0, qM0, qM1, qR, qN0, qMM, qNL1, qNL0, qNE1, qNE0, qB1, qB0, qOT, qOF, qGT, m4', m5', qSUB, qG0, qG1, l2', c_s0]
    rw [qck, if_neg hs2] at hbg hld ⊢
    refine ⟨_, rfl, ⟨?_, ⟨?_, ?_, ?_, ?_, fun y hy hq => ?_, fun j hj => ?_⟩, ⟨?_, ?_, ?_, fun i hi => ?_, fun i hi => ?_⟩⟩, ?_⟩
    · refine ⟨?_, ?_, ?_, ?_, fun h => ?_⟩
      · simp (disch := omega) only [qlit, nI_add, pk_mul, qIX, qIN, qOB, qOL, qLE1, qLE0, qLT1, qLT0, qEQ1, qEQ0, qM0, qM1, qR, qN0, qMM, qNL1, qNL0, qNE1, qNE0, qB1, qB0, qOT, qOF, qGT, qC0, qG0]; exact hK1.1
      · simp (disch := omega) only [qlit, nI_add, pk_mul, qIX, qIN, qOB, qOL, qLE1, qLE0, qLT1, qLT0, qEQ1, qEQ0, qM0, qM1, qR, qN0, qMM, qNL1, qNL0, qNE1, qNE0, qB1, qB0, qOT, qOF, qGT, qC0, qG0]; exact hK1.2.1
      · simp (disch := omega) only [qlit, nI_add, pk_mul, qIX, qIN, qOB, qOL, qLE1, qLE0, qLT1, qLT0, qEQ1, qEQ0, qM0, qM1, qR, qN0, qMM, qNL1, qNL0, qNE1, qNE0, qB1, qB0, qOT, qOF, qGT, qC0, qG0]; exact hK1.2.2.1
      · simp (disch := omega) only [qlit, nI_add, pk_mul, qIX, qIN, qOB, qOL, qLE1, qLE0, qLT1, qLT0, qEQ1, qEQ0, qM0, qM1, qR, qN0, qMM, qNL1, qNL0, qNE1, qNE0, qB1, qB0, qOT, qOF, qGT, qC0, qG0]; exact hK1.2.2.2.1
      · simp (disch := omega) only [qlit, nI_add, pk_mul, qIX, qIN, qOB, qOL, qLE1, qLE0, qLT1, qLT0, qEQ1, qEQ0, qM0, qM1, qR, qN0, qMM, qNL1, qNL0, qNE1, qNE0, qB1, qB0, qOT, qOF, qGT, qC0, qG0]; exact hK1.2.2.2.2 h
    · simp (disch := omega) only [qlit, nI_add, pk_mul, qIX, qIN, qOB, qOL, qLE1, qLE0, qLT1, qLT0, qEQ1, qEQ0, qM0, qM1, qR, qN0, qMM, qNL1, qNL0, qNE1, qNE0, qB1, qB0, qOT, qOF, qGT, qG0]; exact o1
    · simp (disch := omega) only [qlit, nI_add, pk_mul, qIX, qIN, qOB, qOL, qLE1, qLE0, qLT1, qLT0, qEQ1, qEQ0, qM0, qM1, qR, qN0, qMM, qNL1, qNL0, qNE1, qNE0, qB1, qB0, qOT, qOF, qGT, qG0]; exact o2
    · simp (disch := omega) only [qlit, nI_add, pk_mul, qIX, qIN, qOB, qOL, qLE1, qLE0, qLT1, qLT0, qEQ1, qEQ0, qM0, qM1, qR, qN0, qMM, qNL1, qNL0, qNE1, qNE0, qB1, qB0, qOT, qOF, qGT, qG0]; exact o3
    · simp (disch := omega) only [qlit, nI_add, pk_mul, qIX, qIN, qOB, qOL, qLE1, qLE0, qLT1, qLT0, qEQ1, qEQ0, qM0, qM1, qR, qN0, qMM, qNL1, qNL0, qNE1, qNE0, qB1, qB0, qOT, qOF, qGT, qG0]; exact o4
    · simp (disch := omega) only [qlit, nI_add, pk_mul, qIX, qIN, qOB, qOL, qLE1, qLE0, qLT1, qLT0, qEQ1, qEQ0, qM0, qM1, qR, qN0, qMM, qNL1, qNL0, qNE1, qNE0, qB1, qB0, qOT, qOF, qGT, qG0]; exact o5 y hy hq
    · simp (disch := omega) only [qlit, nI_add, pk_mul, qIX, qIN, qOB, qOL, qLE1, qLE0, qLT1, qLT0, qEQ1, qEQ0, qM0, qM1, qR, qN0, qMM, qNL1, qNL0, qNE1, qNE0, qB1, qB0, qOT, qOF, qGT, qG0]; exact o6 j hj
    · simp (disch := omega) only [qlit, nI_add, pk_mul, qIX, qIN, qOB, qOL, qLE1, qLE0, qLT1, qLT0, qEQ1, qEQ0, qM0, qM1, qR, qN0, qMM, qNL1, qNL0, qNE1, qNE0, qB1, qB0, qOT, qOF, qGT, qG0]; exact l1
    · simp (disch := omega) only [qlit, nI_add, pk_mul, qIX, qIN, qOB, qOL, qLE1, qLE0, qLT1, qLT0, qEQ1, qEQ0, qM0, qM1, qR, qN0, qMM, qNL1, qNL0, qNE1, qNE0, qB1, qB0, qOT, qOF, qGT, qG0, qG1]
      rw [← hld]
      congr 1
      omega
    · simp (disch := omega) only [qlit, nI_add, pk_mul, qIX, qIN, qOB, qOL, qLE1, qLE0, qLT1, qLT0, qEQ1, qEQ0, qM0, qM1, qR, qN0, qMM, qNL1, qNL0, qNE1, qNE0, qB1, qB0, qOT, qOF, qGT, qG1]; exact hbg.symm
    · simp (disch := omega) only [qlit, nI_add, pk_mul, qIX, qIN, qOB, qOL, qLE1, qLE0, qLT1, qLT0, qEQ1, qEQ0, qM0, qM1, qR, qN0, qMM, qNL1, qNL0, qNE1, qNE0, qB1, qB0, qOT, qOF, qGT, qG0]; exact l4 i hi
    · show gi _ (k + 8) (Q.w i) = nI (qup Q.R (Q.w (qch r Q)) (Q.R (Q.w (qch r Q)) - s) (Q.w i))
      have hi' : i < Q.m := hi
      by_cases e : i = qch r Q
      · subst e; simp (disch := omega) only [qlit, nI_add, pk_mul, qIX, qIN, qOB, qOL, qLE1, qLE0, qLT1, qLT0, qEQ1, qEQ0, qM0, qM1, qR, qN0, qMM, qNL1, qNL0, qNE1, qNE0, qB1, qB0, qOT, qOF, qGT, qG0, qG1, qup_s]
      · have hne : Q.w i ≠ Q.w (qch r Q) := fun h => e (hinj _ _ hi' hkk h)
        simp (disch := omega) only [qlit, nI_add, pk_mul, qIX, qIN, qOB, qOL, qLE1, qLE0, qLT1, qLT0, qEQ1, qEQ0, qM0, qM1, qR, qN0, qMM, qNL1, qNL0, qNE1, qNE0, qB1, qB0, qOT, qOF, qGT, qG0, qup_n hne]
        exact l5 i hi
    · refine Fr.si (Fr.si (Fr.si e3 ?_) ?_) ?_
      all_goals (unfold PC; omega)
theorem c_serveL {r : Rd} {c cur k t0 by_ : Nat} (hW : RW r) (hk : 6 ≤ k) (hc : cur ≤ r.n) (ht0 : t0 ≤ 500) (hb1 : by_ ≤ 4000) : ∀ (d sent turn : Nat) (Q : Qt) (S : St), d = by_ - sent → sent ≤ by_ → by_ - sent ≤ qld Q → turn ≤ 40 → (sent < by_ → turn + Q.m ≤ 40) → RC r S → QC r c cur k S Q → QI r cur Q →
    ∃ S', X5_serveBehind_46L k (nI t0) (nI by_) (nI sent, nI turn) S = some (.inr (), S') ∧ QC r c cur k S' (qrun r (t0 * r.g 1 + sent) (by_ - sent) Q) ∧ Fr (PC k) S S' := by
  intro d
  induction d using Nat.strongRecOn with
  | ind d ih =>
    intro sent turn Q S hd hs hl ht htm hR hQ hI
    have hf : ∀ q, q < cur → r.f q < 6 := fun q hq => (hW.2.1 q (by omega)).2.1
    obtain ⟨b1, b2, b3, b4⟩ := q_bd hW hI hc
    by_cases h0 : sent = by_
    · subst h0
      rw [Nat.sub_self]
      refine ⟨S, lp_end ?_, hQ, Fr.rf⟩
      show X5_serveBehind_46 k (nI t0) (nI sent) (nI sent) (nI turn) S = _
      unfold X5_serveBehind_46
      by_cases h4 : 40 ≤ turn
      · simp (disch := omega) only [qlit, nI_add, pk_mul, qIX, qIN, qOB, qOL, qLE1, qLE0, qLT1, qLT0, qEQ1, qEQ0, qM0, qM1, qR, qN0, qMM, qNL1, qNL0, qNE1, qNE0, qB1, qB0, qOT, qOF, qGT]
      · simp (disch := omega) only [qlit, nI_add, pk_mul, qIX, qIN, qOB, qOL, qLE1, qLE0, qLT1, qLT0, qEQ1, qEQ0, qM0, qM1, qR, qN0, qMM, qNL1, qNL0, qNE1, qNE0, qB1, qB0, qOT, qOF, qGT]
    · have htm' := htm (by omega)
      have hm : 0 < Q.m := by
        rcases Nat.eq_zero_or_pos Q.m with h | h
        · have := (qld_0 hI).mpr h; omega
        · exact h
      have hkk := qch_lt (r := r) hm
      have hR4 := b4 _ hkk
      obtain ⟨S1, e1, e2, e3⟩ := c_serve1 hW hR hk hQ hI hc hm ht0 hb1 (show sent < by_ by omega) (show turn < 40 by omega) rfl
      generalize hss : min (Q.R (Q.w (qch r Q))) (by_ - sent) = s at *
      have hs1 : 1 ≤ s ∧ s ≤ by_ - sent ∧ s ≤ Q.R (Q.w (qch r Q)) := by omega
      have hI1 := qck_QI (b := t0 * r.g 1 + sent) hI hm hs1.1 hs1.2.2 hf
      have hld := qck_ld (r := r) (b := t0 * r.g 1 + sent) (s := s) hI hm hs1.2.2
      have hmm : sent + s < by_ → turn + 1 + (qck r (t0 * r.g 1 + sent) s Q).m ≤ 40 := by
        intro h
        have : Q.R (Q.w (qch r Q)) = s := by omega
        rw [qck, if_pos this]
        show turn + 1 + (Q.m - 1) ≤ 40
        omega
      obtain ⟨S2, e4, e5, e6⟩ := ih (by_ - (sent + s)) (by omega) (sent + s) (turn + 1) (qck r (t0 * r.g 1 + sent) s Q) S1 rfl (by omega) (by omega) (by omega) hmm (hR.fr hk e3) e2 hI1
      refine ⟨S2, lp_go e1 e4, ?_, e3.tr e6⟩
      have := qrun_add (r := r) s (by_ - (sent + s)) (t0 * r.g 1 + sent) Q
      rw [show s + (by_ - (sent + s)) = by_ - sent by omega, qrun_ck hf s _ Q hI hm hs1.1 hs1.2.2] at this
      rw [this, Nat.add_assoc]
      exact e5
