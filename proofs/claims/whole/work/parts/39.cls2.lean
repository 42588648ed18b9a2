/-! ===== the class's arrivals ===== -/
theorem c_longR {r : Rd} {c cur k p : Nat} (hW : RW r) (hk : 6 ≤ k) (hc : cur ≤ r.n) (hp : p < r.n) (hc2 : c ≤ 1000) (hzc : r.z p ≤ c) : ∀ (n : Nat) (Q : Qt) (S : St), Q.m < n → n ≤ 41 → Q.nc ≤ 1001 → RC r S → QC r c cur k S Q → QI r cur Q →
    ∃ S', X5_makesRoomInLongestFlow_2L k (nI (r.f p)) (nI (r.z p)) (nI (41 - n)) S = some (if (qroom r c 2 p n Q).1 = true then .inr () else .inl (), S') ∧ QC r c cur k S' (qroom r c 2 p n Q).2 ∧ Fr (PC k) S S' := by
  intro n
  induction n with
  | zero => intro Q S h; omega
  | succ n ih =>
    intro Q S hm hn hnc hR hQ hI
    obtain ⟨hK, hO, hL⟩ := hQ
    have hn40 := hW.1
    obtain ⟨b1, b2, b3, b4⟩ := q_bd hW hI hc
    have hz := hW.2.1 p hp
    have hh := c_holds (x := qld Q + r.z p) hK.1 hK.2.1 hc2 hnc (by omega)
    unfold X5_makesRoomInLongestFlow_2L
    rw [qroom]
    by_cases h1 : qld Q + r.z p ≤ c
    · rw [if_pos h1] at hh ⊢
      refine ⟨S, lp_end ?_, ⟨hK, hO, hL⟩, Fr.rf⟩
      show X5_makesRoomInLongestFlow_2 k (nI (r.f p)) (nI (r.z p)) (nI (41 - (n + 1))) S = _
      unfold X5_makesRoomInLongestFlow_2
      simp (disch := omega) only [qlit, nI_add, pk_mul, qIX, qIN, qOB, qOL, qLE1, qLE0, qLT1, qLT0, qEQ1, qEQ0, qM0, qM1, qR, qN0, qMM, qNL1, qNL0, qNE1, qNE0, qB1, qB0, qOT, qOF, qGT, hL.2.1, hh]
      rfl
    · rw [if_neg h1] at hh ⊢
      obtain ⟨hK1, hO1, hL1, hF1⟩ := c_nc (x := qld Q + r.z p) hK hO hL
      have hR1 := hR.fr hk hF1
      obtain ⟨S1, g1, g2⟩ := c_amts hW hR1 hk ⟨hK1, hO1, hL1⟩ (qI_nc hI) hc hp
      have hqe : qlg r p (qnc (qld Q + r.z p) Q) = qlg r p Q := rfl
      rw [hqe] at g1
      have g2' : Fr (PC k) (si S k 5 (nI (min Q.nc (qld Q + r.z p)))) S1 := g2.mono (fun a b h => by unfold PC; omega)
      have hR2 := hR1.fr hk g2'
      have hK2 := hK1.cg (T := S1) (fun b => g2.1 _ _ (by show ¬ k = k + 9; omega))
      have hO2 := hO1.cg (T := S1) (fun a b h => g2.1 _ _ (by show ¬ a = k + 9; omega))
      have hL2 := hL1.cg (T := S1) (fun a b h => g2.1 _ _ (by show ¬ a = k + 9; omega))
      have hl6 := q_lg6 (r := r) (p := p) (Q := Q)
      have hv : qvic r 2 p Q = if qlg r p Q = r.f p then Q.m else qlw r Q (qlg r p Q) - 1 := rfl
      rw [hv]
      by_cases e : qlg r p Q = r.f p
      · rw [if_pos e, if_neg (Nat.lt_irrefl _)]
        refine ⟨_, lp_end ?_, ⟨hK2, hO2, hL2⟩, hF1.tr g2'⟩
        show X5_makesRoomInLongestFlow_2 k (nI (r.f p)) (nI (r.z p)) (nI (41 - (n + 1))) S = _
        unfold X5_makesRoomInLongestFlow_2
        simp (disch := omega) only [qlit, nI_add, pk_mul, qIX, qIN, qOB, qOL, qLE1, qLE0, qLT1, qLT0, qEQ1, qEQ0, qM0, qM1, qR, qN0, qMM, qNL1, qNL0, qNE1, qNE0, qB1, qB0, qOT, qOF, qGT, hL.2.1, hh, g1]
        rfl
      · have h5 := q_lw hz.2.2.1 hz.2.1 e
        have hla := c_last hW hR2 hL2 (qI_nc hI) hc hl6 h5.1
        have hqw : qlw r (qnc (qld Q + r.z p) Q) (qlg r p Q) = qlw r Q (qlg r p Q) := rfl
        rw [hqw] at hla
        have h3 : qlw r Q (qlg r p Q) - 1 < Q.m := by omega
        rw [if_neg e, if_pos h3]
        have hwh : Q.R (Q.w (qlw r Q (qlg r p Q) - 1)) = r.z (Q.w (qlw r Q (qlg r p Q) - 1)) := by
          have := (qlst_sp (P := fun k => decide (Q.R (Q.w k) = r.z (Q.w k) ∧ r.f (Q.w k) = qlg r p Q)) Q.m).2.1 h5.1
          have h7 : Q.R (Q.w (qlw r Q (qlg r p Q) - 1)) = r.z (Q.w (qlw r Q (qlg r p Q) - 1)) ∧ r.f (Q.w (qlw r Q (qlg r p Q) - 1)) = qlg r p Q := of_decide_eq_true this
          exact h7.1
        obtain ⟨S2, S3, e1, e2, e3, e4, e5, e6⟩ := c_drop hW hK2 hO2 hL2 (qI_nc hI) hc h3 hwh
        have e1' : X2_takeOut (k + 6) (nI (qlw r Q (qlg r p Q) - 1)) S1 = some (nI (Q.w (qlw r Q (qlg r p Q) - 1)), S2) := e1
        have e2' : X3_noteDrop (k + 1) (nI (Q.w (qlw r Q (qlg r p Q) - 1))) S2 = some ((), S3) := e2
        have h4 : X5_makesRoomInLongestFlow_2 k (nI (r.f p)) (nI (r.z p)) (nI (41 - (n + 1))) S = some (.inl (nI (41 - n)), S3) := by
          unfold X5_makesRoomInLongestFlow_2
          simp (disch := omega) only [qlit, nI_add, pk_mul, qIX, qIN, qOB, qOL, qLE1, qLE0, qLT1, qLT0, qEQ1, qEQ0, qM0, qM1, qR, qN0, qMM, qNL1, qNL0, qNE1, qNE0, qB1, qB0, qOT, qOF, qGT, hL.2.1, hh, g1, hla, e1', e2']
          rw [show 41 - (n + 1) + 1 = 41 - n by omega]
        have hF3 := hF1.tr (g2'.tr e6)
        obtain ⟨S4, f1, f2, f3⟩ := ih (qrem (qlw r Q (qlg r p Q) - 1) (qnc (qld Q + r.z p) Q)) S3 (by show Q.m - 1 < n; omega) (by omega) (by show min Q.nc (qld Q + r.z p) ≤ 1001; omega) (hR.fr hk hF3) ⟨e3, e4, e5⟩ (qI_rem (qI_nc hI) h3)
        exact ⟨S4, lp_go h4 f1, f2, hF3.tr f3⟩
theorem c_quot {a b : Nat} {S : St} (ha : a < 2147483648) (hb : 1 ≤ b) (hb2 : b < 2147483648) : X7_quotient (nI a) (nI b) S = some (nI (a / b), S) := by
  unfold X7_quotient
  simp (disch := omega) only [qlit, nI_add, pk_mul, qIX, qIN, qOB, qOL, qLE1, qLE0, qLT1, qLT0, qEQ1, qEQ0, qM0, qM1, qR, qN0, qMM, qNL1, qNL0, qNE1, qNE0, qB1, qB0, qOT, qOF, qGT, qNZ, pk_div]
theorem c_thr {r : Rd} {cur k p : Nat} {S : St} {Q : Qt} (hW : RW r) (hR : RC r S) (hL : CL r k S Q) (hI : QI r cur Q) (hc : cur ≤ r.n) (hp : p < r.n) : X5_bytesForThreshold k (nI (r.f p)) (nI (r.z p)) S = some (nI (qth r p Q), S) ∧ qth r p Q ≤ 16500 := by
  obtain ⟨b1, b2, b3, b4⟩ := q_bd hW hI hc
  have hn40 := hW.1
  have hz := hW.2.1 p hp
  have hg := hW.2.2.2.2.2.2.2.1
  obtain ⟨l1, l2, l3, l4, l5⟩ := hL
  have hin : X5_bytesForThreshold_5L k (nI (r.f p)) (nI (r.z p), nI 0) S = some (nI (qown r p Q), S) := by
    unfold X5_bytesForThreshold_5L
    refine lp_same (body := fun (a : Int32 × Int32) (S : St) => X5_bytesForThreshold_5 k (nI (r.f p)) a.1 a.2 S) Q.m (fun i => (nI (r.z p + qsm (fun k => if r.f (Q.w k) = r.f p then Q.R (Q.w k) else 0) i), nI i)) (fun i hi => ?_) ?_
    · obtain ⟨c1, c2, c3, c4, c5, c6⟩ := b4 i hi
      have m4 := l4 i hi
      have m5 := l5 i hi
      have mf := (hR.2.1 _ c1).2.1
      unfold X5_bytesForThreshold_5
      rw [qsm]
      by_cases e : r.f (Q.w i) = r.f p
      · rw [if_pos e]
        simp (disch := omega) only [qlit, nI_add, pk_mul, qIX, qIN, qOB, qOL, qLE1, qLE0, qLT1, qLT0, qEQ1, qEQ0, qM0, qM1, qR, qN0, qMM, qNL1, qNL0, qNE1, qNE0, qB1, qB0, qOT, qOF, qGT, l1, m4, m5, mf, Nat.add_assoc]
      · rw [if_neg e]
        simp (disch := omega) only [qlit, nI_add, pk_mul, qIX, qIN, qOB, qOL, qLE1, qLE0, qLT1, qLT0, qEQ1, qEQ0, qM0, qM1, qR, qN0, qMM, qNL1, qNL0, qNE1, qNE0, qB1, qB0, qOT, qOF, qGT, l1, m4, m5, mf, Nat.add_assoc]
        rfl
    · unfold X5_bytesForThreshold_5
      simp (disch := omega) only [qlit, nI_add, pk_mul, qIX, qIN, qOB, qOL, qLE1, qLE0, qLT1, qLT0, qEQ1, qEQ0, qM0, qM1, qR, qN0, qMM, qNL1, qNL0, qNE1, qNE0, qB1, qB0, qOT, qOF, qGT, l1]
      rfl
  have hbd : qown r p Q ≤ 4100 := by
    have := qsm_le (v := fun k => if r.f (Q.w k) = r.f p then Q.R (Q.w k) else 0) (c := 100) (m := Q.m) (fun k hk => by
      have := (b4 k hk).2.2.2.1
      show (if _ then _ else _) ≤ 100
      split <;> omega)
    unfold qown
    omega
  have hq : qth r p Q ≤ 16500 := by
    unfold qth
    have := Nat.div_le_self (4 * qown r p Q + r.g 4 - 1) (r.g 4)
    omega
  have h54 : gi S 5 4 = nI (r.g 4) := hR.2.2 4 (by omega)
  refine ⟨?_, hq⟩
  unfold X5_bytesForThreshold
  simp (disch := omega) only [qlit, nI_add, pk_mul, qIX, qIN, qOB, qOL, qLE1, qLE0, qLT1, qLT0, qEQ1, qEQ0, qM0, qM1, qR, qN0, qMM, qNL1, qNL0, qNE1, qNE0, qB1, qB0, qOT, qOF, qGT, hin, h54, qSUB, c_quot]
  rfl
theorem c_early {r : Rd} {c cur k : Nat} {S : St} {Q : Qt} (hW : RW r) (hR : RC r S) (hk : 6 ≤ k) (hQ : QC r c cur k S Q) (hl : qld Q ≤ 4000) : ∃ S', X5_isDroppedEarly k S = some (if r.g 5 ≤ qld Q ∧ (Q.cn + 1) % r.g 6 = 0 then nI 1 else nI 0, S') ∧ QC r c cur k S' (if r.g 5 ≤ qld Q then qcn Q else Q) ∧ Fr (PC k) S S' := by
  obtain ⟨hK, hO, hL⟩ := hQ
  have hg6 := hW.2.2.2.2.2.2.2.2.2.1
  have hg5 := hW.2.2.2.2.2.2.2.2.1
  have h55 : gi S 5 5 = nI (r.g 5) := hR.2.2 5 (by omega)
  have h56 : gi S 5 6 = nI (r.g 6) := hR.2.2 6 (by omega)
  have hm := Nat.mod_lt Q.cn (show 0 < r.g 6 by omega)
  have hm2 : (Q.cn + 1) % r.g 6 = if Q.cn % r.g 6 + 1 = r.g 6 then 0 else Q.cn % r.g 6 + 1 := by
    rw [Nat.add_mod, Nat.mod_eq_of_lt (show 1 < r.g 6 by omega)]
    split
    · rename_i h; rw [h, Nat.mod_self]
    · exact Nat.mod_eq_of_lt (by omega)
  unfold X5_isDroppedEarly
  by_cases h1 : r.g 5 ≤ qld Q
  · rw [if_pos h1]
    obtain ⟨k1, k2, k3, k4, k5⟩ := hK
    by_cases h2 : Q.cn % r.g 6 + 1 = r.g 6
    · rw [if_pos h2] at hm2
      rw [if_pos ⟨h1, hm2⟩]
      simp (disch := omega) only [qlit, nI_add, pk_mul, qIX, qIN, qOB, qOL, qLE1, qLE0, qLT1, qLT0, qEQ1, qEQ0, qM0, qM1, qR, qN0, qMM, qNL1, qNL0, qNE1, qNE0, qB1, qB0, qOT, qOF, qGT, h55, hL.2.1, k4, qG0, qG1, h56]
      refine ⟨_, rfl, ⟨⟨?_, ?_, ?_, ?_, fun h => ?_⟩, ?_, ?_⟩, ?_⟩
      · simp (disch := omega) only [qlit, nI_add, pk_mul, qIX, qIN, qOB, qOL, qLE1, qLE0, qLT1, qLT0, qEQ1, qEQ0, qM0, qM1, qR, qN0, qMM, qNL1, qNL0, qNE1, qNE0, qB1, qB0, qOT, qOF, qGT, qG0]; exact k1
      · simp (disch := omega) only [qlit, nI_add, pk_mul, qIX, qIN, qOB, qOL, qLE1, qLE0, qLT1, qLT0, qEQ1, qEQ0, qM0, qM1, qR, qN0, qMM, qNL1, qNL0, qNE1, qNE0, qB1, qB0, qOT, qOF, qGT, qG0]; exact k2
      · simp (disch := omega) only [qlit, nI_add, pk_mul, qIX, qIN, qOB, qOL, qLE1, qLE0, qLT1, qLT0, qEQ1, qEQ0, qM0, qM1, qR, qN0, qMM, qNL1, qNL0, qNE1, qNE0, qB1, qB0, qOT, qOF, qGT, qG0]; exact k3
      · show _ = nI ((Q.cn + 1) % r.g 6)
        simp (disch := omega) only [qlit, nI_add, pk_mul, qIX, qIN, qOB, qOL, qLE1, qLE0, qLT1, qLT0, qEQ1, qEQ0, qM0, qM1, qR, qN0, qMM, qNL1, qNL0, qNE1, qNE0, qB1, qB0, qOT, qOF, qGT, qG1]; rw [hm2]
      · simp (disch := omega) only [qlit, nI_add, pk_mul, qIX, qIN, qOB, qOL, qLE1, qLE0, qLT1, qLT0, qEQ1, qEQ0, qM0, qM1, qR, qN0, qMM, qNL1, qNL0, qNE1, qNE0, qB1, qB0, qOT, qOF, qGT, qG0]; exact k5 h
      · exact hO.cg (fun a b h => by simp (disch := omega) only [qlit, nI_add, pk_mul, qIX, qIN, qOB, qOL, qLE1, qLE0, qLT1, qLT0, qEQ1, qEQ0, qM0, qM1, qR, qN0, qMM, qNL1, qNL0, qNE1, qNE0, qB1, qB0, qOT, qOF, qGT, qG0])
      · exact hL.cg (fun a b h => by simp (disch := omega) only [qlit, nI_add, pk_mul, qIX, qIN, qOB, qOL, qLE1, qLE0, qLT1, qLT0, qEQ1, qEQ0, qM0, qM1, qR, qN0, qMM, qNL1, qNL0, qNE1, qNE0, qB1, qB0, qOT, qOF, qGT, qG0])
      · exact (Fr.rf.si (by unfold PC; omega)).si (by unfold PC; omega)
    · rw [if_neg h2] at hm2
      rw [if_neg (fun h => by have := h.2; omega)]
      simp (disch := omega) only [qlit, nI_add, pk_mul, qIX, qIN, qOB, qOL, qLE1, qLE0, qLT1, qLT0, qEQ1, qEQ0, qM0, qM1, qR, qN0, qMM, qNL1, qNL0, qNE1, qNE0, qB1, qB0, qOT, qOF, qGT, h55, hL.2.1, k4, qG0, qG1, h56]
      refine ⟨_, rfl, ⟨⟨?_, ?_, ?_, ?_, fun h => ?_⟩, ?_, ?_⟩, ?_⟩
      · simp (disch := omega) only [qlit, nI_add, pk_mul, qIX, qIN, qOB, qOL, qLE1, qLE0, qLT1, qLT0, qEQ1, qEQ0, qM0, qM1, qR, qN0, qMM, qNL1, qNL0, qNE1, qNE0, qB1, qB0, qOT, qOF, qGT, qG0]; exact k1
      · simp (disch := omega) only [qlit, nI_add, pk_mul, qIX, qIN, qOB, qOL, qLE1, qLE0, qLT1, qLT0, qEQ1, qEQ0, qM0, qM1, qR, qN0, qMM, qNL1, qNL0, qNE1, qNE0, qB1, qB0, qOT, qOF, qGT, qG0]; exact k2
      · simp (disch := omega) only [qlit, nI_add, pk_mul, qIX, qIN, qOB, qOL, qLE1, qLE0, qLT1, qLT0, qEQ1, qEQ0, qM0, qM1, qR, qN0, qMM, qNL1, qNL0, qNE1, qNE0, qB1, qB0, qOT, qOF, qGT, qG0]; exact k3
      · show _ = nI ((Q.cn + 1) % r.g 6)
        simp (disch := omega) only [qlit, nI_add, pk_mul, qIX, qIN, qOB, qOL, qLE1, qLE0, qLT1, qLT0, qEQ1, qEQ0, qM0, qM1, qR, qN0, qMM, qNL1, qNL0, qNE1, qNE0, qB1, qB0, qOT, qOF, qGT, qG1]; rw [hm2]
      · simp (disch := omega) only [qlit, nI_add, pk_mul, qIX, qIN, qOB, qOL, qLE1, qLE0, qLT1, qLT0, qEQ1, qEQ0, qM0, qM1, qR, qN0, qMM, qNL1, qNL0, qNE1, qNE0, qB1, qB0, qOT, qOF, qGT, qG0]; exact k5 h
      · exact hO.cg (fun a b h => by simp (disch := omega) only [qlit, nI_add, pk_mul, qIX, qIN, qOB, qOL, qLE1, qLE0, qLT1, qLT0, qEQ1, qEQ0, qM0, qM1, qR, qN0, qMM, qNL1, qNL0, qNE1, qNE0, qB1, qB0, qOT, qOF, qGT, qG0])
      · exact hL.cg (fun a b h => by simp (disch := omega) only [qlit, nI_add, pk_mul, qIX, qIN, qOB, qOL, qLE1, qLE0, qLT1, qLT0, qEQ1, qEQ0, qM0, qM1, qR, qN0, qMM, qNL1, qNL0, qNE1, qNE0, qB1, qB0, qOT, qOF, qGT, qG0])
      · exact Fr.rf.si (by unfold PC; omega)
  · rw [if_neg h1, if_neg (fun h => h1 h.1)]
    simp (disch := omega) only [qlit, nI_add, pk_mul, qIX, qIN, qOB, qOL, qLE1, qLE0, qLT1, qLT0, qEQ1, qEQ0, qM0, qM1, qR, qN0, qMM, qNL1, qNL0, qNE1, qNE0, qB1, qB0, qOT, qOF, qGT, h55, hL.2.1]
    exact ⟨S, rfl, ⟨hK, hO, hL⟩, Fr.rf⟩
theorem qroom_0 {r : Rd} {c π p : Nat} {Q : Qt} (h1 : π ≠ 1) (h2 : π ≠ 2) : qroom r c π p 41 Q = if qld Q + r.z p ≤ c then (true, Q) else (false, qnc (qld Q + r.z p) Q) := by
  rw [qroom]
  split
  · rfl
  · rw [if_neg]
    unfold qvic
    rw [if_neg h1, if_neg h2]
    exact Nat.lt_irrefl _
theorem c_admits {r : Rd} {c π k p : Nat} {S : St} {Q : Qt} (hW : RW r) (hR : RC r S) (hk : 6 ≤ k) (hQ : QC r c p k S Q) (hI : QI r p Q) (hp : p < r.n) (hc2 : c ≤ 1000) (hpi : π ≤ 4) (hnc : Q.nc ≤ 1001) :
    ∃ S', X5_admits k (nI p) (nI π) S = some (if (qadm r c π p Q).1 = true then nI 1 else nI 0, S') ∧ QC r c p k S' (qadm r c π p Q).2 ∧ Fr (PC k) S S' := by
  obtain ⟨b1, b2, b3, b4⟩ := q_bd hW hI (by omega)
  have hn40 := hW.1
  have hz := hW.2.1 p hp
  have mr := hR.2.1 p hp
  have hh := c_holds (x := r.z p) hQ.1.1 hQ.1.2.1 hc2 hnc (by omega)
  have hh2 := c_holds (x := qld Q + r.z p) hQ.1.1 hQ.1.2.1 hc2 hnc (by omega)
  unfold X5_admits
  by_cases h1 : c < r.z p
  · rw [if_neg (by omega)] at hh
    rw [qadm_1 h1]
    obtain ⟨hK1, hO1, hL1, hF1⟩ := c_nc (x := r.z p) hQ.1 hQ.2.1 hQ.2.2
    simp (disch := omega) only [qlit, nI_add, pk_mul, qIX, qIN, qOB, qOL, qLE1, qLE0, qLT1, qLT0, qEQ1, qEQ0, qM0, qM1, qR, qN0, qMM, qNL1, qNL0, qNE1, qNE0, qB1, qB0, qOT, qOF, qGT, mr.2.1, mr.2.2, hh, qif_t, qif_f]
    exact ⟨_, rfl, ⟨hK1, hO1, hL1⟩, hF1⟩
  · have h1' : r.z p ≤ c := by omega
    rw [if_pos h1'] at hh
    by_cases hp1 : π = 1
    · subst hp1
      obtain ⟨S1, e1, e2, e3⟩ := c_head (k := k) hW (show p ≤ r.n by omega) hp hc2 h1' 41 Q S (by omega) (by omega) hnc hQ hI
      rcases hG : qroom r c 1 p 41 Q with ⟨g, Q1⟩
      rw [hG] at e1 e2
      simp only at e1 e2
      have e1' : X5_makesRoomAtHead_2L k (nI (r.z p)) (nI 0) S = some (if g = true then .inr () else .inl (), S1) := e1
      unfold X5_makesRoomAtHead
      simp (disch := omega) only [qlit, nI_add, pk_mul, qIX, qIN, qOB, qOL, qLE1, qLE0, qLT1, qLT0, qEQ1, qEQ0, qM0, qM1, qR, qN0, qMM, qNL1, qNL0, qNE1, qNE0, qB1, qB0, qOT, qOF, qGT, mr.2.1, mr.2.2, hh, e1']
      cases g with
      | false =>
        rw [qadm_2 h1' hG]
        simp (disch := omega) only [qlit, nI_add, pk_mul, qIX, qIN, qOB, qOL, qLE1, qLE0, qLT1, qLT0, qEQ1, qEQ0, qM0, qM1, qR, qN0, qMM, qNL1, qNL0, qNE1, qNE0, qB1, qB0, qOT, qOF, qGT, qif_t, qif_f]
        exact ⟨S1, rfl, e2, e3⟩
      | true =>
        rw [qadm_6 h1' hG (by omega) (by omega)]
        simp (disch := omega) only [qlit, nI_add, pk_mul, qIX, qIN, qOB, qOL, qLE1, qLE0, qLT1, qLT0, qEQ1, qEQ0, qM0, qM1, qR, qN0, qMM, qNL1, qNL0, qNE1, qNE0, qB1, qB0, qOT, qOF, qGT, qif_t, qif_f]
        exact ⟨S1, rfl, e2, e3⟩
    · by_cases hp2 : π = 2
      · subst hp2
        obtain ⟨S1, e1, e2, e3⟩ := c_longR (k := k) hW hk (show p ≤ r.n by omega) hp hc2 h1' 41 Q S (by omega) (by omega) hnc hR hQ hI
        rcases hG : qroom r c 2 p 41 Q with ⟨g, Q1⟩
        rw [hG] at e1 e2
        simp only at e1 e2
        have e1' : X5_makesRoomInLongestFlow_2L k (nI (r.f p)) (nI (r.z p)) (nI 0) S = some (if g = true then .inr () else .inl (), S1) := e1
        unfold X5_makesRoomInLongestFlow
        simp (disch := omega) only [qlit, nI_add, pk_mul, qIX, qIN, qOB, qOL, qLE1, qLE0, qLT1, qLT0, qEQ1, qEQ0, qM0, qM1, qR, qN0, qMM, qNL1, qNL0, qNE1, qNE0, qB1, qB0, qOT, qOF, qGT, mr.2.1, mr.2.2, hh, e1']
        cases g with
        | false =>
          rw [qadm_2 h1' hG]
          simp (disch := omega) only [qlit, nI_add, pk_mul, qIX, qIN, qOB, qOL, qLE1, qLE0, qLT1, qLT0, qEQ1, qEQ0, qM0, qM1, qR, qN0, qMM, qNL1, qNL0, qNE1, qNE0, qB1, qB0, qOT, qOF, qGT, qif_t, qif_f]
          exact ⟨S1, rfl, e2, e3⟩
        | true =>
          rw [qadm_6 h1' hG (by omega) (by omega)]
          simp (disch := omega) only [qlit, nI_add, pk_mul, qIX, qIN, qOB, qOL, qLE1, qLE0, qLT1, qLT0, qEQ1, qEQ0, qM0, qM1, qR, qN0, qMM, qNL1, qNL0, qNE1, qNE0, qB1, qB0, qOT, qOF, qGT, qif_t, qif_f]
          exact ⟨S1, rfl, e2, e3⟩
      · have hr0 := qroom_0 (r := r) (c := c) (p := p) (Q := Q) hp1 hp2
        by_cases h2 : qld Q + r.z p ≤ c
        · rw [if_pos h2] at hh2 hr0
          by_cases hp3 : π = 3
          · obtain ⟨ht, ht2⟩ := c_thr hW hR hQ.2.2 hI (by omega) hp
            have hh3 := c_holds (x := qld Q + qth r p Q) hQ.1.1 hQ.1.2.1 hc2 hnc (by omega)
            simp (disch := omega) only [qlit, nI_add, pk_mul, qIX, qIN, qOB, qOL, qLE1, qLE0, qLT1, qLT0, qEQ1, qEQ0, qM0, qM1, qR, qN0, qMM, qNL1, qNL0, qNE1, qNE0, qB1, qB0, qOT, qOF, qGT, mr.2.1, mr.2.2, hh, hQ.2.2.2.1, hh2, ht]
            by_cases h3 : qld Q + qth r p Q ≤ c
            · rw [if_pos h3] at hh3
              rw [qadm_3 h1' hr0 hp3 h3]
              simp (disch := omega) only [qlit, nI_add, pk_mul, qIX, qIN, qOB, qOL, qLE1, qLE0, qLT1, qLT0, qEQ1, qEQ0, qM0, qM1, qR, qN0, qMM, qNL1, qNL0, qNE1, qNE0, qB1, qB0, qOT, qOF, qGT, hh3, qif_t, qif_f]
              exact ⟨S, rfl, hQ, Fr.rf⟩
            · rw [if_neg h3] at hh3
              rw [qadm_4 h1' hr0 hp3 h3]
              obtain ⟨hK1, hO1, hL1, hF1⟩ := c_nc (x := qld Q + qth r p Q) hQ.1 hQ.2.1 hQ.2.2
              simp (disch := omega) only [qlit, nI_add, pk_mul, qIX, qIN, qOB, qOL, qLE1, qLE0, qLT1, qLT0, qEQ1, qEQ0, qM0, qM1, qR, qN0, qMM, qNL1, qNL0, qNE1, qNE0, qB1, qB0, qOT, qOF, qGT, hh3, qif_t, qif_f]
              exact ⟨_, rfl, ⟨hK1, hO1, hL1⟩, hF1⟩
          · by_cases hp4 : π = 4
            · obtain ⟨S1, e1, e2, e3⟩ := c_early hW hR hk hQ b3
              simp (disch := omega) only [qlit, nI_add, pk_mul, qIX, qIN, qOB, qOL, qLE1, qLE0, qLT1, qLT0, qEQ1, qEQ0, qM0, qM1, qR, qN0, qMM, qNL1, qNL0, qNE1, qNE0, qB1, qB0, qOT, qOF, qGT, mr.2.1, mr.2.2, hh, hQ.2.2.2.1, hh2, e1]
              by_cases h5 : r.g 5 ≤ qld Q
              · rw [if_pos h5] at e2
                rw [qadm_5 h1' hr0 hp4 h5]
                by_cases h6 : (Q.cn + 1) % r.g 6 = 0
                · rw [if_pos ⟨h5, h6⟩]
                  have q10 : ∀ (x y : Option (Int32 × St)), oi (nI 1 = nI 0) x y = y := fun x y => if_neg (by decide)
                  exact ⟨S1, (q10 _ _).trans (by simp [h6]), e2, e3⟩
                · rw [if_neg (fun h => h6 h.2)]
                  simp (disch := omega) only [qlit, nI_add, pk_mul, qIX, qIN, qOB, qOL, qLE1, qLE0, qLT1, qLT0, qEQ1, qEQ0, qM0, qM1, qR, qN0, qMM, qNL1, qNL0, qNE1, qNE0, qB1, qB0, qOT, qOF, qGT]
                  exact ⟨S1, by simp [h6], e2, e3⟩
              · rw [if_neg h5] at e2
                rw [if_neg (fun h => h5 h.1), qadm_6 h1' hr0 hp3 (fun h => h5 h.2)]
                simp (disch := omega) only [qlit, nI_add, pk_mul, qIX, qIN, qOB, qOL, qLE1, qLE0, qLT1, qLT0, qEQ1, qEQ0, qM0, qM1, qR, qN0, qMM, qNL1, qNL0, qNE1, qNE0, qB1, qB0, qOT, qOF, qGT, qif_t, qif_f]
                exact ⟨S1, rfl, e2, e3⟩
            · rw [qadm_6 h1' hr0 hp3 (fun h => hp4 h.1)]
              simp (disch := omega) only [qlit, nI_add, pk_mul, qIX, qIN, qOB, qOL, qLE1, qLE0, qLT1, qLT0, qEQ1, qEQ0, qM0, qM1, qR, qN0, qMM, qNL1, qNL0, qNE1, qNE0, qB1, qB0, qOT, qOF, qGT, mr.2.1, mr.2.2, hh, hQ.2.2.2.1, hh2, qif_t, qif_f]
              exact ⟨S, rfl, hQ, Fr.rf⟩
        · rw [if_neg h2] at hh2 hr0
          rw [qadm_2 h1' hr0]
          obtain ⟨hK1, hO1, hL1, hF1⟩ := c_nc (x := qld Q + r.z p) hQ.1 hQ.2.1 hQ.2.2
          by_cases hp3 : π = 3
          · simp (disch := omega) only [qlit, nI_add, pk_mul, qIX, qIN, qOB, qOL, qLE1, qLE0, qLT1, qLT0, qEQ1, qEQ0, qM0, qM1, qR, qN0, qMM, qNL1, qNL0, qNE1, qNE0, qB1, qB0, qOT, qOF, qGT, mr.2.1, mr.2.2, hh, hQ.2.2.2.1, hh2, qif_t, qif_f]
            exact ⟨_, rfl, ⟨hK1, hO1, hL1⟩, hF1⟩
          · by_cases hp4 : π = 4
            · simp (disch := omega) only [qlit, nI_add, pk_mul, qIX, qIN, qOB, qOL, qLE1, qLE0, qLT1, qLT0, qEQ1, qEQ0, qM0, qM1, qR, qN0, qMM, qNL1, qNL0, qNE1, qNE0, qB1, qB0, qOT, qOF, qGT, mr.2.1, mr.2.2, hh, hQ.2.2.2.1, hh2, qif_t, qif_f]
              exact ⟨_, rfl, ⟨hK1, hO1, hL1⟩, hF1⟩
            · simp (disch := omega) only [qlit, nI_add, pk_mul, qIX, qIN, qOB, qOL, qLE1, qLE0, qLT1, qLT0, qEQ1, qEQ0, qM0, qM1, qR, qN0, qMM, qNL1, qNL0, qNE1, qNE0, qB1, qB0, qOT, qOF, qGT, mr.2.1, mr.2.2, hh, hQ.2.2.2.1, hh2, qif_t, qif_f]
              exact ⟨_, rfl, ⟨hK1, hO1, hL1⟩, hF1⟩
theorem c_join {S : St} {k m l p z : Nat} (h1 : gi S k 0 = nI m) (h2 : gi S k 3 = nI l) (hm : m < 40) (hp : p < 40) : X2_join k (nI p) (nI z) S = some ((), si (si (si (si S (k + 1) m (nI p)) (k + 2) p (nI z)) k 0 (nI (m + 1))) k 3 (nI (l + z))) := by
  unfold X2_join
  simp (disch := omega) only [qlit, nI_add, pk_mul, qIX, qIN, qOB, qOL, qLE1, qLE0, qLT1, qLT0, qEQ1, qEQ0, qM0, qM1, qR, qN0, qMM, qNL1, qNL0, qNE1, qNE0, qB1, qB0, qOT, qOF, qGT, h1, h2, qG0]
theorem qbgn_acc {r : Rd} {Q : Qt} {p : Nat} (hI : QI r p Q) (hz : 1 ≤ r.z p) : qbgn r (qacc r p Q) = qbgn r Q := by
  have hI2 := qI_acc hI hz
  have hwi : ∀ i, i < Q.m → qup Q.w Q.m p i = Q.w i ∧ Q.w i ≠ p := fun i hi => ⟨qup_n (by omega), fun e => by have := (hI.2.1 i hi).1; omega⟩
  rcases qbgn_c (r := r) (Q := Q) with ⟨j, hj, hb⟩ | h0
  · rw [qbgn_1 hI hj hb, qbgn_1 (r := r) (Q := qacc r p Q) hI2 (i := j) (show j < Q.m + 1 by omega) (by
      show qup Q.R p (r.z p) (qup Q.w Q.m p j) ≠ r.z (qup Q.w Q.m p j)
      rw [(hwi j hj).1, qup_n (hwi j hj).2]; exact hb)]
    show nI (qup Q.w Q.m p j) = _
    rw [(hwi j hj).1]
  · rw [qbgn_0 h0]
    refine qbgn_0 (fun j hj => ?_)
    show qup Q.R p (r.z p) (qup Q.w Q.m p j) = r.z (qup Q.w Q.m p j)
    have hj' : j < Q.m + 1 := hj
    by_cases e : j = Q.m
    · subst e; rw [qup_s, qup_s]
    · rw [(hwi j (by omega)).1, qup_n (hwi j (by omega)).2]; exact h0 j (by omega)
/-- a packet comes: it joins, or is dropped -/
theorem c_acc {r : Rd} {c k p : Nat} {S : St} {Q : Qt} (hW : RW r) (hQ : QC r c p k S Q) (hI : QI r p Q) (hp : p < r.n) : ∃ S', X2_join (k + 6) (nI p) (nI (r.z p)) S = some ((), S') ∧ QC r c (p + 1) k S' (qacc r p Q) ∧ Fr (PC k) S S' := by
  obtain ⟨b1, b2, b3, b4⟩ := q_bd hW hI (by omega)
  obtain ⟨hK, hO, hL⟩ := hQ
  have hn40 := hW.1
  have hz := hW.2.1 p hp
  have hm := hI.2.2.2.1
  have hbg := qbgn_acc hI hz.2.2.1
  obtain ⟨o1, o2, o3, o4, o5, o6⟩ := hO
  obtain ⟨l1, l2, l3, l4, l5⟩ := hL
  have hj := c_join (z := r.z p) l1 l2 (show Q.m < 40 by omega) (show p < 40 by omega)
  refine ⟨_, hj, ⟨hK.cg (fun b => by simp (disch := omega) only [qlit, nI_add, pk_mul, qIX, qIN, qOB, qOL, qLE1, qLE0, qLT1, qLT0, qEQ1, qEQ0, qM0, qM1, qR, qN0, qMM, qNL1, qNL0, qNE1, qNE0, qB1, qB0, qOT, qOF, qGT, qG0]), ⟨?_, ?_, ?_, ?_, fun x hx hq => ?_, fun j hj => ?_⟩, ⟨?_, ?_, ?_, fun j hj => ?_, fun j hj => ?_⟩⟩, ?_⟩
  · simp (disch := omega) only [qlit, nI_add, pk_mul, qIX, qIN, qOB, qOL, qLE1, qLE0, qLT1, qLT0, qEQ1, qEQ0, qM0, qM1, qR, qN0, qMM, qNL1, qNL0, qNE1, qNE0, qB1, qB0, qOT, qOF, qGT, qG0]; exact o1
  · simp (disch := omega) only [qlit, nI_add, pk_mul, qIX, qIN, qOB, qOL, qLE1, qLE0, qLT1, qLT0, qEQ1, qEQ0, qM0, qM1, qR, qN0, qMM, qNL1, qNL0, qNE1, qNE0, qB1, qB0, qOT, qOF, qGT, qG0]; exact o2
  · simp (disch := omega) only [qlit, nI_add, pk_mul, qIX, qIN, qOB, qOL, qLE1, qLE0, qLT1, qLT0, qEQ1, qEQ0, qM0, qM1, qR, qN0, qMM, qNL1, qNL0, qNE1, qNE0, qB1, qB0, qOT, qOF, qGT, qG0]; exact o3
  · simp (disch := omega) only [qlit, nI_add, pk_mul, qIX, qIN, qOB, qOL, qLE1, qLE0, qLT1, qLT0, qEQ1, qEQ0, qM0, qM1, qR, qN0, qMM, qNL1, qNL0, qNE1, qNE0, qB1, qB0, qOT, qOF, qGT, qG0]; exact o4
  · simp (disch := omega) only [qlit, nI_add, pk_mul, qIX, qIN, qOB, qOL, qLE1, qLE0, qLT1, qLT0, qEQ1, qEQ0, qM0, qM1, qR, qN0, qMM, qNL1, qNL0, qNE1, qNE0, qB1, qB0, qOT, qOF, qGT, qG0]
    have hxp : x ≠ p := fun e => hq Q.m (show Q.m < Q.m + 1 by omega) (by show qup Q.w Q.m p Q.m = x; rw [qup_s, e])
    exact o5 x (by omega) (fun j hj e => hq j (show j < Q.m + 1 by omega) (by show qup Q.w Q.m p j = x; rw [qup_n (by omega)]; exact e))
  · simp (disch := omega) only [qlit, nI_add, pk_mul, qIX, qIN, qOB, qOL, qLE1, qLE0, qLT1, qLT0, qEQ1, qEQ0, qM0, qM1, qR, qN0, qMM, qNL1, qNL0, qNE1, qNE0, qB1, qB0, qOT, qOF, qGT, qG0]; exact o6 j hj
  · simp (disch := omega) only [qlit, nI_add, pk_mul, qIX, qIN, qOB, qOL, qLE1, qLE0, qLT1, qLT0, qEQ1, qEQ0, qM0, qM1, qR, qN0, qMM, qNL1, qNL0, qNE1, qNE0, qB1, qB0, qOT, qOF, qGT, qG0, qG1]; rfl
  · simp (disch := omega) only [qlit, nI_add, pk_mul, qIX, qIN, qOB, qOL, qLE1, qLE0, qLT1, qLT0, qEQ1, qEQ0, qM0, qM1, qR, qN0, qMM, qNL1, qNL0, qNE1, qNE0, qB1, qB0, qOT, qOF, qGT, qG1]; rw [qld_acc hI]
  · simp (disch := omega) only [qlit, nI_add, pk_mul, qIX, qIN, qOB, qOL, qLE1, qLE0, qLT1, qLT0, qEQ1, qEQ0, qM0, qM1, qR, qN0, qMM, qNL1, qNL0, qNE1, qNE0, qB1, qB0, qOT, qOF, qGT, qG0]; rw [hbg]; exact l3
  · show _ = nI (qup Q.w Q.m p j)
    have hj' : j < Q.m + 1 := hj
    by_cases e : j = Q.m
    · subst e; simp (disch := omega) only [qlit, nI_add, pk_mul, qIX, qIN, qOB, qOL, qLE1, qLE0, qLT1, qLT0, qEQ1, qEQ0, qM0, qM1, qR, qN0, qMM, qNL1, qNL0, qNE1, qNE0, qB1, qB0, qOT, qOF, qGT, qG0, qG1, qup_s]
    · simp (disch := omega) only [qlit, nI_add, pk_mul, qIX, qIN, qOB, qOL, qLE1, qLE0, qLT1, qLT0, qEQ1, qEQ0, qM0, qM1, qR, qN0, qMM, qNL1, qNL0, qNE1, qNE0, qB1, qB0, qOT, qOF, qGT, qG0, qup_n e]; exact l4 j (by omega)
  · show gi _ (k + 8) (qup Q.w Q.m p j) = nI (qup Q.R p (r.z p) (qup Q.w Q.m p j))
    have hj' : j < Q.m + 1 := hj
    by_cases e : j = Q.m
    · subst e; simp (disch := omega) only [qlit, nI_add, pk_mul, qIX, qIN, qOB, qOL, qLE1, qLE0, qLT1, qLT0, qEQ1, qEQ0, qM0, qM1, qR, qN0, qMM, qNL1, qNL0, qNE1, qNE0, qB1, qB0, qOT, qOF, qGT, qG0, qG1, qup_s]
    · have hw := (hI.2.1 j (by omega)).1
      rw [qup_n e, qup_n (show Q.w j ≠ p by omega)]
      simp (disch := omega) only [qlit, nI_add, pk_mul, qIX, qIN, qOB, qOL, qLE1, qLE0, qLT1, qLT0, qEQ1, qEQ0, qM0, qM1, qR, qN0, qMM, qNL1, qNL0, qNE1, qNE0, qB1, qB0, qOT, qOF, qGT, qG0]; exact l5 j (by omega)
  · refine (((Fr.rf.si ?_).si ?_).si ?_).si ?_
    all_goals (unfold PC; omega)
theorem c_drp {r : Rd} {c k p : Nat} {S : St} {Q : Qt} (hW : RW r) (hQ : QC r c p k S Q) (hI : QI r p Q) (hp : p < r.n) : ∃ S', X3_noteDrop (k + 1) (nI p) S = some ((), S') ∧ QC r c (p + 1) k S' (qdrp p Q) ∧ Fr (PC k) S S' := by
  obtain ⟨hK, hO, hL⟩ := hQ
  have hn40 := hW.1
  have hm := hI.2.2.2.1
  obtain ⟨o1, o2, o3, o4, o5, o6⟩ := hO
  have hd := c_noteDrop o2 o3 hp hn40 (by omega)
  refine ⟨_, hd, ⟨hK.cg (fun b => by simp (disch := omega) only [qlit, nI_add, pk_mul, qIX, qIN, qOB, qOL, qLE1, qLE0, qLT1, qLT0, qEQ1, qEQ0, qM0, qM1, qR, qN0, qMM, qNL1, qNL0, qNE1, qNE0, qB1, qB0, qOT, qOF, qGT, qG0]), ⟨?_, ?_, ?_, ?_, fun x hx hq => ?_, fun j hj => ?_⟩, ?_⟩, ?_⟩
  · simp (disch := omega) only [qlit, nI_add, pk_mul, qIX, qIN, qOB, qOL, qLE1, qLE0, qLT1, qLT0, qEQ1, qEQ0, qM0, qM1, qR, qN0, qMM, qNL1, qNL0, qNE1, qNE0, qB1, qB0, qOT, qOF, qGT, qG0]; exact o1
  · simp (disch := omega) only [qlit, nI_add, pk_mul, qIX, qIN, qOB, qOL, qLE1, qLE0, qLT1, qLT0, qEQ1, qEQ0, qM0, qM1, qR, qN0, qMM, qNL1, qNL0, qNE1, qNE0, qB1, qB0, qOT, qOF, qGT, qG0]; exact o2
  · simp (disch := omega) only [qlit, nI_add, pk_mul, qIX, qIN, qOB, qOL, qLE1, qLE0, qLT1, qLT0, qEQ1, qEQ0, qM0, qM1, qR, qN0, qMM, qNL1, qNL0, qNE1, qNE0, qB1, qB0, qOT, qOF, qGT, qG1]; rfl
  · simp (disch := omega) only [qlit, nI_add, pk_mul, qIX, qIN, qOB, qOL, qLE1, qLE0, qLT1, qLT0, qEQ1, qEQ0, qM0, qM1, qR, qN0, qMM, qNL1, qNL0, qNE1, qNE0, qB1, qB0, qOT, qOF, qGT, qG0]; exact o4
  · show _ = qup Q.F p (-nI 2) x
    by_cases e : x = p
    · subst e; simp (disch := omega) only [qlit, nI_add, pk_mul, qIX, qIN, qOB, qOL, qLE1, qLE0, qLT1, qLT0, qEQ1, qEQ0, qM0, qM1, qR, qN0, qMM, qNL1, qNL0, qNE1, qNE0, qB1, qB0, qOT, qOF, qGT, qG0, qG1, qup_s]
    · simp (disch := omega) only [qlit, nI_add, pk_mul, qIX, qIN, qOB, qOL, qLE1, qLE0, qLT1, qLT0, qEQ1, qEQ0, qM0, qM1, qR, qN0, qMM, qNL1, qNL0, qNE1, qNE0, qB1, qB0, qOT, qOF, qGT, qG0, qup_n e]; exact o5 x (by omega) hq
  · show _ = nI (qup Q.D Q.dm p j)
    have hj' : j < Q.dm + 1 := hj
    by_cases e : j = Q.dm
    · subst e; simp (disch := omega) only [qlit, nI_add, pk_mul, qIX, qIN, qOB, qOL, qLE1, qLE0, qLT1, qLT0, qEQ1, qEQ0, qM0, qM1, qR, qN0, qMM, qNL1, qNL0, qNE1, qNE0, qB1, qB0, qOT, qOF, qGT, qG0, qG1, qup_s]
    · simp (disch := omega) only [qlit, nI_add, pk_mul, qIX, qIN, qOB, qOL, qLE1, qLE0, qLT1, qLT0, qEQ1, qEQ0, qM0, qM1, qR, qN0, qMM, qNL1, qNL0, qNE1, qNE0, qB1, qB0, qOT, qOF, qGT, qG0, qup_n e]; exact o6 j (by omega)
  · have := hL.cg (T := si (si (si S (k + 1 + 1) p (-nI 2)) (k + 1 + 2) Q.dm (nI p)) (k + 1) 3 (nI (Q.dm + 1))) (fun a b h => by simp (disch := omega) only [qlit, nI_add, pk_mul, qIX, qIN, qOB, qOL, qLE1, qLE0, qLT1, qLT0, qEQ1, qEQ0, qM0, qM1, qR, qN0, qMM, qNL1, qNL0, qNE1, qNE0, qB1, qB0, qOT, qOF, qGT, qG0])
    exact this
  · refine ((Fr.rf.si ?_).si ?_).si ?_
    all_goals (unfold PC; omega)
theorem c_out {r : Rd} {c k p : Nat} {S : St} {Q : Qt} (hQ : QC r c p k S Q) (hF : QF r p Q) : QC r c (p + 1) k (si S (k + 2) p (-nI 3)) Q := by
  obtain ⟨hK, hO, hL⟩ := hQ
  obtain ⟨o1, o2, o3, o4, o5, o6⟩ := hO
  refine ⟨hK.cg (fun b => by simp (disch := omega) only [qlit, nI_add, pk_mul, qIX, qIN, qOB, qOL, qLE1, qLE0, qLT1, qLT0, qEQ1, qEQ0, qM0, qM1, qR, qN0, qMM, qNL1, qNL0, qNE1, qNE0, qB1, qB0, qOT, qOF, qGT, qG0]), ⟨?_, ?_, ?_, ?_, fun x hx hq => ?_, fun j hj => ?_⟩, hL.cg (fun a b h => by simp (disch := omega) only [qlit, nI_add, pk_mul, qIX, qIN, qOB, qOL, qLE1, qLE0, qLT1, qLT0, qEQ1, qEQ0, qM0, qM1, qR, qN0, qMM, qNL1, qNL0, qNE1, qNE0, qB1, qB0, qOT, qOF, qGT, qG0])⟩
  · simp (disch := omega) only [qlit, nI_add, pk_mul, qIX, qIN, qOB, qOL, qLE1, qLE0, qLT1, qLT0, qEQ1, qEQ0, qM0, qM1, qR, qN0, qMM, qNL1, qNL0, qNE1, qNE0, qB1, qB0, qOT, qOF, qGT, qG0]; exact o1
  · simp (disch := omega) only [qlit, nI_add, pk_mul, qIX, qIN, qOB, qOL, qLE1, qLE0, qLT1, qLT0, qEQ1, qEQ0, qM0, qM1, qR, qN0, qMM, qNL1, qNL0, qNE1, qNE0, qB1, qB0, qOT, qOF, qGT, qG0]; exact o2
  · simp (disch := omega) only [qlit, nI_add, pk_mul, qIX, qIN, qOB, qOL, qLE1, qLE0, qLT1, qLT0, qEQ1, qEQ0, qM0, qM1, qR, qN0, qMM, qNL1, qNL0, qNE1, qNE0, qB1, qB0, qOT, qOF, qGT, qG0]; exact o3
  · simp (disch := omega) only [qlit, nI_add, pk_mul, qIX, qIN, qOB, qOL, qLE1, qLE0, qLT1, qLT0, qEQ1, qEQ0, qM0, qM1, qR, qN0, qMM, qNL1, qNL0, qNE1, qNE0, qB1, qB0, qOT, qOF, qGT, qG0]; exact o4
  · by_cases e : x = p
    · subst e; simp (disch := omega) only [qlit, nI_add, pk_mul, qIX, qIN, qOB, qOL, qLE1, qLE0, qLT1, qLT0, qEQ1, qEQ0, qM0, qM1, qR, qN0, qMM, qNL1, qNL0, qNE1, qNE0, qB1, qB0, qOT, qOF, qGT, qG1]; exact (hF.1 x (Nat.le_refl _)).symm
    · simp (disch := omega) only [qlit, nI_add, pk_mul, qIX, qIN, qOB, qOL, qLE1, qLE0, qLT1, qLT0, qEQ1, qEQ0, qM0, qM1, qR, qN0, qMM, qNL1, qNL0, qNE1, qNE0, qB1, qB0, qOT, qOF, qGT, qG0]; exact o5 x (by omega) hq
  · simp (disch := omega) only [qlit, nI_add, pk_mul, qIX, qIN, qOB, qOL, qLE1, qLE0, qLT1, qLT0, qEQ1, qEQ0, qM0, qM1, qR, qN0, qMM, qNL1, qNL0, qNE1, qNE0, qB1, qB0, qOT, qOF, qGT, qG0]; exact o6 j hj
