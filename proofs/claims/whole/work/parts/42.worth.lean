theorem qlj (n : Nat) : (OfNat.ofNat n : Int32) = nI n := (rfl)
/-! ===== the worth of a set ===== -/
theorem qpl_m0 {r : Rd} {c π s : Nat} (hW : RW r) : (qpl r c π s r.n).m = 0 := by
  have hI := (qpl_I (c := c) (π := π) (s := s) hW r.n (Nat.le_refl _)).1
  rcases Nat.eq_zero_or_pos r.n with h | h
  · rw [h]; rfl
  · obtain ⟨p, hp⟩ : ∃ p, r.n = p + 1 := ⟨r.n - 1, by omega⟩
    refine (qld_0 hI).mp ?_
    have hA := (qAp_I (c := c) (π := π) (s := s) hW (show p < r.n by omega)).1
    rw [hp, qpl_s, if_neg (by omega), qrun_ld (fun q hq => (hW.2.1 q (by omega)).2.1) _ _ _ hA]
    omega
theorem qpl_F {r : Rd} {c π s k : Nat} {S : St} (hW : RW r) (hQ : QC r c r.n k S (qpl r c π s r.n)) : ∀ p, p < r.n → gi S (k + 2) p = (qpl r c π s r.n).F p := fun p hp => hQ.2.1.2.2.2.2.1 p hp (fun i hi => absurd hi (by rw [qpl_m0 hW]; exact Nat.not_lt_zero _))
def qvi (v : Nat) : Int32 := if v < 6 then nI v else -nI 1
def qms (r : Rd) (F : Nat → Int32) (p : Nat) : Nat := if r.g 7 = 0 then (if F p = -nI 2 then 1 else 0) else if r.g 7 = 1 then (if F p = -nI 2 then r.z p else 0) else (if F p = -nI 2 ∨ F p = -nI 3 then 0 else (F p).toNatClampNeg - r.t p)
def qw (r : Rd) (c π s v : Nat) : Nat := qsm (fun p => if v < 6 ∧ r.f p ≠ v then 0 else qms r (qpl r c π s r.n).F p) r.n
theorem qms_3 {r : Rd} {F : Nat → Int32} {p : Nat} (h : F p = -nI 3) : qms r F p = 0 := by
  have h1 : ¬ F p = -nI 2 := by rw [h]; decide
  unfold qms
  rw [if_neg h1, if_neg h1, if_pos (Or.inr h)]
  split
  · rfl
  · split <;> rfl
theorem qms_2 {r : Rd} {F : Nat → Int32} {p : Nat} (h : F p = -nI 2) : qms r F p = if r.g 7 = 0 then 1 else if r.g 7 = 1 then r.z p else 0 := by
  unfold qms
  rw [if_pos h, if_pos h, if_pos (Or.inl h)]
theorem qms_x {r : Rd} {F : Nat → Int32} {p x : Nat} (h : F p = nI x) (hx : x ≤ 4600) : qms r F p = if r.g 7 = 0 then 0 else if r.g 7 = 1 then 0 else x - r.t p := by
  have h1 : ¬ F p = -nI 2 := by rw [h]; exact qneg1 (by omega) (by omega) (by omega)
  have h2 : ¬ F p = -nI 3 := by rw [h]; exact qneg1 (by omega) (by omega) (by omega)
  unfold qms
  rw [if_neg h1, if_neg h1, if_neg (show ¬ (F p = -nI 2 ∨ F p = -nI 3) from fun hh => hh.elim h1 h2), h, qCL (by omega)]
theorem qms_le {r : Rd} {Q : Qt} {p : Nat} (hW : RW r) (hF : QF r r.n Q) (hp : p < r.n) : qms r Q.F p ≤ 4600 := by
  have hz := hW.2.1 p hp
  rcases hF.2 p hp with h | h | ⟨x, h, h1, h2⟩
  · rw [qms_3 h]; omega
  · rw [qms_2 h]
    split
    · omega
    · split <;> omega
  · rw [qms_x h h2]
    split
    · omega
    · split <;> omega
theorem qw_le {r : Rd} {c π s v : Nat} (hW : RW r) : qw r c π s v ≤ 184000 := by
  have hF := (qpl_I (c := c) (π := π) (s := s) hW r.n (Nat.le_refl _)).2
  have := qsm_le (v := fun p => if v < 6 ∧ r.f p ≠ v then 0 else qms r (qpl r c π s r.n).F p) (c := 4600) (m := r.n) (fun k hk => by
    show (if _ then _ else _) ≤ 4600
    split
    · omega
    · exact qms_le hW hF hk)
  have h2 := hW.1
  unfold qw
  omega
theorem r_worthOf {r : Rd} {c π s v : Nat} {S : St} (hW : RW r) (hM : RM r c π S) (hc2 : c ≤ 1000) (hpi : π ≤ 4) (hs : s < 64) : ∃ S', X8_worthOf (nI s) (qvi v) S = some (nI (qw r c π s v), S') ∧ Fr PRw S S' := by
  obtain ⟨S1, T, e1, e2, -, -, -, -, e3⟩ := r_replays hW hM hc2 hpi hs
  have hM1 := hM.fw e3
  have hn := hW.1
  have hg7 := hW.2.2.2.2.2.2.2.2.2.2.1
  have hF := (qpl_I (c := c) (π := π) (s := s) hW r.n (Nat.le_refl _)).2
  have m0 : gi S1 76 0 = nI r.n := hM1.1
  have m7 : gi S1 76 128 = nI (r.g 7) := hM1.2.2.2.2 7 (by omega) (by omega) (by omega)
  have hl : X8_worthOf_10L (qvi v) (nI 0, nI 0) S1 = some (nI (qw r c π s v), S1) := by
    unfold X8_worthOf_10L
    refine lp_same (body := fun (a : Int32 × Int32) (S : St) => X8_worthOf_10 (qvi v) a.1 a.2 S) r.n (fun i => (nI (qsm (fun p => if v < 6 ∧ r.f p ≠ v then 0 else qms r (qpl r c π s r.n).F p) i), nI i)) (fun i hi => ?_) ?_
    · have hz := hW.2.1 i hi
      have ho := r_of hW hM1 hi
      have hFi := e2.2.2.2.2.2.1 i hi
      rw [qsm]
      unfold X8_worthOf_10 X8_worthOf_53 X8_worthOf_49 X8_worthOf_54 X8_worthOf_73 X8_worthOf_129
      generalize qsm (fun p => if v < 6 ∧ r.f p ≠ v then 0 else qms r (qpl r c π s r.n).F p) i = X
      have q10 : ∀ (x y : Option (((Int32 × Int32) ⊕ Int32) × St)), oi (nI 1 = nI 0) x y = y := fun x y => if_neg (by decide)
      rcases hF.2 i hi with h | h | ⟨x, h, h1, h2⟩
      · have hq : (if v < 6 ∧ r.f i ≠ v then 0 else qms r (qpl r c π s r.n).F i) = 0 := by rw [qms_3 h]; split <;> rfl
        rw [hq]
        rw [h] at hFi
        simp (disch := omega) only [qlj, nI_add, pk_mul, qIX, qIN, qOB, qOL, qLE1, qLE0, qLT1, qLT0, qEQ1, qEQ0, qM0, qM1, qR, qN0, qMM, qNL1, qNL0, qNE1, qNE0, qB1, qB0, qOT, qOF, qGT, m0, hFi]
        rfl
      · rw [h] at hFi
        by_cases hv : v < 6
        · have e0 : qvi v = nI v := if_pos hv
          rw [e0]
          by_cases hfv : r.f i = v
          · rw [if_neg (fun hh => hh.2 hfv), qms_2 h]
            by_cases h70 : r.g 7 = 0
            · rw [if_pos h70]; simp (disch := omega) only [qlj, nI_add, pk_mul, qIX, qIN, qOB, qOL, qLE1, qLE0, qLT1, qLT0, qEQ1, qEQ0, qM0, qM1, qR, qN0, qMM, qNL1, qNL0, qNE1, qNE0, qB1, qB0, qOT, qOF, qGT, m0, hFi, m7, ho.2.1, ho.2.2]
            · rw [if_neg h70]
              by_cases h71 : r.g 7 = 1
              · rw [if_pos h71]; simp (disch := omega) only [qlj, nI_add, pk_mul, qIX, qIN, qOB, qOL, qLE1, qLE0, qLT1, qLT0, qEQ1, qEQ0, qM0, qM1, qR, qN0, qMM, qNL1, qNL0, qNE1, qNE0, qB1, qB0, qOT, qOF, qGT, m0, hFi, m7, ho.2.1, ho.2.2]
              · rw [if_neg h71]; simp (disch := omega) only [qlj, nI_add, pk_mul, qIX, qIN, qOB, qOL, qLE1, qLE0, qLT1, qLT0, qEQ1, qEQ0, qM0, qM1, qR, qN0, qMM, qNL1, qNL0, qNE1, qNE0, qB1, qB0, qOT, qOF, qGT, m0, hFi, m7, ho.2.1, ho.2.2]
                rfl
          · rw [if_pos ⟨hv, hfv⟩]
            simp (disch := omega) only [qlj, nI_add, pk_mul, qIX, qIN, qOB, qOL, qLE1, qLE0, qLT1, qLT0, qEQ1, qEQ0, qM0, qM1, qR, qN0, qMM, qNL1, qNL0, qNE1, qNE0, qB1, qB0, qOT, qOF, qGT, m0, hFi, m7, ho.2.1, ho.2.2]
            rfl
        · have e0 : qvi v = -nI 1 := if_neg hv
          rw [e0, if_neg (fun hh => hv hh.1), qms_2 h]
          by_cases h70 : r.g 7 = 0
          · rw [if_pos h70]; simp (disch := omega) only [qlj, nI_add, pk_mul, qIX, qIN, qOB, qOL, qLE1, qLE0, qLT1, qLT0, qEQ1, qEQ0, qM0, qM1, qR, qN0, qMM, qNL1, qNL0, qNE1, qNE0, qB1, qB0, qOT, qOF, qGT, m0, hFi, m7, ho.2.1, ho.2.2]
          · rw [if_neg h70]
            by_cases h71 : r.g 7 = 1
            · rw [if_pos h71]; simp (disch := omega) only [qlj, nI_add, pk_mul, qIX, qIN, qOB, qOL, qLE1, qLE0, qLT1, qLT0, qEQ1, qEQ0, qM0, qM1, qR, qN0, qMM, qNL1, qNL0, qNE1, qNE0, qB1, qB0, qOT, qOF, qGT, m0, hFi, m7, ho.2.1, ho.2.2]
            · rw [if_neg h71]; simp (disch := omega) only [qlj, nI_add, pk_mul, qIX, qIN, qOB, qOL, qLE1, qLE0, qLT1, qLT0, qEQ1, qEQ0, qM0, qM1, qR, qN0, qMM, qNL1, qNL0, qNE1, qNE0, qB1, qB0, qOT, qOF, qGT, m0, hFi, m7, ho.2.1, ho.2.2]
              rfl
      · rw [h] at hFi
        by_cases hv : v < 6
        · have e0 : qvi v = nI v := if_pos hv
          rw [e0]
          by_cases hfv : r.f i = v
          · rw [if_neg (fun hh => hh.2 hfv), qms_x h h2]
            by_cases h70 : r.g 7 = 0
            · rw [if_pos h70]; simp (disch := omega) only [qlj, nI_add, pk_mul, qIX, qIN, qOB, qOL, qLE1, qLE0, qLT1, qLT0, qEQ1, qEQ0, qM0, qM1, qR, qN0, qMM, qNL1, qNL0, qNE1, qNE0, qB1, qB0, qOT, qOF, qGT, m0, hFi, m7, ho.1, ho.2.1, ho.2.2]
            · rw [if_neg h70]
              by_cases h71 : r.g 7 = 1
              · rw [if_pos h71]; simp (disch := omega) only [qlj, nI_add, pk_mul, qIX, qIN, qOB, qOL, qLE1, qLE0, qLT1, qLT0, qEQ1, qEQ0, qM0, qM1, qR, qN0, qMM, qNL1, qNL0, qNE1, qNE0, qB1, qB0, qOT, qOF, qGT, m0, hFi, m7, ho.1, ho.2.1, ho.2.2]
              · rw [if_neg h71]; simp (disch := omega) only [qlj, nI_add, pk_mul, qIX, qIN, qOB, qOL, qLE1, qLE0, qLT1, qLT0, qEQ1, qEQ0, qM0, qM1, qR, qN0, qMM, qNL1, qNL0, qNE1, qNE0, qB1, qB0, qOT, qOF, qGT, m0, hFi, m7, ho.1, ho.2.1, ho.2.2, qSUB]
          · rw [if_pos ⟨hv, hfv⟩]
            simp (disch := omega) only [qlj, nI_add, pk_mul, qIX, qIN, qOB, qOL, qLE1, qLE0, qLT1, qLT0, qEQ1, qEQ0, qM0, qM1, qR, qN0, qMM, qNL1, qNL0, qNE1, qNE0, qB1, qB0, qOT, qOF, qGT, m0, hFi, m7, ho.2.1, ho.2.2]
            rfl
        · have e0 : qvi v = -nI 1 := if_neg hv
          rw [e0, if_neg (fun hh => hv hh.1), qms_x h h2]
          by_cases h70 : r.g 7 = 0
          · rw [if_pos h70]; simp (disch := omega) only [qlj, nI_add, pk_mul, qIX, qIN, qOB, qOL, qLE1, qLE0, qLT1, qLT0, qEQ1, qEQ0, qM0, qM1, qR, qN0, qMM, qNL1, qNL0, qNE1, qNE0, qB1, qB0, qOT, qOF, qGT, m0, hFi, m7, ho.1, ho.2.1, ho.2.2]
          · rw [if_neg h70]
            by_cases h71 : r.g 7 = 1
            · rw [if_pos h71]; simp (disch := omega) only [qlj, nI_add, pk_mul, qIX, qIN, qOB, qOL, qLE1, qLE0, qLT1, qLT0, qEQ1, qEQ0, qM0, qM1, qR, qN0, qMM, qNL1, qNL0, qNE1, qNE0, qB1, qB0, qOT, qOF, qGT, m0, hFi, m7, ho.1, ho.2.1, ho.2.2]
            · rw [if_neg h71]; simp (disch := omega) only [qlj, nI_add, pk_mul, qIX, qIN, qOB, qOL, qLE1, qLE0, qLT1, qLT0, qEQ1, qEQ0, qM0, qM1, qR, qN0, qMM, qNL1, qNL0, qNE1, qNE0, qB1, qB0, qOT, qOF, qGT, m0, hFi, m7, ho.1, ho.2.1, ho.2.2, qSUB]
    · show X8_worthOf_10 (qvi v) _ (nI r.n) S1 = _
      unfold X8_worthOf_10
      simp (disch := omega) only [qlj, nI_add, pk_mul, qIX, qIN, qOB, qOL, qLE1, qLE0, qLT1, qLT0, qEQ1, qEQ0, qM0, qM1, qR, qN0, qMM, qNL1, qNL0, qNE1, qNE0, qB1, qB0, qOT, qOF, qGT, m0]
      rfl
  unfold X8_worthOf
  simp (disch := omega) only [qlj, nI_add, pk_mul, qIX, qIN, qOB, qOL, qLE1, qLE0, qLT1, qLT0, qEQ1, qEQ0, qM0, qM1, qR, qN0, qMM, qNL1, qNL0, qNE1, qNE0, qB1, qB0, qOT, qOF, qGT, e1, hl]
  exact ⟨S1, rfl, e3⟩
theorem c_fateOf {S : St} {k n p : Nat} (h0 : gi S k 0 = nI 1) (h1 : gi S k 1 = nI n) (hp : p < n) (hn : n ≤ 40) : X3_fateOf k (nI p) S = some (gi S (k + 1) p, S) := by
  have q10 : ∀ (x y : Option (Int32 × St)), oi (nI 1 = nI 0) x y = y := fun x y => if_neg (by decide)
  unfold X3_fateOf
  simp (disch := omega) only [qlj, nI_add, pk_mul, qIX, qIN, qOB, qOL, qLE1, qLE0, qLT1, qLT0, qEQ1, qEQ0, qM0, qM1, qR, qN0, qMM, qNL1, qNL0, qNE1, qNE0, qB1, qB0, qOT, qOF, qGT, h0, h1, q10]
theorem c_measure {r : Rd} {c π s v k : Nat} {S : St} (hW : RW r) (hR : RC r S) (hQ : QC r c r.n k S (qpl r c π s r.n)) : X5_measureFor k (qvi v) S = some (nI (qw r c π s v), S) := by
  have hn := hW.1
  have hg7 := hW.2.2.2.2.2.2.2.2.2.2.1
  have hF := (qpl_I (c := c) (π := π) (s := s) hW r.n (Nat.le_refl _)).2
  have hq := qpl_F hW hQ
  have m7 : gi S 5 7 = nI (r.g 7) := hR.2.2 7 (by omega)
  have hm : ∀ p, p < r.n → X5_measureOf k (nI p) S = some (nI (qms r (qpl r c π s r.n).F p), S) := by
    intro p hp
    have hz := hW.2.1 p hp
    have mr := hR.2.1 p hp
    have hf := c_fateOf hQ.2.1.1 hQ.2.1.2.1 hp hn
    have hqp : gi S (k + 1 + 1) p = (qpl r c π s r.n).F p := hq p hp
    rw [hqp] at hf
    unfold X5_measureOf
    rcases hF.2 p hp with h | h | ⟨x, h, h1, h2⟩
    · rw [qms_3 h]
      rw [h] at hf
      by_cases h70 : r.g 7 = 0
      · simp (disch := omega) only [qlj, nI_add, pk_mul, qIX, qIN, qOB, qOL, qLE1, qLE0, qLT1, qLT0, qEQ1, qEQ0, qM0, qM1, qR, qN0, qMM, qNL1, qNL0, qNE1, qNE0, qB1, qB0, qOT, qOF, qGT, hf, m7]
      · by_cases h71 : r.g 7 = 1
        · simp (disch := omega) only [qlj, nI_add, pk_mul, qIX, qIN, qOB, qOL, qLE1, qLE0, qLT1, qLT0, qEQ1, qEQ0, qM0, qM1, qR, qN0, qMM, qNL1, qNL0, qNE1, qNE0, qB1, qB0, qOT, qOF, qGT, hf, m7]
        · have hl : ∀ (x y : Option (Int32 × St)), oi (-nI 3 < nI 0) x y = x := fun x y => if_pos (by decide)
          simp (disch := omega) only [qlj, nI_add, pk_mul, qIX, qIN, qOB, qOL, qLE1, qLE0, qLT1, qLT0, qEQ1, qEQ0, qM0, qM1, qR, qN0, qMM, qNL1, qNL0, qNE1, qNE0, qB1, qB0, qOT, qOF, qGT, hf, m7, hl]
    · rw [qms_2 h]
      rw [h] at hf
      by_cases h70 : r.g 7 = 0
      · rw [if_pos h70]; simp (disch := omega) only [qlj, nI_add, pk_mul, qIX, qIN, qOB, qOL, qLE1, qLE0, qLT1, qLT0, qEQ1, qEQ0, qM0, qM1, qR, qN0, qMM, qNL1, qNL0, qNE1, qNE0, qB1, qB0, qOT, qOF, qGT, hf, m7]
      · rw [if_neg h70]
        by_cases h71 : r.g 7 = 1
        · rw [if_pos h71]; simp (disch := omega) only [qlj, nI_add, pk_mul, qIX, qIN, qOB, qOL, qLE1, qLE0, qLT1, qLT0, qEQ1, qEQ0, qM0, qM1, qR, qN0, qMM, qNL1, qNL0, qNE1, qNE0, qB1, qB0, qOT, qOF, qGT, hf, m7, mr.2.2]
        · rw [if_neg h71]
          have hl : ∀ (x y : Option (Int32 × St)), oi (-nI 2 < nI 0) x y = x := fun x y => if_pos (by decide)
          simp (disch := omega) only [qlj, nI_add, pk_mul, qIX, qIN, qOB, qOL, qLE1, qLE0, qLT1, qLT0, qEQ1, qEQ0, qM0, qM1, qR, qN0, qMM, qNL1, qNL0, qNE1, qNE0, qB1, qB0, qOT, qOF, qGT, hf, m7, hl]
    · rw [qms_x h h2]
      rw [h] at hf
      by_cases h70 : r.g 7 = 0
      · rw [if_pos h70]; simp (disch := omega) only [qlj, nI_add, pk_mul, qIX, qIN, qOB, qOL, qLE1, qLE0, qLT1, qLT0, qEQ1, qEQ0, qM0, qM1, qR, qN0, qMM, qNL1, qNL0, qNE1, qNE0, qB1, qB0, qOT, qOF, qGT, hf, m7]
      · rw [if_neg h70]
        by_cases h71 : r.g 7 = 1
        · rw [if_pos h71]; simp (disch := omega) only [qlj, nI_add, pk_mul, qIX, qIN, qOB, qOL, qLE1, qLE0, qLT1, qLT0, qEQ1, qEQ0, qM0, qM1, qR, qN0, qMM, qNL1, qNL0, qNE1, qNE0, qB1, qB0, qOT, qOF, qGT, hf, m7]
        · rw [if_neg h71]
          simp (disch := omega) only [qlj, nI_add, pk_mul, qIX, qIN, qOB, qOL, qLE1, qLE0, qLT1, qLT0, qEQ1, qEQ0, qM0, qM1, qR, qN0, qMM, qNL1, qNL0, qNE1, qNE0, qB1, qB0, qOT, qOF, qGT, hf, m7, mr.1, qSUB]
  have hl : X5_measureFor_4L k (qvi v) (nI 0, nI 0) S = some (nI (qw r c π s v), S) := by
    unfold X5_measureFor_4L
    refine lp_same (body := fun (a : Int32 × Int32) (S : St) => X5_measureFor_4 k (qvi v) a.1 a.2 S) r.n (fun i => (nI (qsm (fun p => if v < 6 ∧ r.f p ≠ v then 0 else qms r (qpl r c π s r.n).F p) i), nI i)) (fun i hi => ?_) ?_
    · have hz := hW.2.1 i hi
      have mr := hR.2.1 i hi
      have hmi := hm i hi
      rw [qsm]
      unfold X5_measureFor_4 X5_measureFor_33
      generalize qsm (fun p => if v < 6 ∧ r.f p ≠ v then 0 else qms r (qpl r c π s r.n).F p) i = X
      by_cases hv : v < 6
      · have e0 : qvi v = nI v := if_pos hv
        rw [e0]
        by_cases hfv : r.f i = v
        · rw [if_neg (fun hh => hh.2 hfv)]
          simp (disch := omega) only [qlj, nI_add, pk_mul, qIX, qIN, qOB, qOL, qLE1, qLE0, qLT1, qLT0, qEQ1, qEQ0, qM0, qM1, qR, qN0, qMM, qNL1, qNL0, qNE1, qNE0, qB1, qB0, qOT, qOF, qGT, hR.1, mr.2.1, hmi]
        · rw [if_pos ⟨hv, hfv⟩]
          simp (disch := omega) only [qlj, nI_add, pk_mul, qIX, qIN, qOB, qOL, qLE1, qLE0, qLT1, qLT0, qEQ1, qEQ0, qM0, qM1, qR, qN0, qMM, qNL1, qNL0, qNE1, qNE0, qB1, qB0, qOT, qOF, qGT, hR.1, mr.2.1, hmi]
          rfl
      · have e0 : qvi v = -nI 1 := if_neg hv
        rw [e0, if_neg (fun hh => hv hh.1)]
        simp (disch := omega) only [qlj, nI_add, pk_mul, qIX, qIN, qOB, qOL, qLE1, qLE0, qLT1, qLT0, qEQ1, qEQ0, qM0, qM1, qR, qN0, qMM, qNL1, qNL0, qNE1, qNE0, qB1, qB0, qOT, qOF, qGT, hR.1, mr.2.1, hmi]
    · show X5_measureFor_4 k (qvi v) _ (nI r.n) S = _
      unfold X5_measureFor_4
      simp (disch := omega) only [qlj, nI_add, pk_mul, qIX, qIN, qOB, qOL, qLE1, qLE0, qLT1, qLT0, qEQ1, qEQ0, qM0, qM1, qR, qN0, qMM, qNL1, qNL0, qNE1, qNE0, qB1, qB0, qOT, qOF, qGT, hR.1]
      rfl
  unfold X5_measureFor
  simp (disch := omega) only [qlj, nI_add, pk_mul, qIX, qIN, qOB, qOL, qLE1, qLE0, qLT1, qLT0, qEQ1, qEQ0, qM0, qM1, qR, qN0, qMM, qNL1, qNL0, qNE1, qNE0, qB1, qB0, qOT, qOF, qGT, hl]
theorem c_worthOf {r : Rd} {s v : Nat} {S : St} (hW : RW r) (hR : RC r S) (hs : s < 64) : ∃ S', X7_worthOf (nI s) (qvi v) S = some (nI (qw r (r.g 0) (r.g 2) s v), S') ∧ Fr (PCw 58) S S' := by
  have hg0 := hW.2.2.2.1
  have hg2 := hW.2.2.2.2.2.1
  obtain ⟨S1, mc, mt, ml, e1, e2, -, -, e3⟩ := c_play (k := 58) hW hR (by omega) hg0.2 hg2 hs
  have hm := c_measure (v := v) hW (hR.fw (by omega) e3) e2
  unfold X7_worthOf
  rw [hR.2.2 0 (by omega), hR.2.2 2 (by omega), e1, qOB, hm, qOB]
  exact ⟨S1, rfl, e3⟩
