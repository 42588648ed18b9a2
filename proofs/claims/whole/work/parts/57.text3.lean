/-! ===== texts: the commands, and what they do ===== -/
abbrev Cm : Type := Nat → Nat × Nat × Nat × Nat
def CMc (k : Nat) (F : Cm) (S : St) : Prop := ∀ i, i < k → (F i).1 < 7 ∧ (F i).2.1 ≤ 9999 ∧ (F i).2.2.1 ≤ 9999 ∧ (F i).2.2.2 ≤ 9999 ∧ gr S 70 i = some (F i).1 ∧ gi S 71 (3 * i) = nI (F i).2.1 ∧ (2 ≤ qnm (F i).1 → gi S 71 (3 * i + 1) = nI (F i).2.2.1) ∧ (qnm (F i).1 = 3 → gi S 71 (3 * i + 2) = nI (F i).2.2.2)
def CMr (k : Nat) (F : Cm) (T : St) : Prop := ∀ i, i < k → gi T 89 (4 * i) = nI (qcd7 (F i).1) ∧ gi T 89 (4 * i + 1) = nI (F i).2.1 ∧ (2 ≤ qnm (F i).1 → gi T 89 (4 * i + 2) = nI (F i).2.2.1) ∧ (qnm (F i).1 = 3 → gi T 89 (4 * i + 3) = nI (F i).2.2.2)
theorem q_c7 : ∀ c, c < 7 → (qcd7 c = 1 ↔ qnm c = 3) ∧ (qcd7 c = 129 ↔ qnm c = 2) ∧ 1 ≤ qcd7 c ∧ qcd7 c ≤ 129 ∧ 1 ≤ qnm c ∧ qnm c ≤ 3 := by decide +kernel
theorem r_reads78 {c : Nat} {T : St} (hc : c < 7) : oi (nI (qcd7 c) = nI 1) (X8_reads_78 (nI 3) T) (oi (nI (qcd7 c) = nI 129) (X8_reads_78 (nI 2) T) (X8_reads_78 (nI 1) T)) = X8_reads_78 (nI (qnm c)) T := by
  obtain ⟨a1, a2, a3, a4, a5, a6⟩ := q_c7 c hc
  by_cases h1 : qcd7 c = 1
  · have := a1.mp h1
    simp (disch := omega) only [qlj, nI_add, pk_mul, qIX, qIN, qOB, qOL, qLE1, qLE0, qLT1, qLT0, qEQ1, qEQ0, qM0, qM1, qR, qN0, qMM, qNL1, qNL0, qNE1, qNE0, qB1, qB0, qOT, qOF, qGT, this]
  · by_cases h2 : qcd7 c = 129
    · have := a2.mp h2
      simp (disch := omega) only [qlj, nI_add, pk_mul, qIX, qIN, qOB, qOL, qLE1, qLE0, qLT1, qLT0, qEQ1, qEQ0, qM0, qM1, qR, qN0, qMM, qNL1, qNL0, qNE1, qNE0, qB1, qB0, qOT, qOF, qGT, this]
    · have h3 : qnm c = 1 := by
        have x1 : ¬ qnm c = 3 := fun h => h1 (a1.mpr h)
        have x2 : ¬ qnm c = 2 := fun h => h2 (a2.mpr h)
        omega
      simp (disch := omega) only [qlj, nI_add, pk_mul, qIX, qIN, qOB, qOL, qLE1, qLE0, qLT1, qLT0, qEQ1, qEQ0, qM0, qM1, qR, qN0, qMM, qNL1, qNL0, qNE1, qNE0, qB1, qB0, qOT, qOF, qGT, h3]
theorem parse_main {L : Nat} {ch : Nat → Nat} (hB : TB L ch) : ∀ (d pos k : Nat) (g : Int32) (S : St) (F0 : Cm), d = L - pos → pos ≤ L → TC L ch S → gi S 68 4 = nI k → 3 * k ≤ pos → CMc k F0 S →
    ∃ rc S' k' v F, X6_parse_14L (none, g, nI pos) S = some (rc, S') ∧ cvl L rc = v ∧ k' ≤ 40 ∧ FC S S' ∧ (v = -nI 1 → gi S' 68 4 = nI k' ∧ CMc k' F S') ∧ ∀ T, TR L ch T → gi T 75 29 = nI k → CMr k F0 T → ∃ rr T', X8_reads_14L () (si T 75 28 (nI (qsk L ch pos))) = some (rr, T') ∧ rvl rr T' = v ∧ Fr PFr T T' ∧ (v = -nI 1 → gi T' 75 29 = nI k' ∧ CMr k' F T') := by
  have hL := hB.1
  intro d
  induction d using Nat.strongRecOn with
  | ind d ih =>
    intro pos k g S F0 hd hp hT h4 h3 hC
    obtain ⟨s1, s2, s3, s4⟩ := qsk_sp (L := L) (ch := ch) hp
    have hsp := fun R => c_sp (o := none) (g := g) (R := R) hB hT _ pos rfl hp
    generalize hP : qsk L ch pos = p at *
    have hbad : ∀ q : Nat, q ≤ 200 → nI q = -nI 1 → False := fun q hq h => qneg1 (by omega) (by omega) (by omega) h
    by_cases hpL : p < L
    · have hcp := hB.2 p hpL
      have hne := s3 hpL
      have hkk := c_kind (S := S) hcp.2
      have hen := c_endOf hB hT hpL
      have hkd := qkd_le (c := ch p)
      have hk0 : qkd (ch p) ≠ 0 := fun h => hne (qkd_z h)
      have hyes : ∀ (x y : Option (((Option Nat × Int32 × Int32) ⊕ (Int32 ⊕ Int32 ⊕ Int32 ⊕ (Option Nat))) × St)), oi ((none : Option Nat) = none) x y = x := fun x y => if_pos rfl
      have htop : ∀ T, TR L ch T → gi T 75 29 = nI k → gi (si T 75 28 (nI p)) 75 27 = nI L ∧ gi (si T 75 28 (nI p)) 75 28 = nI p := fun T hR _ => ⟨hR.1, qG1 rfl rfl⟩
      have hword := fun (T : St) (hR : TR L ch T) => r_word hB hR (show p ≤ L by omega)
      obtain ⟨a, b, c', d'⟩ := qrn_sp (L := L) (ch := ch) (kd := 1) (pos := p) (by omega)
      have hlet : ∀ i, i < qrn L ch 1 p - p → 97 ≤ ch (p + i) ∧ ch (p + i) ≤ 122 := fun i hi => qkd_1.mp (d' (p + i) (by omega) (by omega))
      have hwlt : qwd ch p (qrn L ch 1 p - p) < 7625597484988 := by
        unfold qwd
        split
        · rename_i h9
          have h1 := qwv_lt (c := fun i => ch (p + i)) (qrn L ch 1 p - p) (fun i hi => (hlet i hi).2)
          have h2 : 27 ^ (qrn L ch 1 p - p) ≤ 27 ^ 9 := Nat.pow_le_pow_right (by omega) h9
          omega
        · omega
      have hfaultR : qfnd (fun w => decide (qwd ch p (qrn L ch 1 p - p) = qwc w)) 7 = 7 → ∀ T, TR L ch T → gi T 75 29 = nI k → CMr k F0 T → ∃ rr T', X8_reads_14L () (si T 75 28 (nI p)) = some (rr, T') ∧ rvl rr T' = nI p ∧ Fr PFr T T' ∧ (nI p = -nI 1 → gi T' 75 29 = nI k ∧ CMr k F0 T') := by
        intro hno T hR h29 _
        have hm := r_meant (T := si T 75 28 (nI (qrn L ch 1 p))) hwlt
        rw [if_neg (by omega)] at hm
        refine ⟨.inl (nI p), si T 75 28 (nI (qrn L ch 1 p)), ?_, rfl, Fr.rf.si (by unfold PFr; omega), fun h => (hbad p (by omega) h).elim⟩
        unfold X8_reads_14L
        refine lp_end ?_
        show X8_reads_14 (si T 75 28 (nI p)) = _
        unfold X8_reads_14
        simp (disch := omega) only [qlj, nI_add, pk_mul, qIX, qIN, qOB, qOL, qLE1, qLE0, qLT1, qLT0, qEQ1, qEQ0, qM0, qM1, qR, qN0, qMM, qNL1, qNL0, qNE1, qNE0, qB1, qB0, qOT, qOF, qGT, (htop T hR h29).1, (htop T hR h29).2, hword T hR, hm]
      by_cases h1 : qkd (ch p) = 1
      · have hrs := qrn_s (kd := 1) hpL h1
        rw [h1] at hen hkk
        rw [if_pos (Or.inl rfl), ← hrs] at hen
        have hE1 : p < qrn L ch 1 p := by
          obtain ⟨x, -⟩ := qrn_sp (L := L) (ch := ch) (kd := 1) (pos := p + 1) (by omega)
          omega
        generalize hE : qrn L ch 1 p = E at *
        have hcmd := c_cmdAt hB hT (show p ≤ E by omega) b
        have hfn : qfnd (fun w => qwm ch w p E) 7 = qfnd (fun w => decide (qwd ch p (E - p) = qwc w)) 7 := by
          refine qfnd_congr (fun w hw => ?_)
          have := qwd_m (ch := ch) (p := p) (n := E - p) hlet hw
          rw [show p + (E - p) = E by omega] at this
          exact this
        rw [hfn] at hcmd
        by_cases hcc : qfnd (fun w => decide (qwd ch p (E - p) = qwc w)) 7 < 7
        · generalize hCc : qfnd (fun w => decide (qwd ch p (E - p) = qwc w)) 7 = c at *
          rw [if_pos hcc] at hcmd
          have hturn : X6_parse_14 none g (nI p) S = some (.inl (some c, nI 0, nI E), S) := by
            have hif : (if nI (p + 1) < nI E then nI E else nI (p + 1)) = nI E := by
              by_cases h : p + 1 < E
              · rw [qTL1 h (by omega)]
              · rw [qTL0 (by omega) (by omega), show p + 1 = E by omega]
            have hno : ∀ (x y : Option (((Option Nat × Int32 × Int32) ⊕ (Int32 ⊕ Int32 ⊕ Int32 ⊕ (Option Nat))) × St)), oi ((some c : Option Nat) = none) x y = y := fun x y => if_neg (by simp)
            unfold X6_parse_14 X6_parse_73 X6_parse_165
            simp (disch := omega) only [qlj, nI_add, pk_mul, qIX, qIN, qOB, qOL, qLE1, qLE0, qLT1, qLT0, qEQ1, qEQ0, qM0, qM1, qR, qN0, qMM, qNL1, qNL0, qNE1, qNE0, qB1, qB0, qOT, qOF, qGT, hT.1, hT.2 p hpL, hkk, hen, hyes, hcmd, hno, hif, o10]
          have hk40 : k < 40 := by omega
          obtain ⟨nm1, nm2, nm3⟩ := q_nm c hcc
          have hrefgo : ∀ T, TR L ch T → gi T 75 29 = nI k → X8_reads_14 (si T 75 28 (nI p)) = X8_reads_78 (nI (qnm c)) (si (si T 89 (4 * k) (nI (qcd7 c))) 75 28 (nI E)) := by
            intro T hR h29
            have hm := r_meant (T := si T 75 28 (nI E)) hwlt
            rw [if_pos (by rw [hCc]; exact hcc), hCc] at hm
            have hq7 := q_c7 c hcc
            have h29' : gi (si T 75 28 (nI E)) 75 29 = nI k := by rw [qG0 (by omega)]; exact h29
            have hcm : si (si T 75 28 (nI E)) 89 (4 * k) (nI (qcd7 c)) = si (si T 89 (4 * k) (nI (qcd7 c))) 75 28 (nI E) := si_cm (by omega)
            have h78 := r_reads78 (T := si (si T 89 (4 * k) (nI (qcd7 c))) 75 28 (nI E)) hcc
            unfold X8_reads_14
            simp (disch := omega) only [qlj, nI_add, pk_mul, qIX, qIN, qOB, qOL, qLE1, qLE0, qLT1, qLT0, qEQ1, qEQ0, qM0, qM1, qR, qN0, qMM, qNL1, qNL0, qNE1, qNE0, qB1, qB0, qOT, qOF, qGT, (htop T hR h29).1, (htop T hR h29).2, hword T hR, hm, h29', hcm]
            exact h78
          rcases num_phase (k := k) hB hcc hk40 (qnm c) 0 E (fun _ => 0) S rfl (by omega) b hT h4 (fun i hi => by omega) (fun i hi => by omega) with ⟨p', rc, S', x1, x2, x3, x4, x5, x6⟩ | ⟨m', pos', S', x1, x2, x3, x4, x5, x6, x7, x8, x9, x10⟩
          · refine ⟨rc, S', k, nI p', F0, hsp _ (lp_go hturn x2), x3, by omega, x4, fun h => (hbad p' (by omega) h).elim, fun T hR h29 hCr => ?_⟩
            obtain ⟨T', y1, y2, y3⟩ := x6 (si T 89 (4 * k) (nI (qcd7 c))) ⟨hR.1, hR.2⟩ (by rw [qG0 (by omega)]; exact h29)
            refine ⟨.inr (.inl ()), T', ?_, y2, (Fr.rf.si (by unfold PFr; omega)).tr y3, fun h => (hbad p' (by omega) h).elim⟩
            unfold X8_reads_14L
            refine lp_end ?_
            show X8_reads_14 (si T 75 28 (nI p)) = _
            rw [hrefgo T hR h29]
            unfold X8_reads_78
            simp (disch := omega) only [qlj, nI_add, pk_mul, qIX, qIN, qOB, qOL, qLE1, qLE0, qLT1, qLT0, qEQ1, qEQ0, qM0, qM1, qR, qN0, qMM, qNL1, qNL0, qNE1, qNE0, qB1, qB0, qOT, qOF, qGT, y1]
          · have hT' := x5.t hT
            obtain ⟨u1, u2, u3, u4⟩ := qsk_sp (L := L) (ch := ch) x2
            have hsp2 := fun R => c_sp (o := some c) (g := nI (qnm c)) (R := R) hB hT' _ pos' rfl x2
            have hosc : ∀ (f : Nat → Option (((Option Nat × Int32 × Int32) ⊕ (Int32 ⊕ Int32 ⊕ Int32 ⊕ (Option Nat))) × St)), os (some c) f = f c := fun f => rfl
            have hno : ∀ (x y : Option (((Option Nat × Int32 × Int32) ⊕ (Int32 ⊕ Int32 ⊕ Int32 ⊕ (Option Nat))) × St)), oi ((some c : Option Nat) = none) x y = y := fun x y => if_neg (by simp)
            have hog : ∀ (x : Option (((Option Nat × Int32 × Int32) ⊕ (Int32 ⊕ Int32 ⊕ Int32 ⊕ (Option Nat))) × St)), og (c < 7) x = x := fun x => if_pos hcc
            have href2 : ∀ T, TR L ch T → gi T 75 29 = nI k → ∃ T', (X8_reads_14 (si T 75 28 (nI p)) = ob (X8_at (nI (qsk L ch pos')) (si T' 75 28 (nI (qsk L ch pos')))) (fun r18 S19 => oi (r18 = nI 59) (ol (si S19 75 28 ((gi S19 75 28) + nI 1)) (fun T20 => ol (si T20 75 29 ((gi T20 75 29) + nI 1)) (fun T21 => ob (X8_skipsSpaces T21) (fun r22 S23 => some (.inl (), S23))))) (some (.inr (.inr (.inr (.inl ()))), S19)))) ∧ (∀ i, i < qnm c → gi T' 89 (4 * k + 1 + i) = nI (m' i)) ∧ (∀ y, y < 4 * k → gi T' 89 y = gi T 89 y) ∧ gi T' 89 (4 * k) = nI (qcd7 c) ∧ gi T' 75 29 = nI k ∧ Fr PFr T T' ∧ TR L ch T' := by
              intro T hR h29
              obtain ⟨T', y1, y2, y3, y4, y5⟩ := x10 (si T 89 (4 * k) (nI (qcd7 c))) ⟨hR.1, hR.2⟩ (by rw [qG0 (by omega)]; exact h29) (fun i hi => by omega)
              have hF : Fr PFr T T' := (Fr.rf.si (by unfold PFr; omega)).tr y5
              refine ⟨T', ?_, y2, fun y hy => by rw [y3 y (by omega), qG0 (by omega)], by rw [y3 _ (Nat.le_refl _)]; exact qG1 rfl rfl, y4, hF, hR.f hF⟩
              rw [hrefgo T hR h29]
              have hsk2 := r_skip hB (hR.f hF) x2
              have h28 : gi (si T' 75 28 (nI (qsk L ch pos'))) 75 28 = nI (qsk L ch pos') := qG1 rfl rfl
              unfold X8_reads_78
              simp (disch := omega) only [qlj, nI_add, pk_mul, qIX, qIN, qOB, qOL, qLE1, qLE0, qLT1, qLT0, qEQ1, qEQ0, qM0, qM1, qR, qN0, qMM, qNL1, qNL0, qNE1, qNE0, qB1, qB0, qOT, qOF, qGT, y1, hsk2, h28]
            generalize hP2 : qsk L ch pos' = p2 at *
            by_cases hp2 : p2 < L
            · have hc2 := hB.2 p2 hp2
              have hkk2 := c_kind (S := S') hc2.2
              have hen2 := c_endOf hB hT' hp2
              have hkd2 := qkd_le (c := ch p2)
              have hk02 : qkd (ch p2) ≠ 0 := fun h => u3 hp2 (qkd_z h)
              by_cases hsem : ch p2 = 59
              · have hq3 := qkd_3.mpr hsem
                rw [hq3] at hkk2 hen2
                rw [if_neg (by omega)] at hen2
                have hog2 : ∀ (x : Option (((Option Nat × Int32 × Int32) ⊕ (Int32 ⊕ Int32 ⊕ Int32 ⊕ (Option Nat))) × St)), og (inb (nI k) 120 ∧ c < 7) x = x := fun x => if_pos ⟨nI_in (show k < 120 by omega) (show 120 < 2 ^ 31 by omega), hcc⟩
                have hr68 : gi (sr S' 70 k (some c)) 68 4 = nI k := x4
                have hturn2 : X6_parse_14 (some c) (nI (qnm c)) (nI p2) S' = some (.inl (none, nI (qnm c), nI (p2 + 1)), si (sr S' 70 k (some c)) 68 4 (nI (k + 1))) := by
                  unfold X6_parse_14 X6_parse_165
                  simp (disch := omega) only [qlj, nI_add, pk_mul, qIX, qIN, qOB, qOL, qLE1, qLE0, qLT1, qLT0, qEQ1, qEQ0, qM0, qM1, qR, qN0, qMM, qNL1, qNL0, qNE1, qNE0, qB1, qB0, qOT, qOF, qGT, hT'.1, hT'.2 p2 hp2, hkk2, hen2, hno, hosc, hog, nm1, x4, hog2, hr68, qTL0]
                have hFC2 : FC S (si (sr S' 70 k (some c)) 68 4 (nI (k + 1))) := by
                  refine x5.tr ⟨fun a b h => ?_, rfl⟩
                  rw [qG0 (by omega)]; rfl
                have hCM : CMc (k + 1) (qup F0 k (c, m' 0, if 2 ≤ qnm c then m' 1 else 0, if qnm c = 3 then m' 2 else 0)) (si (sr S' 70 k (some c)) 68 4 (nI (k + 1))) := by
                  intro i hi
                  have g71 : ∀ y, gi (si (sr S' 70 k (some c)) 68 4 (nI (k + 1))) 71 y = gi S' 71 y := fun y => by rw [qG0 (by omega)]; rfl
                  by_cases e : i = k
                  · subst e
                    rw [qup_s, g71, g71, g71]
                    refine ⟨hcc, x3 0 (by omega), ?_, ?_, ?_, ?_, fun h => ?_, fun h => ?_⟩
                    · show (if 2 ≤ qnm c then m' 1 else 0) ≤ 9999
                      split
                      · exact x3 1 (by omega)
                      · omega
                    · show (if qnm c = 3 then m' 2 else 0) ≤ 9999
                      split
                      · exact x3 2 (by omega)
                      · omega
                    · show gr (sr S' 70 i (some c)) 70 i = some c
                      rw [gr_sr, if_pos ⟨rfl, rfl⟩]
                    · exact x7 0 (by omega)
                    · have h' : 2 ≤ qnm c := h
                      show _ = nI (if 2 ≤ qnm c then m' 1 else 0)
                      rw [if_pos h']; exact x7 1 (by omega)
                    · have h' : qnm c = 3 := h
                      show _ = nI (if qnm c = 3 then m' 2 else 0)
                      rw [if_pos h']; exact x7 2 (by omega)
                  · rw [qup_n e, g71, g71, g71]
                    obtain ⟨z1, z2, z3, z4, z5, z6, z7, z8⟩ := hC i (by omega)
                    refine ⟨z1, z2, z3, z4, ?_, by rw [x6 _ (by omega)]; exact z6, fun h => by rw [x6 _ (by omega)]; exact z7 h, fun h => by rw [x6 _ (by omega)]; exact z8 h⟩
                    show gr (sr S' 70 k (some c)) 70 i = _
                    rw [gr_sr, if_neg (by omega)]
                    show S'.2.2 70 i = _
                    rw [x8]; exact z5
                obtain ⟨rc, S2, k', v, F, i1, i2, i3, i4, i5, i6⟩ := ih (L - (p2 + 1)) (by omega) (p2 + 1) (k + 1) (nI (qnm c)) (si (sr S' 70 k (some c)) 68 4 (nI (k + 1))) _ rfl (by omega) (hFC2.t hT) (qG1 rfl rfl) (by omega) hCM
                refine ⟨rc, S2, k', v, F, hsp _ (lp_go hturn (x9 _ (hsp2 _ (lp_go hturn2 i1)))), i2, i3, hFC2.tr i4, i5, fun T hR h29 hCr => ?_⟩
                obtain ⟨T', y1, y2, y3, y4, y5, y6, y7⟩ := href2 T hR h29
                have hat := r_at (k := p2) hB (y7.s (x := nI p2)) (by omega)
                have hqa : qat L ch p2 = 59 := by unfold qat; rw [if_pos hp2]; exact hsem
                rw [hqa] at hat
                have hsk3 := r_skip (T := si T' 75 29 (nI (k + 1))) hB ⟨y7.1, y7.2⟩ (show p2 + 1 ≤ L by omega)
                have hcm2 : si (si T' 75 28 (nI (p2 + 1))) 75 29 (nI (k + 1)) = si (si T' 75 29 (nI (k + 1))) 75 28 (nI (p2 + 1)) := by
                  refine Prod.ext ?_ rfl
                  funext a b
                  show gi (si (si T' 75 28 (nI (p2 + 1))) 75 29 (nI (k + 1))) a b = gi (si (si T' 75 29 (nI (k + 1))) 75 28 (nI (p2 + 1))) a b
                  rw [gi_si, gi_si, gi_si, gi_si]
                  by_cases e : a = 75 ∧ b = 29
                  · rw [if_pos e, if_neg (by omega), if_pos e]
                  · rw [if_neg e, if_neg e]
                have g29 : gi (si T' 75 28 (nI (p2 + 1))) 75 29 = nI k := by rw [qG0 (by omega)]; exact y5
                have g28 : gi (si T' 75 28 (nI p2)) 75 28 = nI p2 := qG1 rfl rfl
                have hstep : X8_reads_14 (si T 75 28 (nI p)) = some (.inl (), si (si T' 75 29 (nI (k + 1))) 75 28 (nI (qsk L ch (p2 + 1)))) := by
                  rw [y1, hat, qOB]
                  simp (disch := omega) only [qlj, nI_add, pk_mul, qIX, qIN, qOB, qOL, qLE1, qLE0, qLT1, qLT0, qEQ1, qEQ0, qM0, qM1, qR, qN0, qMM, qNL1, qNL0, qNE1, qNE0, qB1, qB0, qOT, qOF, qGT, g28, si_si, g29, hcm2, hsk3]
                obtain ⟨rr, T2, j1, j2, j3, j4⟩ := i6 (si T' 75 29 (nI (k + 1))) ⟨y7.1, y7.2⟩ (qG1 rfl rfl) (fun i hi => by
                  have g89 : ∀ y, gi (si T' 75 29 (nI (k + 1))) 89 y = gi T' 89 y := fun y => qG0 (by omega)
                  by_cases e : i = k
                  · subst e
                    rw [qup_s, g89, g89, g89, g89]
                    refine ⟨y4, y2 0 (by omega), fun h => ?_, fun h => ?_⟩
                    · have h' : 2 ≤ qnm c := h
                      show _ = nI (if 2 ≤ qnm c then m' 1 else 0)
                      rw [if_pos h']; exact y2 1 (by omega)
                    · have h' : qnm c = 3 := h
                      show _ = nI (if qnm c = 3 then m' 2 else 0)
                      rw [if_pos h']; exact y2 2 (by omega)
                  · rw [qup_n e, g89, g89, g89, g89, y3 _ (by omega), y3 _ (by omega), y3 _ (by omega), y3 _ (by omega)]
                    exact hCr i (by omega))
                exact ⟨rr, T2, lp_go hstep j1, j2, (y6.si (by unfold PFr; omega)).tr j3, j4⟩
              · have hq3 : qkd (ch p2) ≠ 3 := fun h => hsem (qkd_3.mp h)
                refine ⟨.inr (.inr (.inl (nI p2))), S', k, nI p2, F0, hsp _ (lp_go hturn (x9 _ (hsp2 _ (lp_end ?_)))), rfl, by omega, x5, fun h => (hbad p2 (by omega) h).elim, fun T hR h29 hCr => ?_⟩
                · show X6_parse_14 (some c) (nI (qnm c)) (nI p2) S' = _
                  unfold X6_parse_14
                  simp (disch := omega) only [qlj, nI_add, pk_mul, qIX, qIN, qOB, qOL, qLE1, qLE0, qLT1, qLT0, qEQ1, qEQ0, qM0, qM1, qR, qN0, qMM, qNL1, qNL0, qNE1, qNE0, qB1, qB0, qOT, qOF, qGT, hT'.1, hT'.2 p2 hp2, hkk2, hen2, hno, hosc, hog, nm1]
                · obtain ⟨T', y1, y2, y3, y4, y5, y6, y7⟩ := href2 T hR h29
                  have hat := r_at (k := p2) hB (y7.s (x := nI p2)) (by omega)
                  have hqa : qat L ch p2 = ch p2 := by unfold qat; rw [if_pos hp2]
                  rw [hqa] at hat
                  refine ⟨.inr (.inr (.inl ())), si T' 75 28 (nI p2), lp_end ?_, qG1 rfl rfl, y6.si (by unfold PFr; omega), fun h => (hbad p2 (by omega) h).elim⟩
                  show X8_reads_14 (si T 75 28 (nI p)) = _
                  rw [y1, hat, qOB]
                  simp (disch := omega) only [qlj, nI_add, pk_mul, qIX, qIN, qOB, qOL, qLE1, qLE0, qLT1, qLT0, qEQ1, qEQ0, qM0, qM1, qR, qN0, qMM, qNL1, qNL0, qNE1, qNE0, qB1, qB0, qOT, qOF, qGT]
            · have hpe : p2 = L := by omega
              refine ⟨.inr (.inr (.inr (some c))), S', k, nI p2, F0, hsp _ (lp_go hturn (x9 _ (hsp2 _ (lp_end ?_)))), by rw [hpe]; rfl, by omega, x5, fun h => (hbad p2 (by omega) h).elim, fun T hR h29 hCr => ?_⟩
              · show X6_parse_14 (some c) (nI (qnm c)) (nI p2) S' = _
                unfold X6_parse_14
                simp (disch := omega) only [qlj, nI_add, pk_mul, qIX, qIN, qOB, qOL, qLE1, qLE0, qLT1, qLT0, qEQ1, qEQ0, qM0, qM1, qR, qN0, qMM, qNL1, qNL0, qNE1, qNE0, qB1, qB0, qOT, qOF, qGT, hT'.1]
              · obtain ⟨T', y1, y2, y3, y4, y5, y6, y7⟩ := href2 T hR h29
                have hat := r_at (k := p2) hB (y7.s (x := nI p2)) (by omega)
                have hqa : qat L ch p2 = 0 := by unfold qat; rw [if_neg hp2]
                rw [hqa] at hat
                refine ⟨.inr (.inr (.inl ())), si T' 75 28 (nI p2), lp_end ?_, qG1 rfl rfl, y6.si (by unfold PFr; omega), fun h => (hbad p2 (by omega) h).elim⟩
                show X8_reads_14 (si T 75 28 (nI p)) = _
                rw [y1, hat, qOB]
                simp (disch := omega) only [qlj, nI_add, pk_mul, qIX, qIN, qOB, qOL, qLE1, qLE0, qLT1, qLT0, qEQ1, qEQ0, qM0, qM1, qR, qN0, qMM, qNL1, qNL0, qNE1, qNE0, qB1, qB0, qOT, qOF, qGT]
        · rw [if_neg hcc] at hcmd
          have h77 : qfnd (fun w => decide (qwd ch p (E - p) = qwc w)) 7 = 7 := by
            have := (qfnd_sp (P := fun w => decide (qwd ch p (E - p) = qwc w)) 7).1
            omega
          refine ⟨.inl (nI p), S, k, nI p, F0, hsp _ (lp_end ?_), rfl, by omega, FC.rf, fun h => (hbad p (by omega) h).elim, fun T hR h29 hCr => hfaultR h77 T hR h29 hCr⟩
          show X6_parse_14 none g (nI p) S = _
          unfold X6_parse_14 X6_parse_73
          simp (disch := omega) only [qlj, nI_add, pk_mul, qIX, qIN, qOB, qOL, qLE1, qLE0, qLT1, qLT0, qEQ1, qEQ0, qM0, qM1, qR, qN0, qMM, qNL1, qNL0, qNE1, qNE0, qB1, qB0, qOT, qOF, qGT, hT.1, hT.2 p hpL, hkk, hen, hyes, hcmd, o10]
      · have hq0 : qrn L ch 1 p = p := qrn_un (Nat.le_refl _) (by omega) (fun _ => h1) (fun j a b => by omega)
        have h77 : qfnd (fun w => decide (qwd ch p (qrn L ch 1 p - p) = qwc w)) 7 = 7 := by
          refine qfnd_no (fun j hj => ?_)
          have hz := (q_wc0 j hj).1
          have : qwd ch p (qrn L ch 1 p - p) = 0 := by rw [hq0, Nat.sub_self]; rfl
          rw [this]
          exact decide_eq_false (by omega)
        refine ⟨.inl (nI p), S, k, nI p, F0, hsp _ (lp_end ?_), rfl, by omega, FC.rf, fun h => (hbad p (by omega) h).elim, fun T hR h29 hCr => hfaultR h77 T hR h29 hCr⟩
        show X6_parse_14 none g (nI p) S = _
        unfold X6_parse_14 X6_parse_73
        simp (disch := omega) only [qlj, nI_add, pk_mul, qIX, qIN, qOB, qOL, qLE1, qLE0, qLT1, qLT0, qEQ1, qEQ0, qM0, qM1, qR, qN0, qMM, qNL1, qNL0, qNE1, qNE0, qB1, qB0, qOT, qOF, qGT, hT.1, hT.2 p hpL, hkk, hen, hyes]
    · have hpe : p = L := by omega
      refine ⟨.inr (.inr (.inr none)), S, k, -nI 1, F0, hsp _ (lp_end ?_), rfl, by omega, FC.rf, fun _ => ⟨h4, hC⟩, fun T hR h29 hCr => ?_⟩
      · show X6_parse_14 none g (nI p) S = _
        unfold X6_parse_14
        simp (disch := omega) only [qlj, nI_add, pk_mul, qIX, qIN, qOB, qOL, qLE1, qLE0, qLT1, qLT0, qEQ1, qEQ0, qM0, qM1, qR, qN0, qMM, qNL1, qNL0, qNE1, qNE0, qB1, qB0, qOT, qOF, qGT, hT.1]
      · have x1 : gi (si T 75 28 (nI p)) 75 27 = nI L := hR.1
        have x2 : gi (si T 75 28 (nI p)) 75 28 = nI p := qG1 rfl rfl
        refine ⟨.inr (.inr (.inr ())), si T 75 28 (nI p), ?_, rfl, Fr.rf.si (by unfold PFr; omega), fun _ => ⟨by rw [qG0 (by omega)]; exact h29, fun i hi => hCr i hi⟩⟩
        unfold X8_reads_14L
        refine lp_end ?_
        show X8_reads_14 (si T 75 28 (nI p)) = _
        unfold X8_reads_14
        simp (disch := omega) only [qlj, nI_add, pk_mul, qIX, qIN, qOB, qOL, qLE1, qLE0, qLT1, qLT0, qEQ1, qEQ0, qM0, qM1, qR, qN0, qMM, qNL1, qNL0, qNE1, qNE0, qB1, qB0, qOT, qOF, qGT, x1, x2]
