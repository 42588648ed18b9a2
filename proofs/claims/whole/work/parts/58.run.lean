/-! ===== texts: typing, faults, runs ===== -/
theorem si_cm2 {S : St} {k j j' : Nat} {x y : Int32} (h : j ≠ j') : si (si S k j x) k j' y = si (si S k j' y) k j x := by
  refine Prod.ext ?_ rfl
  funext a b
  show gi (si (si S k j x) k j' y) a b = gi (si (si S k j' y) k j x) a b
  rw [gi_si, gi_si, gi_si, gi_si]
  by_cases e : a = k ∧ b = j'
  · rw [if_pos e, if_neg (by omega), if_pos e]
  · rw [if_neg e, if_neg e]
theorem parse_both {L : Nat} {ch : Nat → Nat} {S : St} (hB : TB L ch) (hT : TC L ch S) : ∃ S' k' v F, X6_parse S = some (v, S') ∧ k' ≤ 40 ∧ FC S S' ∧ (v = -nI 1 → gi S' 68 4 = nI k' ∧ CMc k' F S') ∧ ∀ T, TR L ch T → ∃ T', X8_reads T = some (v, T') ∧ Fr PFr T T' ∧ (v = -nI 1 → gi T' 75 29 = nI k' ∧ CMr k' F T') := by
  have h0 : FC S (si S 68 4 (nI 0)) := ⟨fun a b h => qG0 (by omega), rfl⟩
  obtain ⟨rc, S', k', v, F, i1, i2, i3, i4, i5, i6⟩ := parse_main hB L 0 0 (nI 0) (si S 68 4 (nI 0)) (fun _ => (0, 0, 0, 0)) rfl (Nat.zero_le _) (h0.t hT) (qG1 rfl rfl) (Nat.le_refl _) (fun i hi => absurd hi (Nat.not_lt_zero _))
  have h681 : gi S' 68 1 = nI L := ((h0.tr i4).t hT).1
  refine ⟨S', k', v, F, ?_, i3, h0.tr i4, i5, fun T hR => ?_⟩
  · unfold X6_parse
    simp (disch := omega) only [qlj, nI_add, pk_mul, qIX, qIN, qOB, qOL, qLE1, qLE0, qLT1, qLT0, qEQ1, qEQ0, qM0, qM1, qR, qN0, qMM, qNL1, qNL0, qNE1, qNE0, qB1, qB0, qOT, qOF, qGT, i1]
    rw [← i2]
    rcases rc with q | q | q | q
    · rfl
    · rfl
    · rfl
    · cases q with
      | none => exact if_pos rfl
      | some c =>
        rw [h681]
        exact if_neg (by simp)
  · have hR2 : TR L ch (si T 75 29 (nI 0)) := ⟨hR.1, hR.2⟩
    obtain ⟨rr, T', j1, j2, j3, j4⟩ := i6 (si T 75 29 (nI 0)) hR2 (qG1 rfl rfl) (fun i hi => absurd hi (Nat.not_lt_zero _))
    have hsk := r_skip hB hR2 (Nat.zero_le L)
    have hcm : si (si T 75 28 (nI 0)) 75 29 (nI 0) = si (si T 75 29 (nI 0)) 75 28 (nI 0) := si_cm2 (by omega)
    refine ⟨T', ?_, (Fr.rf.si (by unfold PFr; omega)).tr j3, j4⟩
    unfold X8_reads
    simp (disch := omega) only [qlj, nI_add, pk_mul, qIX, qIN, qOB, qOL, qLE1, qLE0, qLT1, qLT0, qEQ1, qEQ0, qM0, qM1, qR, qN0, qMM, qNL1, qNL0, qNE1, qNE0, qB1, qB0, qOT, qOF, qGT, hcm, hsk, j1]
    rw [← j2]
    rcases rr with q | q | q | q <;> rfl
def PX (a b : Nat) : Prop := (a = 68 ∧ b = 4) ∨ a = 71 ∨ PFr a b ∨ (a = 75 ∧ b = 3)
theorem Inv.fx {S T : St} (h : Inv S) (e : ∀ a b, ¬ PX a b → gi T a b = gi S a b) : Inv T := by
  obtain ⟨⟨r, hW, hR, hM⟩, ⟨n, nw, hH⟩, hL, hX⟩ := h
  refine ⟨⟨r, hW, hR.cg (fun a b x y => e a b (by unfold PX PFr; omega)), hM.cg (fun b => e 76 b (by unfold PX PFr; omega))⟩, ⟨n, nw, hH.cg (fun x y h => e x y (by unfold PX PFr; omega))⟩, hL.cg (fun x y h => e x y (by unfold PX PFr; omega)), hX.cg (fun x y h => e x y (by unfold PX PFr; omega))⟩
theorem ls33 {a b c : Int32} {S : St} (hI : Inv S) : ∃ S', LS_33 a b c S = some S' ∧ Inv S' := by
  obtain ⟨-, -, -, ⟨L, ch, t1, t2, t3, t4⟩⟩ := id hI
  have hB : TB L ch := ⟨t1, fun k hk => (t4 k hk).2.2⟩
  have hT : TC L ch S := ⟨t2, fun k hk => (t4 k hk).1⟩
  obtain ⟨S', k', v, F, i1, i2, i3, i4, i5⟩ := parse_both hB hT
  have hR : TR L ch (si S' 75 3 (nI 0)) := ⟨by rw [qG0 (by omega), i3.1 75 27 (by omega)]; exact t3, fun k hk => by rw [qG0 (by omega), i3.1 88 k (by omega)]; exact (t4 k hk).2.1⟩
  obtain ⟨T', j1, j2, j3⟩ := i5 _ hR
  unfold LS_33
  refine ⟨T', ls_p (v := v) (S1 := S') ?_ ?_, hI.fx (fun x y h => ?_)⟩
  · unfold X7_fault; rw [i1, qOB]
  · unfold X8_fault; simp (disch := omega) only [qlj, nI_add, pk_mul, qIX, qIN, qOB, qOL, qLE1, qLE0, qLT1, qLT0, qEQ1, qEQ0, qM0, qM1, qR, qN0, qMM, qNL1, qNL0, qNE1, qNE0, qB1, qB0, qOT, qOF, qGT, j1]
  · unfold PX PFr at h
    rw [j2.1 x y (by unfold PFr; omega), qG0 (by omega), i3.1 x y (by omega)]
theorem ls32 {a b c : Int32} {S : St} (hI : Inv S) : ∃ S', LS_32 a b c S = some S' ∧ Inv S' := by
  obtain ⟨⟨r, hW, hR, hM⟩, ⟨n, nw, hH⟩, hL, ⟨L, ch, t1, t2, t3, t4⟩⟩ := id hI
  unfold LS_32
  have g : ∀ x y, ¬ ((x = 68 ∧ y = 1) ∨ (x = 75 ∧ (y = 3 ∨ y = 27))) → gi (si (si (si S 68 1 (nI 0)) 75 3 (nI 0)) 75 27 (nI 0)) x y = gi S x y := fun x y h => by
    rw [qG0 (by omega), qG0 (by omega), qG0 (by omega)]
  refine ⟨si (si (si S 68 1 (nI 0)) 75 3 (nI 0)) 75 27 (nI 0), ls_p (v := nI L) (S1 := si S 68 1 (nI 0)) ?_ ?_, ⟨r, hW, hR.cg (fun x y p q => g x y (by omega)), hM.cg (fun y => g 76 y (by omega))⟩, ⟨n, nw, hH.cg (fun x y h => g x y (by omega))⟩, hL.cg (fun x y h => g x y (by omega)), 0, ch, by omega, ?_, qG1 rfl rfl, fun k hk => absurd hk (Nat.not_lt_zero _)⟩
  · unfold X7_clearText; simp (disch := omega) only [qlj, nI_add, pk_mul, qIX, qIN, qOB, qOL, qLE1, qLE0, qLT1, qLT0, qEQ1, qEQ0, qM0, qM1, qR, qN0, qMM, qNL1, qNL0, qNE1, qNE0, qB1, qB0, qOT, qOF, qGT, t2]
  · have t3' : gi (si (si S 68 1 (nI 0)) 75 3 (nI 0)) 75 27 = nI L := by rw [qG0 (by omega), qG0 (by omega)]; exact t3
    unfold X8_clearText; simp (disch := omega) only [qlj, nI_add, pk_mul, qIX, qIN, qOB, qOL, qLE1, qLE0, qLT1, qLT0, qEQ1, qEQ0, qM0, qM1, qR, qN0, qMM, qNL1, qNL0, qNE1, qNE0, qB1, qB0, qOT, qOF, qGT, t3']
  · rw [qG0 (by omega), qG0 (by omega)]; exact qG1 rfl rfl
theorem ls31 {a b c : Int32} {S : St} (hI : Inv S) : ∃ S', LS_31 a b c S = some S' ∧ Inv S' := by
  obtain ⟨⟨r, hW, hR, hM⟩, ⟨n, nw, hH⟩, hL, ⟨L, ch, t1, t2, t3, t4⟩⟩ := id hI
  unfold LS_31 L_type
  rcases f_in a (lo := 32) (hi := 126) (by omega) (by omega) with ⟨x, x1, x2, rfl, h1⟩ | ⟨h0, h1⟩
  · by_cases h120 : L = 120
    · have hf : X6_isFull S = some (nI 1, S) := by unfold X6_isFull; simp (disch := omega) only [qlj, nI_add, pk_mul, qIX, qIN, qOB, qOL, qLE1, qLE0, qLT1, qLT0, qEQ1, qEQ0, qM0, qM1, qR, qN0, qMM, qNL1, qNL0, qNE1, qNE0, qB1, qB0, qOT, qOF, qGT, t2]
      refine ls_f hI (e := 2) (k := 2) (r2 := nI 0) ?_ rfl ?_ (by omega) (by omega)
      · unfold X7_type X7_type_12; simp (disch := omega) only [qlj, nI_add, pk_mul, qIX, qIN, qOB, qOL, qLE1, qLE0, qLT1, qLT0, qEQ1, qEQ0, qM0, qM1, qR, qN0, qMM, qNL1, qNL0, qNE1, qNE0, qB1, qB0, qOT, qOF, qGT, hf, o10]
      · unfold X8_type X8_type_30; simp (disch := omega) only [qlj, nI_add, pk_mul, qIX, qIN, qOB, qOL, qLE1, qLE0, qLT1, qLT0, qEQ1, qEQ0, qM0, qM1, qR, qN0, qMM, qNL1, qNL0, qNE1, qNE0, qB1, qB0, qOT, qOF, qGT, h1, o10, t3, f_r2]
    · have hf : X6_isFull S = some (nI 0, S) := by unfold X6_isFull; simp (disch := omega) only [qlj, nI_add, pk_mul, qIX, qIN, qOB, qOL, qLE1, qLE0, qLT1, qLT0, qEQ1, qEQ0, qM0, qM1, qR, qN0, qMM, qNL1, qNL0, qNE1, qNE0, qB1, qB0, qOT, qOF, qGT, t2]
      generalize hS1 : si (si S 69 L (nI x)) 68 1 (nI (L + 1)) = S1
      have g1 : ∀ x' y, ¬ ((x' = 69 ∧ y = L) ∨ (x' = 68 ∧ y = 1)) → gi S1 x' y = gi S x' y := fun x' y h => by rw [← hS1, qG0 (by omega), qG0 (by omega)]
      have h681 : gi S1 68 1 = nI (L + 1) := by rw [← hS1]; exact qG1 rfl rfl
      generalize hT : si (si (si (sl S1 90 0 (nI (L + 1)).toInt64) 75 3 (nI 0)) 88 L (nI x)) 75 27 (nI (L + 1)) = T
      have g2 : ∀ x' y, ¬ ((x' = 75 ∧ (y = 3 ∨ y = 27)) ∨ (x' = 88 ∧ y = L)) → gi T x' y = gi S1 x' y := fun x' y h => by rw [← hT, qG0 (by omega), qG0 (by omega), qG0 (by omega), qIL]
      have e27 : gi (sl S1 90 0 (nI (L + 1)).toInt64) 75 27 = nI L := by rw [qIL, g1 75 27 (by omega)]; exact t3
      have e27' : gi (si (sl S1 90 0 (nI (L + 1)).toInt64) 75 3 (nI 0)) 75 27 = nI L := by rw [qG0 (by omega)]; exact e27
      have h27 : gi T 75 27 = nI (L + 1) := by rw [← hT]; exact qG1 rfl rfl
      have gg : ∀ x' y, ¬ ((x' = 75 ∧ (y = 3 ∨ y = 27)) ∨ x' = 88 ∨ x' = 69 ∨ (x' = 68 ∧ y = 1)) → gi T x' y = gi S x' y := fun x' y h => by rw [g2 x' y (by omega), g1 x' y (by omega)]
      refine ⟨T, ls_ok (v := nI (L + 1)) (S1 := S1) ?_ ?_ ?_ ?_, ⟨r, hW, hR.cg (fun x y p q => gg x y (by omega)), hM.cg (fun y => gg 76 y (by omega))⟩, ⟨n, nw, hH.cg (fun x y h => gg x y (by omega))⟩, hL.cg (fun x y h => gg x y (by omega)), L + 1, qup ch L x, by omega, ?_, h27, fun k hk => ?_⟩
      · have t2' : gi (si S 69 L (nI x)) 68 1 = nI L := by rw [qG0 (by omega)]; exact t2
        unfold X7_type X6_append; simp (disch := omega) only [qlj, nI_add, pk_mul, qIX, qIN, qOB, qOL, qLE1, qLE0, qLT1, qLT0, qEQ1, qEQ0, qM0, qM1, qR, qN0, qMM, qNL1, qNL0, qNE1, qNE0, qB1, qB0, qOT, qOF, qGT, hf, t2, t2', hS1, h681]
      · have e27'' : gi (si (si (sl S1 90 0 (nI (L + 1)).toInt64) 75 3 (nI 0)) 88 L (nI x)) 75 27 = nI L := by rw [qG0 (by omega)]; exact e27'
        unfold X8_type X8_type_30; simp (disch := omega) only [qlj, nI_add, pk_mul, qIX, qIN, qOB, qOL, qLE1, qLE0, qLT1, qLT0, qEQ1, qEQ0, qM0, qM1, qR, qN0, qMM, qNL1, qNL0, qNE1, qNE0, qB1, qB0, qOT, qOF, qGT, h1, o10, e27, f_r0, e27', e27'', hT, h27]
      · rw [← hT, qG0 (by omega), qG0 (by omega)]; exact qG1 rfl rfl
      · rw [← hT, qGS, qGS, qGS, qGL]
      · rw [g2 _ _ (by omega)]; exact h681
      · by_cases e : k = L
        · subst e
          rw [qup_s]
          refine ⟨?_, ?_, by omega, by omega⟩
          · rw [g2 _ _ (by omega), ← hS1, qG0 (by omega)]; exact qG1 rfl rfl
          · rw [← hT, qG0 (by omega)]; exact qG1 rfl rfl
        · rw [qup_n e]
          have := t4 k (by omega)
          refine ⟨?_, ?_, this.2.2⟩
          · rw [g2 _ _ (by omega), g1 _ _ (by omega)]; exact this.1
          · rw [g2 _ _ (by omega), g1 _ _ (by omega)]; exact this.2.1
  · refine ls_f hI (e := 1) (k := 1) (r2 := nI 0) ?_ rfl ?_ (by omega) (by omega)
    · unfold X7_type X7_type_12
      by_cases h : a < nI 32
      · have hh : ∀ (x y : Option ((Int32 ⊕ Nat) × St)), oi (a < nI 32) x y = x := fun x y => if_pos h
        simp (disch := omega) only [qlj, nI_add, pk_mul, qIX, qIN, qOB, qOL, qLE1, qLE0, qLT1, qLT0, qEQ1, qEQ0, qM0, qM1, qR, qN0, qMM, qNL1, qNL0, qNE1, qNE0, qB1, qB0, qOT, qOF, qGT, hh]
      · have hh : ∀ (x y : Option ((Int32 ⊕ Nat) × St)), oi (a < nI 32) x y = y := fun x y => if_neg h
        have hh2 : ∀ (x y : Option ((Int32 ⊕ Nat) × St)), oi (a ≤ nI 126) x y = y := fun x y => if_neg (by rw [Int32.not_le]; exact h0.resolve_left h)
        simp (disch := omega) only [qlj, nI_add, pk_mul, qIX, qIN, qOB, qOL, qLE1, qLE0, qLT1, qLT0, qEQ1, qEQ0, qM0, qM1, qR, qN0, qMM, qNL1, qNL0, qNE1, qNE0, qB1, qB0, qOT, qOF, qGT, hh, hh2]
    · unfold X8_type X8_type_30; simp (disch := omega) only [qlj, nI_add, pk_mul, qIX, qIN, qOB, qOL, qLE1, qLE0, qLT1, qLT0, qEQ1, qEQ0, qM0, qM1, qR, qN0, qMM, qNL1, qNL0, qNE1, qNE0, qB1, qB0, qOT, qOF, qGT, h1, f_r1, o10]
def qstg (c : Nat) : Nat := [0, 0, 1, 2, 3, 0, 7].getD c 0
theorem q_stg : ∀ c, c < 7 → c ≠ 0 → c ≠ 5 → cmdS c = nI (qstg c) ∧ qstg c < 8 ∧ qcd7 c = 121 + qstg c := by decide +kernel
/-- one command, both sides -/
theorem cmd_step {r : Rd} {i c a b d : Nat} (hW : RW r) (hi : i < 40) (hc : c < 7) (ha : a ≤ 9999) (hb : b ≤ 9999) (hd : d ≤ 9999) : ∃ r' y, RW r' ∧ y ≤ 1 ∧
    (∀ S, RC r S → gi S 71 (3 * i) = nI a → (2 ≤ qnm c → gi S 71 (3 * i + 1) = nI b) → (qnm c = 3 → gi S 71 (3 * i + 2) = nI d) → ∃ S', X7_carryOut (some c) (nI (i * 3)) S = some (nI y, S') ∧ RC r' S' ∧ Fr (fun a _ => 1 ≤ a ∧ a ≤ 5) S S') ∧
    (∀ T, RMa 76 0 r T → gi T 89 (4 * i) = nI (qcd7 c) → gi T 89 (4 * i + 1) = nI a → (2 ≤ qnm c → gi T 89 (4 * i + 2) = nI b) → (qnm c = 3 → gi T 89 (4 * i + 3) = nI d) → ∃ T', X8_does (nI i) T = some (nI y, T') ∧ RMa 76 0 r' T' ∧ Fr (fun a _ => a = 76) T T') := by
  have hn := hW.1
  have hnone : ∀ (x y : Option (Int32 × St)), oi ((some c : Option Nat) = none) x y = y := fun x y => if_neg (by simp)
  have hg7 : ∀ (k : Nat) (hk : k < 7) (x : Option (Int32 × St)), og ((some c : Option Nat).getD 0 < 7 ∧ (some k : Option Nat).getD 0 < 7) x = x := fun k hk x => if_pos ⟨hc, hk⟩
  have e3 : i * 3 = 3 * i := Nat.mul_comm _ _
  by_cases h0 : c = 0
  · subst h0
    have hs0 : ∀ (x y : Option (Int32 × St)), oi ((some 0 : Option Nat) = some 0) x y = x := fun x y => if_pos rfl
    rcases f_isP (nI a) (nI b) (nI d) with ⟨t, f, z, t1, f1, z1, z2, xa, xb, xd, h1, h2, h3⟩ | ⟨h1, h2⟩
    · have ea : a = t := (nI_eq (by omega) (by omega)).mp xa
      have eb : b = f := (nI_eq (by omega) (by omega)).mp xb
      have ed : d = z := (nI_eq (by omega) (by omega)).mp xd
      subst ea eb ed
      by_cases h40 : r.n = 40
      · refine ⟨r, 0, hW, by omega, fun S hR m1 m2 m3 => ⟨S, ?_, hR, Fr.rf⟩, fun T hM n1 n2 n3 n4 => ⟨T, ?_, hM, Fr.rf⟩⟩
        · have hfull : X4_isFull 1 S = some (nI 1, S) := by unfold X4_isFull; simp (disch := omega) only [qlj, nI_add, pk_mul, qIX, qIN, qOB, qOL, qLE1, qLE0, qLT1, qLT0, qEQ1, qEQ0, qM0, qM1, qR, qN0, qMM, qNL1, qNL0, qNE1, qNE0, qB1, qB0, qOT, qOF, qGT, hR.1]
          have hins : X4_insert 1 (nI a) (nI b) (nI d) S = some (-nI 1, S) := by unfold X4_insert; simp (disch := omega) only [qlj, nI_add, pk_mul, qIX, qIN, qOB, qOL, qLE1, qLE0, qLT1, qLT0, qEQ1, qEQ0, qM0, qM1, qR, qN0, qMM, qNL1, qNL0, qNE1, qNE0, qB1, qB0, qOT, qOF, qGT, hfull, o10]
          have m2' := m2 (by decide)
          have m3' := m3 (by decide)
          unfold X7_carryOut
          simp (disch := omega) only [qlj, nI_add, pk_mul, qIX, qIN, qOB, qOL, qLE1, qLE0, qLT1, qLT0, qEQ1, qEQ0, qM0, qM1, qR, qN0, qMM, qNL1, qNL0, qNE1, qNE0, qB1, qB0, qOT, qOF, qGT, e3, hnone, hg7 0 (by omega), hs0, m1, m2', m3', h1, o10, hins]
        · have hno := h3 T r.n hn hM.1
          rw [if_pos h40] at hno
          have n1' : gi T 89 (4 * i) = nI 1 := n1
          have n3' := n3 (by decide)
          have n4' := n4 (by decide)
          unfold X8_does X8_does_62
          simp (disch := omega) only [qlj, nI_add, pk_mul, qIX, qIN, qOB, qOL, qLE1, qLE0, qLT1, qLT0, qEQ1, qEQ0, qM0, qM1, qR, qN0, qMM, qNL1, qNL0, qNE1, qNE0, qB1, qB0, qOT, qOF, qGT, n1', n2, n3', n4', hno]
      · refine ⟨qir r a b d, 1, qir_W hW (by omega) t1 f1 z1 z2, by omega, fun S hR m1 m2 m3 => ?_, fun T hM n1 n2 n3 n4 => ?_⟩
        · obtain ⟨S', g1, g2, g3⟩ := c_insert (fl := b) (sz := d) hW hR (by omega) t1
          have hq := (qip_sp (t := r.t) (tm := a) r.n).1
          have m2' := m2 (by decide)
          have m3' := m3 (by decide)
          refine ⟨S', ?_, g2, g3⟩
          unfold X7_carryOut
          simp (disch := omega) only [qlj, nI_add, pk_mul, qIX, qIN, qOB, qOL, qLE1, qLE0, qLT1, qLT0, qEQ1, qEQ0, qM0, qM1, qR, qN0, qMM, qNL1, qNL0, qNE1, qNE0, qB1, qB0, qOT, qOF, qGT, e3, hnone, hg7 0 (by omega), hs0, m1, m2', m3', h1, o10, g1]
        · obtain ⟨T', g1, g2, g3⟩ := r_records (fl := b) (sz := d) hW hM (by omega) t1
          have hno := h3 T r.n hn hM.1
          rw [if_neg h40] at hno
          have n1' : gi T 89 (4 * i) = nI 1 := n1
          have n3' := n3 (by decide)
          have n4' := n4 (by decide)
          refine ⟨T', ?_, g2, g3⟩
          unfold X8_does X8_does_62
          simp (disch := omega) only [qlj, nI_add, pk_mul, qIX, qIN, qOB, qOL, qLE1, qLE0, qLT1, qLT0, qEQ1, qEQ0, qM0, qM1, qR, qN0, qMM, qNL1, qNL0, qNE1, qNE0, qB1, qB0, qOT, qOF, qGT, n1', n2, n3', n4', hno, o10, g1]
    · refine ⟨r, 0, hW, by omega, fun S hR m1 m2 m3 => ⟨S, ?_, hR, Fr.rf⟩, fun T hM n1 n2 n3 n4 => ⟨T, ?_, hM, Fr.rf⟩⟩
      · have m2' := m2 (by decide)
        have m3' := m3 (by decide)
        unfold X7_carryOut
        simp (disch := omega) only [qlj, nI_add, pk_mul, qIX, qIN, qOB, qOL, qLE1, qLE0, qLT1, qLT0, qEQ1, qEQ0, qM0, qM1, qR, qN0, qMM, qNL1, qNL0, qNE1, qNE0, qB1, qB0, qOT, qOF, qGT, e3, hnone, hg7 0 (by omega), hs0, m1, m2', m3', h1]
      · have n1' : gi T 89 (4 * i) = nI 1 := n1
        have n3' := n3 (by decide)
        have n4' := n4 (by decide)
        unfold X8_does X8_does_62
        rcases h2 with ⟨h2, -⟩ | ⟨h2, -⟩
        · simp (disch := omega) only [qlj, nI_add, pk_mul, qIX, qIN, qOB, qOL, qLE1, qLE0, qLT1, qLT0, qEQ1, qEQ0, qM0, qM1, qR, qN0, qMM, qNL1, qNL0, qNE1, qNE0, qB1, qB0, qOT, qOF, qGT, n1', n2, n3', n4', h2]
        · simp (disch := omega) only [qlj, nI_add, pk_mul, qIX, qIN, qOB, qOL, qLE1, qLE0, qLT1, qLT0, qEQ1, qEQ0, qM0, qM1, qR, qN0, qMM, qNL1, qNL0, qNE1, qNE0, qB1, qB0, qOT, qOF, qGT, n1', n2, n3', n4', h2]
  · have hs0 : ∀ (x y : Option (Int32 × St)), oi ((some c : Option Nat) = some 0) x y = y := fun x y => if_neg (by simp [h0])
    by_cases h5 : c = 5
    · subst h5
      have hs5 : ∀ (x y : Option (Int32 × St)), oi ((some 5 : Option Nat) = some 5) x y = x := fun x y => if_pos rfl
      have ht : ∀ i, i < 14 → 8 ≤ i → qlo i = 0 ∧ qhi i = 9 := by decide +kernel
      rcases f_flow (nI a) with ⟨f, hf, xa, k1, k2, k3⟩ | ⟨k1, k2, k3⟩
      · have ea : a = f := (nI_eq (by omega) (by omega)).mp xa
        subst ea
        have ht' := ht (8 + a) (by omega) (by omega)
        rcases f_alw (j := 8 + a) (by omega) (nI b) with ⟨v, v1, v2, xv, h3, h4⟩ | ⟨h3, h4⟩
        · have eb : b = v := (nI_eq (by omega) (by rw [ht'.2] at v2; omega)).mp xv
          subst eb
          rw [ht'.1, ht'.2] at h4
          refine ⟨qsr r (8 + a) b, 1, qsr_W hW (by omega) v1 v2, by omega, fun S hR m1 m2 m3 => ?_, fun T hM n1 n2 n3 n4 => ?_⟩
          · obtain ⟨g1, g2⟩ := c_setC (j := 8 + a) (v := b) hR (by omega)
            have m2' := m2 (by decide)
            refine ⟨_, ?_, g1, g2⟩
            unfold X7_carryOut X4_set
            simp (disch := omega) only [qlj, nI_add, pk_mul, qIX, qIN, qOB, qOL, qLE1, qLE0, qLT1, qLT0, qEQ1, qEQ0, qM0, qM1, qR, qN0, qMM, qNL1, qNL0, qNE1, qNE0, qB1, qB0, qOT, qOF, qGT, e3, hnone, hg7 0 (by omega), hs0, hg7 5 (by omega), hs5, m1, m2', k2, o10, h3]
          · obtain ⟨g1, g2⟩ := r_setM (j := 8 + a) (v := b) hW hM (by omega)
            have n1' : gi T 89 (4 * i) = nI 129 := n1
            have n3' := n3 (by decide)
            refine ⟨_, ?_, g1, g2⟩
            rw [show 121 + (8 + a) = 129 + a by omega]
            unfold X8_does X8_does_124 X8_does_133 X8_does_160
            simp (disch := omega) only [qlj, nI_add, pk_mul, qIX, qIN, qOB, qOL, qLE1, qLE0, qLT1, qLT0, qEQ1, qEQ0, qM0, qM1, qR, qN0, qMM, qNL1, qNL0, qNE1, qNE0, qB1, qB0, qOT, qOF, qGT, n1', n2, n3', k1, o10, h4]
        · rw [ht'.1, ht'.2] at h4
          refine ⟨r, 0, hW, by omega, fun S hR m1 m2 m3 => ⟨S, ?_, hR, Fr.rf⟩, fun T hM n1 n2 n3 n4 => ⟨T, ?_, hM, Fr.rf⟩⟩
          · have m2' := m2 (by decide)
            unfold X7_carryOut X4_set
            simp (disch := omega) only [qlj, nI_add, pk_mul, qIX, qIN, qOB, qOL, qLE1, qLE0, qLT1, qLT0, qEQ1, qEQ0, qM0, qM1, qR, qN0, qMM, qNL1, qNL0, qNE1, qNE0, qB1, qB0, qOT, qOF, qGT, e3, hnone, hg7 0 (by omega), hs0, hg7 5 (by omega), hs5, m1, m2', k2, o10, h3]
          · have n1' : gi T 89 (4 * i) = nI 129 := n1
            have n3' := n3 (by decide)
            unfold X8_does X8_does_124 X8_does_133
            simp (disch := omega) only [qlj, nI_add, pk_mul, qIX, qIN, qOB, qOL, qLE1, qLE0, qLT1, qLT0, qEQ1, qEQ0, qM0, qM1, qR, qN0, qMM, qNL1, qNL0, qNE1, qNE0, qB1, qB0, qOT, qOF, qGT, n1', n2, n3', k1, o10, h4]
      · refine ⟨r, 0, hW, by omega, fun S hR m1 m2 m3 => ⟨S, ?_, hR, Fr.rf⟩, fun T hM n1 n2 n3 n4 => ⟨T, ?_, hM, Fr.rf⟩⟩
        · have m2' := m2 (by decide)
          unfold X7_carryOut X4_set
          simp (disch := omega) only [qlj, nI_add, pk_mul, qIX, qIN, qOB, qOL, qLE1, qLE0, qLT1, qLT0, qEQ1, qEQ0, qM0, qM1, qR, qN0, qMM, qNL1, qNL0, qNE1, qNE0, qB1, qB0, qOT, qOF, qGT, e3, hnone, hg7 0 (by omega), hs0, hg7 5 (by omega), hs5, m1, m2', k2]
        · have n1' : gi T 89 (4 * i) = nI 129 := n1
          have n3' := n3 (by decide)
          unfold X8_does X8_does_124 X8_does_133
          simp (disch := omega) only [qlj, nI_add, pk_mul, qIX, qIN, qOB, qOL, qLE1, qLE0, qLT1, qLT0, qEQ1, qEQ0, qM0, qM1, qR, qN0, qMM, qNL1, qNL0, qNE1, qNE0, qB1, qB0, qOT, qOF, qGT, n1', n2, n3', k1]
    · have hs5 : ∀ (x y : Option (Int32 × St)), oi ((some c : Option Nat) = some 5) x y = y := fun x y => if_neg (by simp [h5])
      obtain ⟨s1, s2, s3⟩ := q_stg c hc h0 h5
      have hos : ∀ (f : Nat → Option (Int32 × St)), os (some c) f = f c := fun f => rfl
      have hog : ∀ (x : Option (Int32 × St)), og (c < 7) x = x := fun x => if_pos hc
      have hc1 : qcd7 c ≠ 1 ∧ qcd7 c ≠ 129 := by omega
      rcases f_alw (j := qstg c) (by omega) (nI a) with ⟨v, v1, v2, xv, h3, h4⟩ | ⟨h3, h4⟩
      · have ea : a = v := (nI_eq (by omega) (by have := (q_tab (qstg c) (by omega)).2.2.2; omega)).mp xv
        subst ea
        refine ⟨qsr r (qstg c) a, 1, qsr_W hW (by omega) v1 v2, by omega, fun S hR m1 m2 m3 => ?_, fun T hM n1 n2 n3 n4 => ?_⟩
        · obtain ⟨g1, g2⟩ := c_setC (j := qstg c) (v := a) hR (by omega)
          refine ⟨_, ?_, g1, g2⟩
          unfold X7_carryOut X4_set
          simp (disch := omega) only [qlj, nI_add, pk_mul, qIX, qIN, qOB, qOL, qLE1, qLE0, qLT1, qLT0, qEQ1, qEQ0, qM0, qM1, qR, qN0, qMM, qNL1, qNL0, qNE1, qNE0, qB1, qB0, qOT, qOF, qGT, e3, hnone, hg7 0 (by omega), hs0, hg7 5 (by omega), hs5, hos, hog, s1, m1, h3, o10]
        · obtain ⟨g1, g2⟩ := r_setM (j := qstg c) (v := a) hW hM (by omega)
          have hf := r_fits (j := qstg c) (b := 1) s2 (by omega) (h4 T)
          rw [s3] at n1
          refine ⟨_, ?_, g1, g2⟩
          unfold X8_does X8_does_133 X8_does_160
          simp (disch := omega) only [qlj, nI_add, pk_mul, qIX, qIN, qOB, qOL, qLE1, qLE0, qLT1, qLT0, qEQ1, qEQ0, qM0, qM1, qR, qN0, qMM, qNL1, qNL0, qNE1, qNE0, qB1, qB0, qOT, qOF, qGT, n1, n2, hf, o10]
      · refine ⟨r, 0, hW, by omega, fun S hR m1 m2 m3 => ⟨S, ?_, hR, Fr.rf⟩, fun T hM n1 n2 n3 n4 => ⟨T, ?_, hM, Fr.rf⟩⟩
        · unfold X7_carryOut X4_set
          simp (disch := omega) only [qlj, nI_add, pk_mul, qIX, qIN, qOB, qOL, qLE1, qLE0, qLT1, qLT0, qEQ1, qEQ0, qM0, qM1, qR, qN0, qMM, qNL1, qNL0, qNE1, qNE0, qB1, qB0, qOT, qOF, qGT, e3, hnone, hg7 0 (by omega), hs0, hg7 5 (by omega), hs5, hos, hog, s1, m1, h3]
        · have hf := r_fits (j := qstg c) (b := 0) s2 (by omega) (h4 T)
          rw [s3] at n1
          unfold X8_does X8_does_133
          simp (disch := omega) only [qlj, nI_add, pk_mul, qIX, qIN, qOB, qOL, qLE1, qLE0, qLT1, qLT0, qEQ1, qEQ0, qM0, qM1, qR, qN0, qMM, qNL1, qNL0, qNE1, qNE0, qB1, qB0, qOT, qOF, qGT, n1, n2, hf]
theorem run_all {k' : Nat} {F : Cm} (hk : k' ≤ 40) (hF : ∀ i, i < k' → (F i).1 < 7 ∧ (F i).2.1 ≤ 9999 ∧ (F i).2.2.1 ≤ 9999 ∧ (F i).2.2.2 ≤ 9999) : ∀ (e j x : Nat) (r : Rd), e = k' - j → j ≤ k' → x ≤ j → RW r → ∃ r' y, RW r' ∧ y ≤ 40 ∧
    (∀ S, RC r S → CMc k' F S → gi S 68 4 = nI k' → ∃ S', X7_run_36L (nI x, nI j) S = some (nI y, S') ∧ RC r' S' ∧ Fr (fun a _ => 1 ≤ a ∧ a ≤ 5) S S') ∧
    (∀ T, RMa 76 0 r T → CMr k' F T → gi T 75 29 = nI k' → ∃ T', X8_run_30L (nI x, nI j) T = some (nI y, T') ∧ RMa 76 0 r' T' ∧ Fr (fun a _ => a = 76) T T') := by
  intro e
  induction e with
  | zero =>
    intro j x r he hj hx hW
    have : j = k' := by omega
    subst this
    refine ⟨r, x, hW, by omega, fun S hR hC h68 => ⟨S, lp_end ?_, hR, Fr.rf⟩, fun T hM hC h29 => ⟨T, lp_end ?_, hM, Fr.rf⟩⟩
    · show X7_run_36 (nI x) (nI j) S = _
      unfold X7_run_36
      simp (disch := omega) only [qlj, nI_add, pk_mul, qIX, qIN, qOB, qOL, qLE1, qLE0, qLT1, qLT0, qEQ1, qEQ0, qM0, qM1, qR, qN0, qMM, qNL1, qNL0, qNE1, qNE0, qB1, qB0, qOT, qOF, qGT, h68]
    · show X8_run_30 (nI x) (nI j) T = _
      unfold X8_run_30
      simp (disch := omega) only [qlj, nI_add, pk_mul, qIX, qIN, qOB, qOL, qLE1, qLE0, qLT1, qLT0, qEQ1, qEQ0, qM0, qM1, qR, qN0, qMM, qNL1, qNL0, qNE1, qNE0, qB1, qB0, qOT, qOF, qGT, h29]
  | succ e ih =>
    intro j x r he hj hx hW
    obtain ⟨f1, f2, f3, f4⟩ := hF j (by omega)
    obtain ⟨r1, y, hW1, hy, c1, c2⟩ := cmd_step (i := j) hW (by omega) f1 f2 f3 f4
    obtain ⟨r', z, hW', hz, d1, d2⟩ := ih (j + 1) (x + y) r1 (by omega) (by omega) (by omega) hW1
    refine ⟨r', z, hW', hz, fun S hR hC h68 => ?_, fun T hM hC h29 => ?_⟩
    · obtain ⟨z1, z2, z3, z4, z5, z6, z7, z8⟩ := hC j (by omega)
      obtain ⟨S1, e1, e2, e3⟩ := c1 S hR z6 z7 z8
      have hC1 : CMc k' F S1 := fun i hi => by
        obtain ⟨w1, w2, w3, w4, w5, w6, w7, w8⟩ := hC i hi
        refine ⟨w1, w2, w3, w4, ?_, by rw [e3.1 _ _ (by omega)]; exact w6, fun h => by rw [e3.1 _ _ (by omega)]; exact w7 h, fun h => by rw [e3.1 _ _ (by omega)]; exact w8 h⟩
        show S1.2.2 70 i = _
        rw [e3.2]; exact w5
      obtain ⟨S2, g1, g2, g3⟩ := d1 S1 e2 hC1 (by rw [e3.1 _ _ (by omega)]; exact h68)
      refine ⟨S2, lp_go ?_ g1, g2, e3.tr g3⟩
      show X7_run_36 (nI x) (nI j) S = _
      unfold X7_run_36
      by_cases hy0 : y = 0
      · subst hy0
        simp (disch := omega) only [qlj, nI_add, pk_mul, qIX, qIN, qOB, qOL, qLE1, qLE0, qLT1, qLT0, qEQ1, qEQ0, qM0, qM1, qR, qN0, qMM, qNL1, qNL0, qNE1, qNE0, qB1, qB0, qOT, qOF, qGT, h68, z5, e1]
        rfl
      · have : y = 1 := by omega
        subst this
        simp (disch := omega) only [qlj, nI_add, pk_mul, qIX, qIN, qOB, qOL, qLE1, qLE0, qLT1, qLT0, qEQ1, qEQ0, qM0, qM1, qR, qN0, qMM, qNL1, qNL0, qNE1, qNE0, qB1, qB0, qOT, qOF, qGT, h68, z5, e1, o10]
    · obtain ⟨z1, z2, z3, z4⟩ := hC j (by omega)
      obtain ⟨T1, e1, e2, e3⟩ := c2 T hM z1 z2 z3 z4
      have hC1 : CMr k' F T1 := fun i hi => by
        obtain ⟨w1, w2, w3, w4⟩ := hC i hi
        exact ⟨by rw [e3.1 _ _ (by omega)]; exact w1, by rw [e3.1 _ _ (by omega)]; exact w2, fun h => by rw [e3.1 _ _ (by omega)]; exact w3 h, fun h => by rw [e3.1 _ _ (by omega)]; exact w4 h⟩
      obtain ⟨T2, g1, g2, g3⟩ := d2 T1 e2 hC1 (by rw [e3.1 _ _ (by omega)]; exact h29)
      refine ⟨T2, lp_go ?_ g1, g2, e3.tr g3⟩
      show X8_run_30 (nI x) (nI j) T = _
      unfold X8_run_30
      by_cases hy0 : y = 0
      · subst hy0
        simp (disch := omega) only [qlj, nI_add, pk_mul, qIX, qIN, qOB, qOL, qLE1, qLE0, qLT1, qLT0, qEQ1, qEQ0, qM0, qM1, qR, qN0, qMM, qNL1, qNL0, qNE1, qNE0, qB1, qB0, qOT, qOF, qGT, h29, e1]
      · have : y = 1 := by omega
        subst this
        simp (disch := omega) only [qlj, nI_add, pk_mul, qIX, qIN, qOB, qOL, qLE1, qLE0, qLT1, qLT0, qEQ1, qEQ0, qM0, qM1, qR, qN0, qMM, qNL1, qNL0, qNE1, qNE0, qB1, qB0, qOT, qOF, qGT, h29, e1, o10]
theorem ls34 {a b c : Int32} {S : St} (hI : Inv S) : ∃ S', LS_34 a b c S = some S' ∧ Inv S' := by
  obtain ⟨⟨r, hW, hR, hM⟩, ⟨n, nw, hH⟩, hL, hX⟩ := id hI
  obtain ⟨L, ch, t1, t2, t3, t4⟩ := id hX
  have hB : TB L ch := ⟨t1, fun k hk => (t4 k hk).2.2⟩
  have hT : TC L ch S := ⟨t2, fun k hk => (t4 k hk).1⟩
  obtain ⟨Sp, k', v, F, i1, i2, i3, i4, i5⟩ := parse_both hB hT
  unfold LS_34 L_run
  by_cases hv : v = -nI 1
  · subst hv
    obtain ⟨p1, p2⟩ := i4 rfl
    have hF : ∀ i, i < k' → (F i).1 < 7 ∧ (F i).2.1 ≤ 9999 ∧ (F i).2.2.1 ≤ 9999 ∧ (F i).2.2.2 ≤ 9999 := fun i hi => ⟨(p2 i hi).1, (p2 i hi).2.1, (p2 i hi).2.2.1, (p2 i hi).2.2.2.1⟩
    have hRp : RC r Sp := hR.cg (fun x y p q => i3.1 x y (by omega))
    have hMp : RM r (r.g 0) (r.g 2) Sp := hM.cg (fun y => i3.1 76 y (by omega))
    have hHp : HI n nw Sp := hH.cg (fun x y h => i3.1 x y (by omega))
    have hLp : LT Sp := hL.cg (fun x y h => i3.1 x y (by omega))
    have hXp : TX Sp := hX.cg (fun x y h => i3.1 x y (by omega))
    obtain ⟨S1, e1, e2, e3, e4, e5⟩ := c_save hRp hW hHp
    have hm := Nat.mod_lt (nw + 1) (show 0 < 8 by omega)
    have hR1 : RC r S1 := hRp.cg (fun x y p q => e5.1 x y (by omega))
    obtain ⟨r', y, hW', hy, c1, c2⟩ := run_all i2 hF k' 0 0 r rfl (Nat.zero_le _) (Nat.le_refl _) hW
    have hC1 : CMc k' F S1 := fun i hi => by
      obtain ⟨w1, w2, w3, w4, w5, w6, w7, w8⟩ := p2 i hi
      refine ⟨w1, w2, w3, w4, ?_, by rw [e5.1 _ _ (by omega)]; exact w6, fun h => by rw [e5.1 _ _ (by omega)]; exact w7 h, fun h => by rw [e5.1 _ _ (by omega)]; exact w8 h⟩
      show S1.2.2 70 i = _
      rw [e5.2]; exact w5
    obtain ⟨S2, g1, g2, g3⟩ := c1 S1 hR1 hC1 (by rw [e5.1 _ _ (by omega)]; exact p1)
    have gS : ∀ x y, ¬ ((x = 68 ∧ y = 4) ∨ x = 71) → ¬ (1 ≤ x ∧ x ≤ 6) → ¬ (8 ≤ x ∧ x ≤ 47) → gi S2 x y = gi S x y := fun x y a1 a2 a3 => by
      rw [g3.1 x y (by omega), e5.1 x y (by omega), i3.1 x y (by omega)]
    have hRT : TR L ch (sl S2 90 0 (nI y).toInt64) := ⟨by rw [qIL, gS _ _ (by omega) (by omega) (by omega)]; exact t3, fun k hk => by rw [qIL, gS _ _ (by omega) (by omega) (by omega)]; exact (t4 k hk).2.1⟩
    obtain ⟨Tr, j1, j2, j3⟩ := i5 _ hRT
    obtain ⟨q1, q2⟩ := j3 rfl
    have h75 : gi (si Tr 75 3 (nI 0)) 75 2 = nI n := by
      rw [qG0 (by omega), j2.1 75 2 (by unfold PFr; omega), qIL, gS _ _ (by omega) (by omega) (by omega)]; exact hH.2.2.2.2.1
    obtain ⟨T1, k0, k1, k2, k3, k4⟩ := r_keeps hH.1 h75
    have hMT : RMa 76 0 r T1 := by
      have : RM r (r.g 0) (r.g 2) T1 := hM.cg (fun b => by
        rw [k4.1 76 b (by omega), qG0 (by omega), j2.1 76 b (by unfold PFr; omega), qIL, gS _ _ (by omega) (by omega) (by omega)])
      exact this.a
    have hCT : CMr k' F T1 := fun i hi => by
      have g89 : ∀ z, gi T1 89 z = gi Tr 89 z := fun z => by rw [k4.1 89 z (by omega), qG0 (by omega)]
      rw [g89, g89, g89, g89]; exact q2 i hi
    obtain ⟨T2, d1, d2, d3⟩ := c2 T1 hMT hCT (by rw [k4.1 75 29 (by omega), qG0 (by omega)]; exact q1)
    obtain ⟨z1, z2, z3⟩ := inv_mod (v := (nI y).toInt64) (T0 := si Tr 75 3 (nI 0)) hW hMp hHp hLp hXp hW' e2 e3 e4 e5 g3 g2 (fun x z p q => by rw [qG0 (by omega), j2.1 x z (by unfold PFr; omega), qIL]) (qG1 rfl rfl) (by rw [qGS, j2.gl, qGL]) k1 k2 k3 k4 d3 d2
    refine ⟨T2, ls_ok (v := nI y) (S1 := S2) ?_ ?_ z2 z3, z1⟩
    · unfold X7_run; simp (disch := omega) only [qlj, nI_add, pk_mul, qIX, qIN, qOB, qOL, qLE1, qLE0, qLT1, qLT0, qEQ1, qEQ0, qM0, qM1, qR, qN0, qMM, qNL1, qNL0, qNE1, qNE0, qB1, qB0, qOT, qOF, qGT, i1, e1, g1]
    · unfold X8_run X8_run_14; simp (disch := omega) only [qlj, nI_add, pk_mul, qIX, qIN, qOB, qOL, qLE1, qLE0, qLT1, qLT0, qEQ1, qEQ0, qM0, qM1, qR, qN0, qMM, qNL1, qNL0, qNE1, qNE0, qB1, qB0, qOT, qOF, qGT, j1, f_r0, k0, d1]
  · have hRT : TR L ch Sp := ⟨by rw [i3.1 75 27 (by omega)]; exact t3, fun k hk => by rw [i3.1 88 k (by omega)]; exact (t4 k hk).2.1⟩
    obtain ⟨Tr, j1, j2, j3⟩ := i5 _ hRT
    have hvn : ∀ {α : Type} (x y : Option α), oi (v = -nI 1) x y = y := fun x y => if_neg hv
    refine ⟨si Tr 75 3 (nI 1), ls_no (e := 1) (k := 1) (r2 := nI 0) (S1 := Sp) ?_ rfl ?_ (qG1 rfl rfl) (by omega) (by omega), hI.fx (fun x y h => ?_)⟩
    · unfold X7_run; simp (disch := omega) only [qlj, nI_add, pk_mul, qIX, qIN, qOB, qOL, qLE1, qLE0, qLT1, qLT0, qEQ1, qEQ0, qM0, qM1, qR, qN0, qMM, qNL1, qNL0, qNE1, qNE0, qB1, qB0, qOT, qOF, qGT, i1, hvn]
    · unfold X8_run X8_run_14; simp (disch := omega) only [qlj, nI_add, pk_mul, qIX, qIN, qOB, qOL, qLE1, qLE0, qLT1, qLT0, qEQ1, qEQ0, qM0, qM1, qR, qN0, qMM, qNL1, qNL0, qNE1, qNE0, qB1, qB0, qOT, qOF, qGT, j1, hvn, f_r1, o10]
    · unfold PX PFr at h
      rw [qG0 (by omega), j2.1 x y (by unfold PFr; omega), i3.1 x y (by omega)]
