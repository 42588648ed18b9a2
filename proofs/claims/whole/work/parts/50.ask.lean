/-! ===== the questions of a run ===== -/
theorem f_r0 {S : St} : X8_refuses (nI 0) S = some (nI 0, si S 75 3 (nI 0)) := by rw [f_ref (by omega)]; rfl
theorem f_r1 {S : St} : X8_refuses (nI 1) S = some (nI 1, si S 75 3 (nI 1)) := by rw [f_ref (by omega)]; rfl
theorem f_r2 {S : St} : X8_refuses (nI 2) S = some (nI 1, si S 75 3 (nI 2)) := by rw [f_ref (by omega)]; rfl
theorem f_r3 {S : St} : X8_refuses (nI 3) S = some (nI 1, si S 75 3 (nI 3)) := by rw [f_ref (by omega)]; rfl
theorem o10 {α : Type} {x y : Option α} : oi (nI 1 = nI 0) x y = y := if_neg (by decide)
theorem o00 {α : Type} {x y : Option α} : oi (nI 0 = nI 0) x y = x := if_pos rfl
theorem ls_q {A : Option ((Int32 ⊕ Nat) × St)} {g : Nat → St → Option (Int32 × St)} {X : St → Option (Int32 × St)} {v : Int32} {S S1 S2 : St} {P : Nat → Nat → Prop} (hI : Inv S) (h1 : A = some (.inl v, S1)) (q1 : FQ S S1) (h2 : X (sl S1 90 0 v.toInt64) = some (v, S2)) (q2 : Fr P (si (sl S1 90 0 v.toInt64) 75 3 (nI 0)) S2) (hP3 : ¬ P 75 3) (hPQ : ∀ a b, P a b → PQ a b) : ∃ S', ob (ow A (fun v S2 => ol (sl S2 90 0 v.toInt64) (fun T => some ((0 : Int32), T))) g) (fun k1 S1 => ob (X S1) (fun r2 S2 => ob (X8_thrown S2) (fun r3 S3 => og (r3 = k1) (oi (k1 = 0) (og (lg_cmp (gl S3 90 0) r2.toInt64 = 0) (some S3)) (some S3))))) = some S' ∧ Inv S' := by
  refine ⟨S2, ls_ok h1 h2 ?_ ?_, hI.fq ((q1.sl.s3).tr (FQ.fr q2 hPQ))⟩
  · rw [q2.1 75 3 hP3]; exact qG1 rfl rfl
  · rw [q2.gl, qGS, qGL]
theorem ls_f {A : Option ((Int32 ⊕ Nat) × St)} {g : Nat → St → Option (Int32 × St)} {f : Int32 → St → Option (Int32 × St)} {X : St → Option (Int32 × St)} {e k : Nat} {r2 : Int32} {S : St} (hI : Inv S) (h1 : A = some (.inr e, S)) (hg : g e S = some (nI k, S)) (h2 : X S = some (r2, si S 75 3 (nI k))) (hk : 1 ≤ k) (hk2 : k ≤ 3) : ∃ S', ob (ow A f g) (fun k1 S1 => ob (X S1) (fun r2 S2 => ob (X8_thrown S2) (fun r3 S3 => og (r3 = k1) (oi (k1 = 0) (og (lg_cmp (gl S3 90 0) r2.toInt64 = 0) (some S3)) (some S3))))) = some S' ∧ Inv S' :=
  ⟨_, ls_no h1 hg h2 (qG1 rfl rfl) hk hk2, hI.fq FQ.rf.s3⟩
theorem pq_c {a b : Nat} (h : PCw 58 a b) : PQ a b := by unfold PCw at h; unfold PQ; omega
theorem pq_cw {a b : Nat} (h : PCw 58 a b ∨ a = 72) : PQ a b := by unfold PCw at h; unfold PQ; omega
theorem pq_r {a b : Nat} (h : PRw a b) : PQ a b := by unfold PRw at h; unfold PQ; omega
theorem pq_rw {a b : Nat} (h : PRw a b ∨ a = 86) : PQ a b := by unfold PRw at h; unfold PQ; omega
theorem pq_s {a b : Nat} (h : PRs a b) : PQ a b := by unfold PRs PRw at h; unfold PQ; omega
theorem n3 : ¬ PRw 75 3 := by unfold PRw; omega
theorem n3w : ¬ (PRw 75 3 ∨ 75 = 86) := by unfold PRw; omega
theorem n3s : ¬ PRs 75 3 := by unfold PRs PRw; omega
theorem ls18 {a b c : Int32} {S : St} (hI : Inv S) : ∃ S', LS_18 a b c S = some S' ∧ Inv S' := by
  obtain ⟨⟨r, hW, hR, hM⟩, -⟩ := id hI
  have hg0 := hW.2.2.2.1
  have hg2 := hW.2.2.2.2.2.1
  unfold LS_18 L_worth
  rcases f_set a with ⟨s, hs, rfl, h1, h2⟩ | ⟨h1, h2⟩
  · obtain ⟨S1, e1, e2⟩ := c_worthOf (v := 6) hW hR hs
    have e1' : X7_worthOf (nI s) (-nI 1) S = some (nI (qw r (r.g 0) (r.g 2) s 6), S1) := e1
    have hM2 : RM r (r.g 0) (r.g 2) (si (sl S1 90 0 (nI (qw r (r.g 0) (r.g 2) s 6)).toInt64) 75 3 (nI 0)) := hM.cg (fun b => e2.1 76 b (by unfold PCw; omega))
    obtain ⟨S2, f1, f2⟩ := r_worthOf (v := 6) hW hM2 hg0.2 hg2 hs
    have f1' : X8_worthOf (nI s) (-nI 1) (si (sl S1 90 0 (nI (qw r (r.g 0) (r.g 2) s 6)).toInt64) 75 3 (nI 0)) = some (nI (qw r (r.g 0) (r.g 2) s 6), S2) := f1
    refine ls_q hI (v := nI (qw r (r.g 0) (r.g 2) s 6)) (S1 := S1) ?_ (FQ.fr e2 (fun _ _ => pq_c)) ?_ f2 n3 (fun _ _ => pq_r)
    · unfold X7_worth; simp (disch := omega) only [qlj, nI_add, pk_mul, qIX, qIN, qOB, qOL, qLE1, qLE0, qLT1, qLT0, qEQ1, qEQ0, qM0, qM1, qR, qN0, qMM, qNL1, qNL0, qNE1, qNE0, qB1, qB0, qOT, qOF, qGT, h2, qOBX, e1']
    · unfold X8_worth X8_worth_16; simp (disch := omega) only [qlj, nI_add, pk_mul, qIX, qIN, qOB, qOL, qLE1, qLE0, qLT1, qLT0, qEQ1, qEQ0, qM0, qM1, qR, qN0, qMM, qNL1, qNL0, qNE1, qNE0, qB1, qB0, qOT, qOF, qGT, h1, o10, f_r0, f1']
  · refine ls_f hI (e := 1) (k := 1) (r2 := nI 0) ?_ rfl ?_ (by omega) (by omega)
    · unfold X7_worth; simp (disch := omega) only [qlj, nI_add, pk_mul, qIX, qIN, qOB, qOL, qLE1, qLE0, qLT1, qLT0, qEQ1, qEQ0, qM0, qM1, qR, qN0, qMM, qNL1, qNL0, qNE1, qNE0, qB1, qB0, qOT, qOF, qGT, h2, qOBE]
    · unfold X8_worth X8_worth_16; simp (disch := omega) only [qlj, nI_add, pk_mul, qIX, qIN, qOB, qOL, qLE1, qLE0, qLT1, qLT0, qEQ1, qEQ0, qM0, qM1, qR, qN0, qMM, qNL1, qNL0, qNE1, qNE0, qB1, qB0, qOT, qOF, qGT, h1, f_r1, o10]
theorem ls19 {a b c : Int32} {S : St} (hI : Inv S) : ∃ S', LS_19 a b c S = some S' ∧ Inv S' := by
  obtain ⟨⟨r, hW, hR, hM⟩, -⟩ := id hI
  have hg0 := hW.2.2.2.1
  have hg2 := hW.2.2.2.2.2.1
  unfold LS_19 L_worthFor
  rcases f_flow b with ⟨v, hv, rfl, k1, k2, k3⟩ | ⟨k1, k2, k3⟩
  · rcases f_set a with ⟨s, hs, rfl, h1, h2⟩ | ⟨h1, h2⟩
    · obtain ⟨S1, e1, e2⟩ := c_worthOf (v := v) hW hR hs
      have ev : qvi v = nI v := if_pos hv
      rw [ev] at e1
      have hM2 : RM r (r.g 0) (r.g 2) (si (sl S1 90 0 (nI (qw r (r.g 0) (r.g 2) s v)).toInt64) 75 3 (nI 0)) := hM.cg (fun b => e2.1 76 b (by unfold PCw; omega))
      obtain ⟨S2, f1, f2⟩ := r_worthOf (v := v) hW hM2 hg0.2 hg2 hs
      rw [ev] at f1
      refine ls_q hI (v := nI (qw r (r.g 0) (r.g 2) s v)) (S1 := S1) ?_ (FQ.fr e2 (fun _ _ => pq_c)) ?_ f2 n3 (fun _ _ => pq_r)
      · unfold X7_worthFor; simp (disch := omega) only [qlj, nI_add, pk_mul, qIX, qIN, qOB, qOL, qLE1, qLE0, qLT1, qLT0, qEQ1, qEQ0, qM0, qM1, qR, qN0, qMM, qNL1, qNL0, qNE1, qNE0, qB1, qB0, qOT, qOF, qGT, k3, h2, qOBX, e1]
      · unfold X8_worthFor X8_worthFor_27; simp (disch := omega) only [qlj, nI_add, pk_mul, qIX, qIN, qOB, qOL, qLE1, qLE0, qLT1, qLT0, qEQ1, qEQ0, qM0, qM1, qR, qN0, qMM, qNL1, qNL0, qNE1, qNE0, qB1, qB0, qOT, qOF, qGT, k1, h1, o10, f_r0, f1]
    · refine ls_f hI (e := 1) (k := 2) (r2 := nI 0) ?_ rfl ?_ (by omega) (by omega)
      · unfold X7_worthFor; simp (disch := omega) only [qlj, nI_add, pk_mul, qIX, qIN, qOB, qOL, qLE1, qLE0, qLT1, qLT0, qEQ1, qEQ0, qM0, qM1, qR, qN0, qMM, qNL1, qNL0, qNE1, qNE0, qB1, qB0, qOT, qOF, qGT, k3, h2, qOBX, qOBE]
      · unfold X8_worthFor X8_worthFor_27; simp (disch := omega) only [qlj, nI_add, pk_mul, qIX, qIN, qOB, qOL, qLE1, qLE0, qLT1, qLT0, qEQ1, qEQ0, qM0, qM1, qR, qN0, qMM, qNL1, qNL0, qNE1, qNE0, qB1, qB0, qOT, qOF, qGT, k1, h1, f_r2, o10]
  · refine ls_f hI (e := 0) (k := 1) (r2 := nI 0) ?_ rfl ?_ (by omega) (by omega)
    · unfold X7_worthFor; simp (disch := omega) only [qlj, nI_add, pk_mul, qIX, qIN, qOB, qOL, qLE1, qLE0, qLT1, qLT0, qEQ1, qEQ0, qM0, qM1, qR, qN0, qMM, qNL1, qNL0, qNE1, qNE0, qB1, qB0, qOT, qOF, qGT, k3, qOBX, qOBE]
    · unfold X8_worthFor X8_worthFor_27; simp (disch := omega) only [qlj, nI_add, pk_mul, qIX, qIN, qOB, qOL, qLE1, qLE0, qLT1, qLT0, qEQ1, qEQ0, qM0, qM1, qR, qN0, qMM, qNL1, qNL0, qNE1, qNE0, qB1, qB0, qOT, qOF, qGT, k1, f_r1, o10]
theorem ls20 {a b c : Int32} {S : St} (hI : Inv S) : ∃ S', LS_20 a b c S = some S' ∧ Inv S' := by
  obtain ⟨⟨r, hW, hR, hM⟩, -⟩ := id hI
  have hg0 := hW.2.2.2.1
  have hg2 := hW.2.2.2.2.2.1
  unfold LS_20 L_contribution
  rcases f_flow a with ⟨f, hf, rfl, k1, k2, k3⟩ | ⟨k1, k2, k3⟩
  · rcases f_set b with ⟨s, hs, rfl, h1, h2⟩ | ⟨h1, h2⟩
    · have hm := Nat.mod_lt (s / 2 ^ f) (show 0 < 2 by omega)
      have h64 := q_or64 hs hf
      have hp64 := q_p64 hf
      by_cases hb : s / 2 ^ f % 2 = 0
      · obtain ⟨S1, e1, e2⟩ := c_worthOf (v := 6) hW hR h64
        obtain ⟨S2, e3, e4⟩ := c_worthOf (v := 6) hW (hR.fw (by omega) e2) hs
        have e1' : X7_worthOf (nI (s ||| 2 ^ f)) (-nI 1) S = some (nI (qw r (r.g 0) (r.g 2) (s ||| 2 ^ f) 6), S1) := e1
        have e3' : X7_worthOf (nI s) (-nI 1) S1 = some (nI (qw r (r.g 0) (r.g 2) s 6), S2) := e3
        generalize hv : nI (qw r (r.g 0) (r.g 2) (s ||| 2 ^ f) 6) - nI (qw r (r.g 0) (r.g 2) s 6) = v
        have hM2 : RM r (r.g 0) (r.g 2) (si (sl S2 90 0 v.toInt64) 75 3 (nI 0)) := hM.cg (fun b => ((e2.tr e4).1 76 b (by unfold PCw; omega)))
        obtain ⟨S3, f1, f2⟩ := r_worthOf (v := 6) hW hM2 hg0.2 hg2 h64
        obtain ⟨S4, f3, f4⟩ := r_worthOf (v := 6) hW (hM2.fw f2) hg0.2 hg2 hs
        have f1' : X8_worthOf (nI (s ||| 2 ^ f)) (-nI 1) (si (sl S2 90 0 v.toInt64) 75 3 (nI 0)) = some (nI (qw r (r.g 0) (r.g 2) (s ||| 2 ^ f) 6), S3) := f1
        have f3' : X8_worthOf (nI s) (-nI 1) S3 = some (nI (qw r (r.g 0) (r.g 2) s 6), S4) := f3
        refine ls_q hI (v := v) (S1 := S2) ?_ (FQ.fr (e2.tr e4) (fun _ _ => pq_c)) ?_ (f2.tr f4) n3 (fun _ _ => pq_r)
        · unfold X7_contribution; simp (disch := omega) only [qlj, nI_add, pk_mul, qIX, qIN, qOB, qOL, qLE1, qLE0, qLT1, qLT0, qEQ1, qEQ0, qM0, qM1, qR, qN0, qMM, qNL1, qNL0, qNE1, qNE0, qB1, qB0, qOT, qOF, qGT, k3, h2, qOBX, c_contains hs hf, hb, q_shl hf, q_or, e1', e3', hv]
        · unfold X8_contribution X8_contribution_36 X8_contribution_37; simp (disch := omega) only [qlj, nI_add, pk_mul, qIX, qIN, qOB, qOL, qLE1, qLE0, qLT1, qLT0, qEQ1, qEQ0, qM0, qM1, qR, qN0, qMM, qNL1, qNL0, qNE1, qNE0, qB1, qB0, qOT, qOF, qGT, k1, h1, o10, q_bit hs hf, hb, f_r0, q_shl hf, q_or, f1', f3', hv]
      · refine ls_f hI (e := 1) (k := 2) (r2 := nI 0) ?_ rfl ?_ (by omega) (by omega)
        · unfold X7_contribution; simp (disch := omega) only [qlj, nI_add, pk_mul, qIX, qIN, qOB, qOL, qLE1, qLE0, qLT1, qLT0, qEQ1, qEQ0, qM0, qM1, qR, qN0, qMM, qNL1, qNL0, qNE1, qNE0, qB1, qB0, qOT, qOF, qGT, k3, h2, qOBX, qOBE, c_contains hs hf]
        · unfold X8_contribution X8_contribution_36 X8_contribution_37; simp (disch := omega) only [qlj, nI_add, pk_mul, qIX, qIN, qOB, qOL, qLE1, qLE0, qLT1, qLT0, qEQ1, qEQ0, qM0, qM1, qR, qN0, qMM, qNL1, qNL0, qNE1, qNE0, qB1, qB0, qOT, qOF, qGT, k1, h1, o10, q_bit hs hf, f_r2]
    · refine ls_f hI (e := 1) (k := 2) (r2 := nI 0) ?_ rfl ?_ (by omega) (by omega)
      · unfold X7_contribution; simp (disch := omega) only [qlj, nI_add, pk_mul, qIX, qIN, qOB, qOL, qLE1, qLE0, qLT1, qLT0, qEQ1, qEQ0, qM0, qM1, qR, qN0, qMM, qNL1, qNL0, qNE1, qNE0, qB1, qB0, qOT, qOF, qGT, k3, h2, qOBX, qOBE]
      · unfold X8_contribution X8_contribution_36 X8_contribution_37; simp (disch := omega) only [qlj, nI_add, pk_mul, qIX, qIN, qOB, qOL, qLE1, qLE0, qLT1, qLT0, qEQ1, qEQ0, qM0, qM1, qR, qN0, qMM, qNL1, qNL0, qNE1, qNE0, qB1, qB0, qOT, qOF, qGT, k1, h1, f_r2, o10]
  · refine ls_f hI (e := 0) (k := 1) (r2 := nI 0) ?_ rfl ?_ (by omega) (by omega)
    · unfold X7_contribution; simp (disch := omega) only [qlj, nI_add, pk_mul, qIX, qIN, qOB, qOL, qLE1, qLE0, qLT1, qLT0, qEQ1, qEQ0, qM0, qM1, qR, qN0, qMM, qNL1, qNL0, qNE1, qNE0, qB1, qB0, qOT, qOF, qGT, k3, qOBX, qOBE]
    · unfold X8_contribution X8_contribution_36 X8_contribution_37; simp (disch := omega) only [qlj, nI_add, pk_mul, qIX, qIN, qOB, qOL, qLE1, qLE0, qLT1, qLT0, qEQ1, qEQ0, qM0, qM1, qR, qN0, qMM, qNL1, qNL0, qNE1, qNE0, qB1, qB0, qOT, qOF, qGT, k1, f_r1, o10]
theorem q_720 : (720 : Int64) = lN 720 := rfl
theorem q_32 : (32 : Int64) = lN 32 := rfl
theorem q_16 : (16 : Int64) = lN 16 := rfl
theorem ls21 {a b c : Int32} {S : St} (hI : Inv S) : ∃ S', LS_21 a b c S = some S' ∧ Inv S' := by
  obtain ⟨⟨r, hW, hR, hM⟩, -⟩ := id hI
  have hg0 := hW.2.2.2.1
  have hg2 := hW.2.2.2.2.2.1
  unfold LS_21 L_blame
  rcases f_flow a with ⟨f, hf, rfl, k1, k2, k3⟩ | ⟨k1, k2, k3⟩
  · rcases f_part b with ⟨y, hy, rfl, h1, h2⟩ | ⟨h1, h2⟩
    · obtain ⟨S1, e1, e2, e3⟩ := c_fill (v := 6) hW hR
      have e1' : X7_fillWorths (-nI 1) S = some ((), S1) := e1
      have hbd := qV_bd (y := 1) (i := 64) (W := fun s => qw r (r.g 0) (r.g 2) s 6) (f := f) (fun s _ => qw_le hW) hf (Nat.le_refl _)
      have ho := c_orders (W := fun s => qw r (r.g 0) (r.g 2) s 6) e2 hf
      have hp := c_part (S := S1) (d := 720) hbd.1 hbd.2 (by omega) (by omega) hy
      generalize hv : qpt (qsI (qct (fun s => qw r (r.g 0) (r.g 2) s 6) (qo 1) f) 64) 720 y = v at hp
      have hM2 : RM r (r.g 0) (r.g 2) (si (sl S1 90 0 v.toInt64) 75 3 (nI 0)) := hM.cg (fun b => e3.1 76 b (by unfold PCw; omega))
      obtain ⟨S2, f1, f2, f3⟩ := r_weigh (v := 6) hW hM2 hg0.2 hg2
      have f1' : X8_weighsAll (-nI 1) (si (sl S1 90 0 v.toInt64) 75 3 (nI 0)) = some ((), S2) := f1
      have hc := r_contr (y := 1) (W := fun s => qw r (r.g 0) (r.g 2) s 6) f2 (fun s _ => qw_le hW) hf (by omega)
      have hq := r_part (S := S2) (d := 720) hbd.1 hbd.2 (by omega) (by omega) hy
      rw [hv] at hq
      refine ls_q hI (v := v) (S1 := S1) ?_ (FQ.fr e3 (fun _ _ => pq_cw)) ?_ f3 n3w (fun _ _ => pq_rw)
      · unfold X7_blame; simp (disch := omega) only [qlj, nI_add, pk_mul, qIX, qIN, qOB, qOL, qLE1, qLE0, qLT1, qLT0, qEQ1, qEQ0, qM0, qM1, qR, qN0, qMM, qNL1, qNL0, qNE1, qNE0, qB1, qB0, qOT, qOF, qGT, k3, h2, qOBX, e1', ho, qV, hp]
      · unfold X8_blame X8_blame_26; simp (disch := omega) only [qlj, nI_add, pk_mul, qIX, qIN, qOB, qOL, qLE1, qLE0, qLT1, qLT0, qEQ1, qEQ0, qM0, qM1, qR, qN0, qMM, qNL1, qNL0, qNE1, qNE0, qB1, qB0, qOT, qOF, qGT, k1, h1, o10, f_r0, f1', hc, qV, q_720, hq]
    · refine ls_f hI (e := 1) (k := 2) (r2 := nI 0) ?_ rfl ?_ (by omega) (by omega)
      · unfold X7_blame; simp (disch := omega) only [qlj, nI_add, pk_mul, qIX, qIN, qOB, qOL, qLE1, qLE0, qLT1, qLT0, qEQ1, qEQ0, qM0, qM1, qR, qN0, qMM, qNL1, qNL0, qNE1, qNE0, qB1, qB0, qOT, qOF, qGT, k3, h2, qOBX, qOBE]
      · unfold X8_blame X8_blame_26; simp (disch := omega) only [qlj, nI_add, pk_mul, qIX, qIN, qOB, qOL, qLE1, qLE0, qLT1, qLT0, qEQ1, qEQ0, qM0, qM1, qR, qN0, qMM, qNL1, qNL0, qNE1, qNE0, qB1, qB0, qOT, qOF, qGT, k1, h1, f_r2, o10]
  · refine ls_f hI (e := 0) (k := 1) (r2 := nI 0) ?_ rfl ?_ (by omega) (by omega)
    · unfold X7_blame; simp (disch := omega) only [qlj, nI_add, pk_mul, qIX, qIN, qOB, qOL, qLE1, qLE0, qLT1, qLT0, qEQ1, qEQ0, qM0, qM1, qR, qN0, qMM, qNL1, qNL0, qNE1, qNE0, qB1, qB0, qOT, qOF, qGT, k3, qOBX, qOBE]
    · unfold X8_blame X8_blame_26; simp (disch := omega) only [qlj, nI_add, pk_mul, qIX, qIN, qOB, qOL, qLE1, qLE0, qLT1, qLT0, qEQ1, qEQ0, qM0, qM1, qR, qN0, qMM, qNL1, qNL0, qNE1, qNE0, qB1, qB0, qOT, qOF, qGT, k1, f_r1, o10]
theorem ls22 {a b c : Int32} {S : St} (hI : Inv S) : ∃ S', LS_22 a b c S = some S' ∧ Inv S' := by
  obtain ⟨⟨r, hW, hR, hM⟩, -⟩ := id hI
  have hg0 := hW.2.2.2.1
  have hg2 := hW.2.2.2.2.2.1
  unfold LS_22 L_blameFor
  rcases f_flow a with ⟨f, hf, rfl, k1, k2, k3⟩ | ⟨k1, k2, k3⟩
  · rcases f_flow b with ⟨u, hu, rfl, l1, l2, l3⟩ | ⟨l1, l2, l3⟩
    · rcases f_part c with ⟨y, hy, rfl, h1, h2⟩ | ⟨h1, h2⟩
      · obtain ⟨S1, e1, e2, e3⟩ := c_fill (v := u) hW hR
        have ev : qvi u = nI u := if_pos hu
        rw [ev] at e1
        have hbd := qV_bd (y := 1) (i := 64) (W := fun s => qw r (r.g 0) (r.g 2) s u) (f := f) (fun s _ => qw_le hW) hf (Nat.le_refl _)
        have ho := c_orders (W := fun s => qw r (r.g 0) (r.g 2) s u) e2 hf
        have hp := c_part (S := S1) (d := 720) hbd.1 hbd.2 (by omega) (by omega) hy
        generalize hv : qpt (qsI (qct (fun s => qw r (r.g 0) (r.g 2) s u) (qo 1) f) 64) 720 y = v at hp
        have hM2 : RM r (r.g 0) (r.g 2) (si (sl S1 90 0 v.toInt64) 75 3 (nI 0)) := hM.cg (fun b => e3.1 76 b (by unfold PCw; omega))
        obtain ⟨S2, f1, f2, f3⟩ := r_weigh (v := u) hW hM2 hg0.2 hg2
        rw [ev] at f1
        have hc := r_contr (y := 1) (W := fun s => qw r (r.g 0) (r.g 2) s u) f2 (fun s _ => qw_le hW) hf (by omega)
        have hq := r_part (S := S2) (d := 720) hbd.1 hbd.2 (by omega) (by omega) hy
        rw [hv] at hq
        refine ls_q hI (v := v) (S1 := S1) ?_ (FQ.fr e3 (fun _ _ => pq_cw)) ?_ f3 n3w (fun _ _ => pq_rw)
        · unfold X7_blameFor; simp (disch := omega) only [qlj, nI_add, pk_mul, qIX, qIN, qOB, qOL, qLE1, qLE0, qLT1, qLT0, qEQ1, qEQ0, qM0, qM1, qR, qN0, qMM, qNL1, qNL0, qNE1, qNE0, qB1, qB0, qOT, qOF, qGT, k3, l3, h2, qOBX, e1, ho, qV, hp]
        · unfold X8_blameFor X8_blameFor_15 X8_blameFor_33; simp (disch := omega) only [qlj, nI_add, pk_mul, qIX, qIN, qOB, qOL, qLE1, qLE0, qLT1, qLT0, qEQ1, qEQ0, qM0, qM1, qR, qN0, qMM, qNL1, qNL0, qNE1, qNE0, qB1, qB0, qOT, qOF, qGT, k1, l1, h1, o10, f_r0, f1, hc, qV, q_720, hq]
      · refine ls_f hI (e := 1) (k := 2) (r2 := nI 0) ?_ rfl ?_ (by omega) (by omega)
        · unfold X7_blameFor; simp (disch := omega) only [qlj, nI_add, pk_mul, qIX, qIN, qOB, qOL, qLE1, qLE0, qLT1, qLT0, qEQ1, qEQ0, qM0, qM1, qR, qN0, qMM, qNL1, qNL0, qNE1, qNE0, qB1, qB0, qOT, qOF, qGT, k3, l3, h2, qOBX, qOBE]
        · unfold X8_blameFor X8_blameFor_15 X8_blameFor_33; simp (disch := omega) only [qlj, nI_add, pk_mul, qIX, qIN, qOB, qOL, qLE1, qLE0, qLT1, qLT0, qEQ1, qEQ0, qM0, qM1, qR, qN0, qMM, qNL1, qNL0, qNE1, qNE0, qB1, qB0, qOT, qOF, qGT, k1, l1, h1, f_r2, o10]
    · refine ls_f hI (e := 0) (k := 1) (r2 := nI 0) ?_ rfl ?_ (by omega) (by omega)
      · unfold X7_blameFor; simp (disch := omega) only [qlj, nI_add, pk_mul, qIX, qIN, qOB, qOL, qLE1, qLE0, qLT1, qLT0, qEQ1, qEQ0, qM0, qM1, qR, qN0, qMM, qNL1, qNL0, qNE1, qNE0, qB1, qB0, qOT, qOF, qGT, k3, l3, qOBX, qOBE]
      · unfold X8_blameFor X8_blameFor_15 X8_blameFor_33; simp (disch := omega) only [qlj, nI_add, pk_mul, qIX, qIN, qOB, qOL, qLE1, qLE0, qLT1, qLT0, qEQ1, qEQ0, qM0, qM1, qR, qN0, qMM, qNL1, qNL0, qNE1, qNE0, qB1, qB0, qOT, qOF, qGT, k1, l1, f_r1, o10]
  · refine ls_f hI (e := 0) (k := 1) (r2 := nI 0) ?_ rfl ?_ (by omega) (by omega)
    · unfold X7_blameFor; simp (disch := omega) only [qlj, nI_add, pk_mul, qIX, qIN, qOB, qOL, qLE1, qLE0, qLT1, qLT0, qEQ1, qEQ0, qM0, qM1, qR, qN0, qMM, qNL1, qNL0, qNE1, qNE0, qB1, qB0, qOT, qOF, qGT, k3, qOBX, qOBE]
    · unfold X8_blameFor X8_blameFor_15 X8_blameFor_33; simp (disch := omega) only [qlj, nI_add, pk_mul, qIX, qIN, qOB, qOL, qLE1, qLE0, qLT1, qLT0, qEQ1, qEQ0, qM0, qM1, qR, qN0, qMM, qNL1, qNL0, qNE1, qNE0, qB1, qB0, qOT, qOF, qGT, k1, f_r1, o10]
theorem ls23 {a b c : Int32} {S : St} (hI : Inv S) : ∃ S', LS_23 a b c S = some S' ∧ Inv S' := by
  obtain ⟨⟨r, hW, hR, hM⟩, -⟩ := id hI
  have hg0 := hW.2.2.2.1
  have hg2 := hW.2.2.2.2.2.1
  unfold LS_23 L_index
  rcases f_flow a with ⟨f, hf, rfl, k1, k2, k3⟩ | ⟨k1, k2, k3⟩
  · rcases f_part b with ⟨y, hy, rfl, h1, h2⟩ | ⟨h1, h2⟩
    · obtain ⟨S1, e1, e2, e3⟩ := c_fill (v := 6) hW hR
      have e1' : X7_fillWorths (-nI 1) S = some ((), S1) := e1
      have hbd := qV_bd (y := 0) (i := 64) (W := fun s => qw r (r.g 0) (r.g 2) s 6) (f := f) (fun s _ => qw_le hW) hf (Nat.le_refl _)
      have ho := c_sets (W := fun s => qw r (r.g 0) (r.g 2) s 6) e2 hf
      have hp := c_part (S := S1) (d := 32) hbd.1 hbd.2 (by omega) (by omega) hy
      generalize hv : qpt (qsI (qct (fun s => qw r (r.g 0) (r.g 2) s 6) (qo 0) f) 64) 32 y = v at hp
      have hM2 : RM r (r.g 0) (r.g 2) (si (sl S1 90 0 v.toInt64) 75 3 (nI 0)) := hM.cg (fun b => e3.1 76 b (by unfold PCw; omega))
      obtain ⟨S2, f1, f2, f3⟩ := r_weigh (v := 6) hW hM2 hg0.2 hg2
      have f1' : X8_weighsAll (-nI 1) (si (sl S1 90 0 v.toInt64) 75 3 (nI 0)) = some ((), S2) := f1
      have hc := r_contr (y := 0) (W := fun s => qw r (r.g 0) (r.g 2) s 6) f2 (fun s _ => qw_le hW) hf (by omega)
      have hq := r_part (S := S2) (d := 32) hbd.1 hbd.2 (by omega) (by omega) hy
      rw [hv] at hq
      refine ls_q hI (v := v) (S1 := S1) ?_ (FQ.fr e3 (fun _ _ => pq_cw)) ?_ f3 n3w (fun _ _ => pq_rw)
      · unfold X7_index; simp (disch := omega) only [qlj, nI_add, pk_mul, qIX, qIN, qOB, qOL, qLE1, qLE0, qLT1, qLT0, qEQ1, qEQ0, qM0, qM1, qR, qN0, qMM, qNL1, qNL0, qNE1, qNE0, qB1, qB0, qOT, qOF, qGT, k3, h2, qOBX, e1', ho, qV, hp]
      · unfold X8_index X8_index_26; simp (disch := omega) only [qlj, nI_add, pk_mul, qIX, qIN, qOB, qOL, qLE1, qLE0, qLT1, qLT0, qEQ1, qEQ0, qM0, qM1, qR, qN0, qMM, qNL1, qNL0, qNE1, qNE0, qB1, qB0, qOT, qOF, qGT, k1, h1, o10, f_r0, f1', hc, qV, q_32, hq]
    · refine ls_f hI (e := 1) (k := 2) (r2 := nI 0) ?_ rfl ?_ (by omega) (by omega)
      · unfold X7_index; simp (disch := omega) only [qlj, nI_add, pk_mul, qIX, qIN, qOB, qOL, qLE1, qLE0, qLT1, qLT0, qEQ1, qEQ0, qM0, qM1, qR, qN0, qMM, qNL1, qNL0, qNE1, qNE0, qB1, qB0, qOT, qOF, qGT, k3, h2, qOBX, qOBE]
      · unfold X8_index X8_index_26; simp (disch := omega) only [qlj, nI_add, pk_mul, qIX, qIN, qOB, qOL, qLE1, qLE0, qLT1, qLT0, qEQ1, qEQ0, qM0, qM1, qR, qN0, qMM, qNL1, qNL0, qNE1, qNE0, qB1, qB0, qOT, qOF, qGT, k1, h1, f_r2, o10]
  · refine ls_f hI (e := 0) (k := 1) (r2 := nI 0) ?_ rfl ?_ (by omega) (by omega)
    · unfold X7_index; simp (disch := omega) only [qlj, nI_add, pk_mul, qIX, qIN, qOB, qOL, qLE1, qLE0, qLT1, qLT0, qEQ1, qEQ0, qM0, qM1, qR, qN0, qMM, qNL1, qNL0, qNE1, qNE0, qB1, qB0, qOT, qOF, qGT, k3, qOBX, qOBE]
    · unfold X8_index X8_index_26; simp (disch := omega) only [qlj, nI_add, pk_mul, qIX, qIN, qOB, qOL, qLE1, qLE0, qLT1, qLT0, qEQ1, qEQ0, qM0, qM1, qR, qN0, qMM, qNL1, qNL0, qNE1, qNE0, qB1, qB0, qOT, qOF, qGT, k1, f_r1, o10]
theorem ls24 {a b c : Int32} {S : St} (hI : Inv S) : ∃ S', LS_24 a b c S = some S' ∧ Inv S' := by
  obtain ⟨⟨r, hW, hR, hM⟩, -⟩ := id hI
  have hg0 := hW.2.2.2.1
  have hg2 := hW.2.2.2.2.2.1
  unfold LS_24 L_interaction
  rcases f_flow a with ⟨f, hf, rfl, k1, k2, k3⟩ | ⟨k1, k2, k3⟩
  · rcases f_flow b with ⟨u, hu, rfl, l1, l2, l3⟩ | ⟨l1, l2, l3⟩
    · by_cases hfu : f = u
      · refine ls_f hI (e := 1) (k := 2) (r2 := nI 0) ?_ rfl ?_ (by omega) (by omega)
        · unfold X7_interaction; simp (disch := omega) only [qlj, nI_add, pk_mul, qIX, qIN, qOB, qOL, qLE1, qLE0, qLT1, qLT0, qEQ1, qEQ0, qM0, qM1, qR, qN0, qMM, qNL1, qNL0, qNE1, qNE0, qB1, qB0, qOT, qOF, qGT, k3, l3, qOBX, qOBE]
        · unfold X8_interaction X8_interaction_15 X8_interaction_33 X8_interaction_38; simp (disch := omega) only [qlj, nI_add, pk_mul, qIX, qIN, qOB, qOL, qLE1, qLE0, qLT1, qLT0, qEQ1, qEQ0, qM0, qM1, qR, qN0, qMM, qNL1, qNL0, qNE1, qNE0, qB1, qB0, qOT, qOF, qGT, k1, l1, f_r2, o10]
      · rcases f_part c with ⟨y, hy, rfl, h1, h2⟩ | ⟨h1, h2⟩
        · obtain ⟨S1, e1, e2, e3⟩ := c_fill (v := 6) hW hR
          have e1' : X7_fillWorths (-nI 1) S = some ((), S1) := e1
          have hbd := qU_bd (W := fun s => qw r (r.g 0) (r.g 2) s 6) (a := f) (b := u) (fun s _ => qw_le hW) hf hu
          have ho := c_inter (W := fun s => qw r (r.g 0) (r.g 2) s 6) e2 hf hu
          have hp := c_part (S := S1) (d := 16) hbd.1 hbd.2 (by omega) (by omega) hy
          generalize hv : qpt (qU (fun s => qw r (r.g 0) (r.g 2) s 6) f u) 16 y = v at hp
          have hM2 : RM r (r.g 0) (r.g 2) (si (sl S1 90 0 v.toInt64) 75 3 (nI 0)) := hM.cg (fun b => e3.1 76 b (by unfold PCw; omega))
          obtain ⟨S2, f1, f2, f3⟩ := r_weigh (v := 6) hW hM2 hg0.2 hg2
          have f1' : X8_weighsAll (-nI 1) (si (sl S1 90 0 v.toInt64) 75 3 (nI 0)) = some ((), S2) := f1
          have hc := r_inter (x3 := nI y) (W := fun s => qw r (r.g 0) (r.g 2) s 6) f2 (fun s _ => qw_le hW) hf hu
          have hc' : X8_interaction_67L (nI y) (nI (2 ^ f)) (nI (2 ^ u)) (0, nI 0) S2 = some (jL (qU (fun s => qw r (r.g 0) (r.g 2) s 6) f u), S2) := hc
          have hq := r_part (S := S2) (d := 16) hbd.1 hbd.2 (by omega) (by omega) hy
          rw [hv] at hq
          refine ls_q hI (v := v) (S1 := S1) ?_ (FQ.fr e3 (fun _ _ => pq_cw)) ?_ f3 n3w (fun _ _ => pq_rw)
          · unfold X7_interaction; simp (disch := omega) only [qlj, nI_add, pk_mul, qIX, qIN, qOB, qOL, qLE1, qLE0, qLT1, qLT0, qEQ1, qEQ0, qM0, qM1, qR, qN0, qMM, qNL1, qNL0, qNE1, qNE0, qB1, qB0, qOT, qOF, qGT, k3, l3, h2, qOBX, e1', ho, hp]
          · unfold X8_interaction X8_interaction_15 X8_interaction_33 X8_interaction_38; simp (disch := omega) only [qlj, nI_add, pk_mul, qIX, qIN, qOB, qOL, qLE1, qLE0, qLT1, qLT0, qEQ1, qEQ0, qM0, qM1, qR, qN0, qMM, qNL1, qNL0, qNE1, qNE0, qB1, qB0, qOT, qOF, qGT, k1, l1, h1, o10, f_r0, f1', q_shl hf, q_shl hu, hc', q_16, hq]
        · refine ls_f hI (e := 1) (k := 2) (r2 := nI 0) ?_ rfl ?_ (by omega) (by omega)
          · unfold X7_interaction; simp (disch := omega) only [qlj, nI_add, pk_mul, qIX, qIN, qOB, qOL, qLE1, qLE0, qLT1, qLT0, qEQ1, qEQ0, qM0, qM1, qR, qN0, qMM, qNL1, qNL0, qNE1, qNE0, qB1, qB0, qOT, qOF, qGT, k3, l3, h2, qOBX, qOBE]
          · unfold X8_interaction X8_interaction_15 X8_interaction_33 X8_interaction_38; simp (disch := omega) only [qlj, nI_add, pk_mul, qIX, qIN, qOB, qOL, qLE1, qLE0, qLT1, qLT0, qEQ1, qEQ0, qM0, qM1, qR, qN0, qMM, qNL1, qNL0, qNE1, qNE0, qB1, qB0, qOT, qOF, qGT, k1, l1, h1, f_r2, o10]
    · refine ls_f hI (e := 0) (k := 1) (r2 := nI 0) ?_ rfl ?_ (by omega) (by omega)
      · unfold X7_interaction; simp (disch := omega) only [qlj, nI_add, pk_mul, qIX, qIN, qOB, qOL, qLE1, qLE0, qLT1, qLT0, qEQ1, qEQ0, qM0, qM1, qR, qN0, qMM, qNL1, qNL0, qNE1, qNE0, qB1, qB0, qOT, qOF, qGT, k3, l3, qOBX, qOBE]
      · unfold X8_interaction X8_interaction_15 X8_interaction_33 X8_interaction_38; simp (disch := omega) only [qlj, nI_add, pk_mul, qIX, qIN, qOB, qOL, qLE1, qLE0, qLT1, qLT0, qEQ1, qEQ0, qM0, qM1, qR, qN0, qMM, qNL1, qNL0, qNE1, qNE0, qB1, qB0, qOT, qOF, qGT, k1, l1, f_r1, o10]
  · refine ls_f hI (e := 0) (k := 1) (r2 := nI 0) ?_ rfl ?_ (by omega) (by omega)
    · unfold X7_interaction; simp (disch := omega) only [qlj, nI_add, pk_mul, qIX, qIN, qOB, qOL, qLE1, qLE0, qLT1, qLT0, qEQ1, qEQ0, qM0, qM1, qR, qN0, qMM, qNL1, qNL0, qNE1, qNE0, qB1, qB0, qOT, qOF, qGT, k3, qOBX, qOBE]
    · unfold X8_interaction X8_interaction_15 X8_interaction_33 X8_interaction_38; simp (disch := omega) only [qlj, nI_add, pk_mul, qIX, qIN, qOB, qOL, qLE1, qLE0, qLT1, qLT0, qEQ1, qEQ0, qM0, qM1, qR, qN0, qMM, qNL1, qNL0, qNE1, qNE0, qB1, qB0, qOT, qOF, qGT, k1, f_r1, o10]
theorem ls25 {a b c : Int32} {S : St} (hI : Inv S) : ∃ S', LS_25 a b c S = some S' ∧ Inv S' := by
  obtain ⟨⟨r, hW, hR, hM⟩, -⟩ := id hI
  have hg0 := hW.2.2.2.1
  have hg2 := hW.2.2.2.2.2.1
  unfold LS_25 L_ranked
  rcases f_flow a with ⟨k, hk, rfl, k1, k2, k3⟩ | ⟨k1, k2, k3⟩
  · obtain ⟨S1, e1, e2, e3⟩ := c_fill (v := 6) hW hR
    have e1' : X7_fillWorths (-nI 1) S = some ((), S1) := e1
    obtain ⟨S2, S3, g1, g2, g3⟩ := c_ranked (W := fun s => qw r (r.g 0) (r.g 2) s 6) e2 (fun s _ => qw_le hW) hk
    generalize hv : nI (qrl (qV (fun s => qw r (r.g 0) (r.g 2) s 6) (qo 1)) k 6 - 1) = v at g2
    have hM2 : RM r (r.g 0) (r.g 2) (si (sl S3 90 0 v.toInt64) 75 3 (nI 0)) := hM.cg (fun b => (g3.1 76 b (by omega)).trans (e3.1 76 b (by unfold PCw; omega)))
    obtain ⟨S4, f1, f2, f3⟩ := r_weigh (v := 6) hW hM2 hg0.2 hg2
    have f1' : X8_weighsAll (-nI 1) (si (sl S3 90 0 v.toInt64) 75 3 (nI 0)) = some ((), S4) := f1
    have hc := r_ranked (W := fun s => qw r (r.g 0) (r.g 2) s 6) f2 (fun s _ => qw_le hW) hk
    rw [hv] at hc
    refine ls_q hI (v := v) (S1 := S3) ?_ ((FQ.fr e3 (fun _ _ => pq_cw)).tr (FQ.fr g3 (fun a b h => by unfold PQ; omega))) ?_ f3 n3w (fun _ _ => pq_rw)
    · unfold X7_ranked; simp (disch := omega) only [qlj, nI_add, pk_mul, qIX, qIN, qOB, qOL, qLE1, qLE0, qLT1, qLT0, qEQ1, qEQ0, qM0, qM1, qR, qN0, qMM, qNL1, qNL0, qNE1, qNE0, qB1, qB0, qOT, qOF, qGT, k3, qOBX, e1', g1, g2]
    · unfold X8_ranked X8_ranked_13; simp (disch := omega) only [qlj, nI_add, pk_mul, qIX, qIN, qOB, qOL, qLE1, qLE0, qLT1, qLT0, qEQ1, qEQ0, qM0, qM1, qR, qN0, qMM, qNL1, qNL0, qNE1, qNE0, qB1, qB0, qOT, qOF, qGT, k1, o10, f_r0, f1', hc]
  · refine ls_f hI (e := 0) (k := 1) (r2 := nI 0) ?_ rfl ?_ (by omega) (by omega)
    · unfold X7_ranked; simp (disch := omega) only [qlj, nI_add, pk_mul, qIX, qIN, qOB, qOL, qLE1, qLE0, qLT1, qLT0, qEQ1, qEQ0, qM0, qM1, qR, qN0, qMM, qNL1, qNL0, qNE1, qNE0, qB1, qB0, qOT, qOF, qGT, k3, qOBX, qOBE]
    · unfold X8_ranked X8_ranked_13; simp (disch := omega) only [qlj, nI_add, pk_mul, qIX, qIN, qOB, qOL, qLE1, qLE0, qLT1, qLT0, qEQ1, qEQ0, qM0, qM1, qR, qN0, qMM, qNL1, qNL0, qNE1, qNE0, qB1, qB0, qOT, qOF, qGT, k1, f_r1, o10]
