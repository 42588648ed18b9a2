/-! ===== more questions ===== -/
theorem ls26 {a b c : Int32} {S : St} (hI : Inv S) : ∃ S', LS_26 a b c S = some S' ∧ Inv S' := by
  obtain ⟨⟨r, hW, hR, hM⟩, -⟩ := id hI
  have hg0 := hW.2.2.2.1
  have hg2 := hW.2.2.2.2.2.1
  unfold LS_26 L_sampled
  rcases f_flow a with ⟨f, hf, rfl, k1, k2, k3⟩ | ⟨k1, k2, k3⟩
  · rcases f_in b (lo := 1) (hi := 100) (by omega) (by omega) with ⟨n, hn1, hn2, rfl, h1⟩ | ⟨h0, h1⟩
    · by_cases hc : c < 0
      · have hc1 : ∀ (x y : Option (Int32 × St)), oi (c < nI 0) x y = x := fun x y => if_pos hc
        have hc2 : ∀ (x y : Option ((Int32 ⊕ Nat) × St)), oi (nI 0 ≤ c) x y = y := fun x y => if_neg (by rw [Int32.not_le]; exact hc)
        refine ls_f hI (e := 1) (k := 2) (r2 := nI 0) ?_ rfl ?_ (by omega) (by omega)
        · unfold X7_sampled X7_sampled_19; simp (disch := omega) only [qlj, nI_add, pk_mul, qIX, qIN, qOB, qOL, qLE1, qLE0, qLT1, qLT0, qEQ1, qEQ0, qM0, qM1, qR, qN0, qMM, qNL1, qNL0, qNE1, qNE0, qB1, qB0, qOT, qOF, qGT, k3, qOBX, hc2]
        · unfold X8_sampled X8_sampled_30 X8_sampled_31; simp (disch := omega) only [qlj, nI_add, pk_mul, qIX, qIN, qOB, qOL, qLE1, qLE0, qLT1, qLT0, qEQ1, qEQ0, qM0, qM1, qR, qN0, qMM, qNL1, qNL0, qNE1, qNE0, qB1, qB0, qOT, qOF, qGT, k1, h1, hc1, f_r2, o10]
      · obtain ⟨x0, hx, rfl⟩ := nI_of hc
        have hx' : x0 < 2147483648 := hx
        have hxl : (nI x0).toInt64 = lN x0 := nI_l hx
        obtain ⟨S1, e1, e2, e3⟩ := c_fill (v := 6) hW hR
        have e1' : X7_fillWorths (-nI 1) S = some ((), S1) := e1
        obtain ⟨S2, g1, g2⟩ := c_sample (W := fun s => qw r (r.g 0) (r.g 2) s 6) e2 hf hx' hn2
        generalize hv : (qsa (fun s => qw r (r.g 0) (r.g 2) s 6) f x0 n).2 = v at g1
        have hM2 : RM r (r.g 0) (r.g 2) (si (sl S2 90 0 v.toInt64) 75 3 (nI 0)) := hM.cg (fun b => (g2.1 76 b (by omega)).trans (e3.1 76 b (by unfold PCw; omega)))
        obtain ⟨S3, f1, f2, f3⟩ := r_weigh (v := 6) hW hM2 hg0.2 hg2
        have f1' : X8_weighsAll (-nI 1) (si (sl S2 90 0 v.toInt64) 75 3 (nI 0)) = some ((), S3) := f1
        obtain ⟨S4, p1, p2⟩ := r_sample (S := sl S3 75 24 (lN x0)) (W := fun s => qw r (r.g 0) (r.g 2) s 6) f2 hf hx' hn2 qGL
        rw [hv] at p1
        refine ⟨S4, ls_ok (v := v) (S1 := S2) ?_ ?_ ?_ ?_, hI.fq ?_⟩
        · unfold X7_sampled X7_sampled_19; simp (disch := omega) only [qlj, nI_add, pk_mul, qIX, qIN, qOB, qOL, qLE1, qLE0, qLT1, qLT0, qEQ1, qEQ0, qM0, qM1, qR, qN0, qMM, qNL1, qNL0, qNE1, qNE0, qB1, qB0, qOT, qOF, qGT, k3, qOBX, e1', hxl, g1]
        · unfold X8_sampled X8_sampled_30 X8_sampled_31; simp (disch := omega) only [qlj, nI_add, pk_mul, qIX, qIN, qOB, qOL, qLE1, qLE0, qLT1, qLT0, qEQ1, qEQ0, qM0, qM1, qR, qN0, qMM, qNL1, qNL0, qNE1, qNE0, qB1, qB0, qOT, qOF, qGT, k1, h1, o10, f_r0, f1', hxl, p1]
        · rw [p2.1 75 3 (by omega), qIL, f3.1 75 3 n3w]; exact qG1 rfl rfl
        · rw [p2.2.2 0]
          show gl S3 90 0 = _
          rw [f3.gl, qGS, qGL]
        · have qa : FQ S (si (sl S2 90 0 v.toInt64) 75 3 (nI 0)) := (((FQ.fr e3 (fun _ _ => pq_cw)).tr (FQ.fr g2 (fun a b h => by unfold PQ; omega))).sl).s3
          have qb : FQ (si (sl S2 90 0 v.toInt64) 75 3 (nI 0)) S3 := FQ.fr f3 (fun _ _ => pq_rw)
          have qc : FQ S3 S4 := FQ.frL p2 (fun a b h => by unfold PQ; omega)
          exact (qa.tr qb).tr qc
    · refine ls_f hI (e := 1) (k := 2) (r2 := nI 0) ?_ rfl ?_ (by omega) (by omega)
      · unfold X7_sampled X7_sampled_19
        rcases h0 with h | h
        · have hh : ∀ (x y : Option ((Int32 ⊕ Nat) × St)), oi (b < nI 1) x y = x := fun x y => if_pos h
          simp (disch := omega) only [qlj, nI_add, pk_mul, qIX, qIN, qOB, qOL, qLE1, qLE0, qLT1, qLT0, qEQ1, qEQ0, qM0, qM1, qR, qN0, qMM, qNL1, qNL0, qNE1, qNE0, qB1, qB0, qOT, qOF, qGT, k3, qOBX, hh]
        · have hh : ∀ (x y : Option ((Int32 ⊕ Nat) × St)), oi (nI 100 < b) x y = x := fun x y => if_pos h
          have hh2 : ∀ (x y : Option ((Int32 ⊕ Nat) × St)), oi (b < nI 1) x y = y := fun x y => if_neg (by
            rw [Int32.lt_iff_toInt_lt, nI_toInt (show 1 < 2 ^ 31 by omega)]
            rw [Int32.lt_iff_toInt_lt, nI_toInt (show 100 < 2 ^ 31 by omega)] at h
            omega)
          simp (disch := omega) only [qlj, nI_add, pk_mul, qIX, qIN, qOB, qOL, qLE1, qLE0, qLT1, qLT0, qEQ1, qEQ0, qM0, qM1, qR, qN0, qMM, qNL1, qNL0, qNE1, qNE0, qB1, qB0, qOT, qOF, qGT, k3, qOBX, hh2, hh]
      · unfold X8_sampled X8_sampled_30 X8_sampled_31; simp (disch := omega) only [qlj, nI_add, pk_mul, qIX, qIN, qOB, qOL, qLE1, qLE0, qLT1, qLT0, qEQ1, qEQ0, qM0, qM1, qR, qN0, qMM, qNL1, qNL0, qNE1, qNE0, qB1, qB0, qOT, qOF, qGT, k1, h1, f_r2, o10]
  · refine ls_f hI (e := 0) (k := 1) (r2 := nI 0) ?_ rfl ?_ (by omega) (by omega)
    · unfold X7_sampled; simp (disch := omega) only [qlj, nI_add, pk_mul, qIX, qIN, qOB, qOL, qLE1, qLE0, qLT1, qLT0, qEQ1, qEQ0, qM0, qM1, qR, qN0, qMM, qNL1, qNL0, qNE1, qNE0, qB1, qB0, qOT, qOF, qGT, k3, qOBX, qOBE]
    · unfold X8_sampled X8_sampled_31; simp (disch := omega) only [qlj, nI_add, pk_mul, qIX, qIN, qOB, qOL, qLE1, qLE0, qLT1, qLT0, qEQ1, qEQ0, qM0, qM1, qR, qN0, qMM, qNL1, qNL0, qNE1, qNE0, qB1, qB0, qOT, qOF, qGT, k1, f_r1, o10]
theorem qsp_un {C : Nat → Bool} {c : Nat} {fd un fd' un' : Int32} (h : qsp C c fd un) (h' : qsp C c fd' un') : fd = fd' ∧ un = un' := by
  rcases h with ⟨a1, a2, a3⟩ | ⟨s, a1, a2, a3, a4, a5, a6⟩ <;> rcases h' with ⟨b1, b2, b3⟩ | ⟨t, b1, b2, b3, b4, b5, b6⟩
  · exact ⟨a1.trans b1.symm, a3.trans b3.symm⟩
  · rw [a2 t b3] at b4; cases b4
  · rw [b2 s a3] at a4; cases a4
  · have x1 := a5 t b3 b4
    have x2 := b5 s a3 a4
    have e : s = t := by
      rcases Nat.lt_trichotomy s t with h | h | h
      · have := x2.2 h; omega
      · exact h
      · have := x1.2 h; omega
    subst e
    exact ⟨a1.trans b1.symm, a6.trans b6.symm⟩
theorem c_smallC {r : Rd} {p : Nat} {S : St} (hW : RW r) (hR : RC r S) (hp : p < r.n) {fd un : Int32} (h : (qDr r (r.g 0) (r.g 2) p 63 = false ∧ fd = nI 0) ∨ (qDr r (r.g 0) (r.g 2) p 63 = true ∧ qsp (qC r (r.g 0) (r.g 2) p) 64 fd un)) : ∃ S', X7_smallestCause (nI p) S = some (fd, S') ∧ Fr (PCw 58) S S' := by
  obtain ⟨S1, e1, e2⟩ := c_isDr (s := 63) hW hR (by omega) hp
  unfold X7_smallestCause
  rcases h with ⟨h1, h2⟩ | ⟨h1, h2⟩
  · rw [h1, if_neg (by simp)] at e1
    simp (disch := omega) only [qlj, nI_add, pk_mul, qIX, qIN, qOB, qOL, qLE1, qLE0, qLT1, qLT0, qEQ1, qEQ0, qM0, qM1, qR, qN0, qMM, qNL1, qNL0, qNE1, qNE0, qB1, qB0, qOT, qOF, qGT, e1]
    exact ⟨S1, by rw [h2], e2⟩
  · rw [h1, if_pos rfl] at e1
    obtain ⟨S2, f1, f2⟩ := c_small hW (hR.fw (by omega) e2) hp h2
    simp (disch := omega) only [qlj, nI_add, pk_mul, qIX, qIN, qOB, qOL, qLE1, qLE0, qLT1, qLT0, qEQ1, qEQ0, qM0, qM1, qR, qN0, qMM, qNL1, qNL0, qNE1, qNE0, qB1, qB0, qOT, qOF, qGT, e1, o10, f1]
    refine ⟨S2, ?_, e2.tr f2⟩
    by_cases h3 : fd = -nI 1
    · rw [if_pos h3, h3]
    · rw [if_neg h3]
theorem ls27 {a b c : Int32} {S : St} (hI : Inv S) : ∃ S', LS_27 a b c S = some S' ∧ Inv S' := by
  obtain ⟨⟨r, hW, hR, hM⟩, -⟩ := id hI
  have hg0 := hW.2.2.2.1
  have hg2 := hW.2.2.2.2.2.1
  unfold LS_27 L_cause
  rcases f_pkt a hW.1 with ⟨p, hp, rfl, h1, h2⟩ | ⟨h1, h2⟩
  · obtain ⟨fd, S0', -, hsp, -⟩ := r_small hW hM hg0.2 hg2 hp
    obtain ⟨S1, e1, e2⟩ := c_smallC hW hR hp hsp
    have hM2 : RM r (r.g 0) (r.g 2) (si (sl S1 90 0 fd.toInt64) 75 3 (nI 0)) := hM.cg (fun b => e2.1 76 b (by unfold PCw; omega))
    obtain ⟨fd', S2, f1, f2, f3⟩ := r_small hW hM2 hg0.2 hg2 hp
    have he : fd' = fd := by
      rcases hsp with ⟨x1, x2⟩ | ⟨x1, x2⟩ <;> rcases f2 with ⟨y1, y2⟩ | ⟨y1, y2⟩
      · rw [x2, y2]
      · rw [x1] at y1; cases y1
      · rw [x1] at y1; cases y1
      · exact (qsp_un y2 x2).1
    rw [he] at f1
    have hm1 : gi (sl S1 90 0 fd.toInt64) 76 0 = nI r.n := hM2.1
    refine ls_q hI (v := fd) (S1 := S1) ?_ (FQ.fr e2 (fun _ _ => pq_c)) ?_ f3 n3s (fun _ _ => pq_s)
    · unfold X7_cause; simp (disch := omega) only [qlj, nI_add, pk_mul, qIX, qIN, qOB, qOL, qLE1, qLE0, qLT1, qLT0, qEQ1, qEQ0, qM0, qM1, qR, qN0, qMM, qNL1, qNL0, qNE1, qNE0, qB1, qB0, qOT, qOF, qGT, h2 S hR.1, qOBX, e1]
    · unfold X8_cause X8_cause_14; simp (disch := omega) only [qlj, nI_add, pk_mul, qIX, qIN, qOB, qOL, qLE1, qLE0, qLT1, qLT0, qEQ1, qEQ0, qM0, qM1, qR, qN0, qMM, qNL1, qNL0, qNE1, qNE0, qB1, qB0, qOT, qOF, qGT, h1 _ hm1, o10, f_r0, f1]
  · refine ls_f hI (e := 0) (k := 1) (r2 := nI 0) ?_ rfl ?_ (by omega) (by omega)
    · unfold X7_cause; simp (disch := omega) only [qlj, nI_add, pk_mul, qIX, qIN, qOB, qOL, qLE1, qLE0, qLT1, qLT0, qEQ1, qEQ0, qM0, qM1, qR, qN0, qMM, qNL1, qNL0, qNE1, qNE0, qB1, qB0, qOT, qOF, qGT, h2 S hR.1, qOBX, qOBE]
    · unfold X8_cause X8_cause_14; simp (disch := omega) only [qlj, nI_add, pk_mul, qIX, qIN, qOB, qOL, qLE1, qLE0, qLT1, qLT0, qEQ1, qEQ0, qM0, qM1, qR, qN0, qMM, qNL1, qNL0, qNE1, qNE0, qB1, qB0, qOT, qOF, qGT, h1 S hM.1, f_r1, o10]
theorem ls28 {a b c : Int32} {S : St} (hI : Inv S) : ∃ S', LS_28 a b c S = some S' ∧ Inv S' := by
  obtain ⟨⟨r, hW, hR, hM⟩, -⟩ := id hI
  have hg0 := hW.2.2.2.1
  have hg2 := hW.2.2.2.2.2.1
  unfold LS_28 L_suspects
  rcases f_pkt a hW.1 with ⟨p, hp, rfl, h1, h2⟩ | ⟨h1, h2⟩
  · obtain ⟨fd, S0', -, hsp, -⟩ := r_small hW hM hg0.2 hg2 hp
    obtain ⟨S1, e1, e2⟩ := c_smallC hW hR hp hsp
    have hfin : ∃ v S3, X7_suspects (nI p) S = some (.inl v, S3) ∧ Fr (PCw 58) S S3 ∧ ((v = nI 0 ∧ (fd = nI 0 ∨ fd = -nI 1)) ∨ (∃ s0, fd = nI s0 ∧ 1 ≤ s0 ∧ s0 < 64 ∧ v = gi S0' 75 25)) := by
      unfold X7_suspects
      rcases hsp with ⟨x1, x2⟩ | ⟨x1, ⟨f1, f2, f3⟩ | ⟨s0, f1, f2, f3, f4, f5, f6⟩⟩
      · rw [x2] at e1
        simp (disch := omega) only [qlj, nI_add, pk_mul, qIX, qIN, qOB, qOL, qLE1, qLE0, qLT1, qLT0, qEQ1, qEQ0, qM0, qM1, qR, qN0, qMM, qNL1, qNL0, qNE1, qNE0, qB1, qB0, qOT, qOF, qGT, h2 S hR.1, qOBX, e1]
        exact ⟨_, S1, rfl, e2, Or.inl ⟨rfl, Or.inl x2⟩⟩
      · rw [f1] at e1
        simp (disch := omega) only [qlj, nI_add, pk_mul, qIX, qIN, qOB, qOL, qLE1, qLE0, qLT1, qLT0, qEQ1, qEQ0, qM0, qM1, qR, qN0, qMM, qNL1, qNL0, qNE1, qNE0, qB1, qB0, qOT, qOF, qGT, h2 S hR.1, qOBX, e1]
        exact ⟨_, S1, rfl, e2, Or.inl ⟨rfl, Or.inr f1⟩⟩
      · rw [f1] at e1
        obtain ⟨S3, g1, g2⟩ := c_susp hW (hR.fw (by omega) e2) hp f2 f3 f4 f5
        simp (disch := omega) only [qlj, nI_add, pk_mul, qIX, qIN, qOB, qOL, qLE1, qLE0, qLT1, qLT0, qEQ1, qEQ0, qM0, qM1, qR, qN0, qMM, qNL1, qNL0, qNE1, qNE0, qB1, qB0, qOT, qOF, qGT, h2 S hR.1, qOBX, e1, g1]
        exact ⟨_, S3, rfl, e2.tr g2, Or.inr ⟨s0, f1, f2, f3, f6.symm⟩⟩
    obtain ⟨v, S3, g1, g2, g3⟩ := hfin
    have hM2 : RM r (r.g 0) (r.g 2) (si (sl S3 90 0 v.toInt64) 75 3 (nI 0)) := hM.cg (fun b => g2.1 76 b (by unfold PCw; omega))
    obtain ⟨fd', S2, f1, f2, f3⟩ := r_small hW hM2 hg0.2 hg2 hp
    have he : fd' = fd ∧ ((∃ s0, fd = nI s0 ∧ 1 ≤ s0 ∧ s0 < 64) → gi S2 75 25 = gi S0' 75 25) := by
      rcases hsp with ⟨x1, x2⟩ | ⟨x1, x2⟩ <;> rcases f2 with ⟨y1, y2⟩ | ⟨y1, y2⟩
      · refine ⟨by rw [x2, y2], ?_⟩
        rintro ⟨s0, z1, z2, z3⟩
        rw [x2] at z1
        have := (nI_eq (by omega) (by omega)).mp z1
        omega
      · rw [x1] at y1; cases y1
      · rw [x1] at y1; cases y1
      · have := qsp_un y2 x2
        exact ⟨this.1, fun _ => this.2⟩
    rw [he.1] at f1
    have hm1 : gi (sl S3 90 0 v.toInt64) 76 0 = nI r.n := hM2.1
    refine ls_q hI (v := v) (S1 := S3) g1 (FQ.fr g2 (fun _ _ => pq_c)) ?_ f3 n3s (fun _ _ => pq_s)
    unfold X8_suspects X8_suspects_14
    rcases g3 with ⟨z1, z2⟩ | ⟨s0, z1, z2, z3, z4⟩
    · have hno : ∀ (x y : Option (Int32 × St)), oi (nI 0 < fd) x y = y := fun x y => if_neg (by rcases z2 with h | h <;> rw [h] <;> decide)
      simp (disch := omega) only [qlj, nI_add, pk_mul, qIX, qIN, qOB, qOL, qLE1, qLE0, qLT1, qLT0, qEQ1, qEQ0, qM0, qM1, qR, qN0, qMM, qNL1, qNL0, qNE1, qNE0, qB1, qB0, qOT, qOF, qGT, h1 _ hm1, o10, f_r0, f1, hno]
      rw [z1]
    · rw [z1] at f1
      simp (disch := omega) only [qlj, nI_add, pk_mul, qIX, qIN, qOB, qOL, qLE1, qLE0, qLT1, qLT0, qEQ1, qEQ0, qM0, qM1, qR, qN0, qMM, qNL1, qNL0, qNE1, qNE0, qB1, qB0, qOT, qOF, qGT, h1 _ hm1, o10, f_r0, f1]
      rw [z4, he.2 ⟨s0, z1, z2, z3⟩]
  · refine ls_f hI (e := 0) (k := 1) (r2 := nI 0) ?_ rfl ?_ (by omega) (by omega)
    · unfold X7_suspects; simp (disch := omega) only [qlj, nI_add, pk_mul, qIX, qIN, qOB, qOL, qLE1, qLE0, qLT1, qLT0, qEQ1, qEQ0, qM0, qM1, qR, qN0, qMM, qNL1, qNL0, qNE1, qNE0, qB1, qB0, qOT, qOF, qGT, h2 S hR.1, qOBX, qOBE]
    · unfold X8_suspects X8_suspects_14; simp (disch := omega) only [qlj, nI_add, pk_mul, qIX, qIN, qOB, qOL, qLE1, qLE0, qLT1, qLT0, qEQ1, qEQ0, qM0, qM1, qR, qN0, qMM, qNL1, qNL0, qNE1, qNE0, qB1, qB0, qOT, qOF, qGT, h1 S hM.1, f_r1, o10]
theorem ls29 {a b c : Int32} {S : St} (hI : Inv S) : ∃ S', LS_29 a b c S = some S' ∧ Inv S' := by
  obtain ⟨⟨r, hW, hR, hM⟩, -⟩ := id hI
  have hg0 := hW.2.2.2.1
  have hg2 := hW.2.2.2.2.2.1
  unfold LS_29 L_capacityFor
  by_cases ha : a < 0
  · have hc1 : ∀ (x y : Option (Int32 × St)), oi (a < nI 0) x y = x := fun x y => if_pos ha
    have hc2 : ∀ (x y : Option ((Int32 ⊕ Nat) × St)), oi (nI 0 ≤ a) x y = y := fun x y => if_neg (by rw [Int32.not_le]; exact ha)
    refine ls_f hI (e := 1) (k := 1) (r2 := nI 0) ?_ rfl ?_ (by omega) (by omega)
    · unfold X7_capacityFor; simp (disch := omega) only [qlj, nI_add, pk_mul, qIX, qIN, qOB, qOL, qLE1, qLE0, qLT1, qLT0, qEQ1, qEQ0, qM0, qM1, qR, qN0, qMM, qNL1, qNL0, qNE1, qNE0, qB1, qB0, qOT, qOF, qGT, hc2]
    · unfold X8_capacityFor X8_capacityFor_10; simp (disch := omega) only [qlj, nI_add, pk_mul, qIX, qIN, qOB, qOL, qLE1, qLE0, qLT1, qLT0, qEQ1, qEQ0, qM0, qM1, qR, qN0, qMM, qNL1, qNL0, qNE1, qNE0, qB1, qB0, qOT, qOF, qGT, hc1, f_r1, o10]
  · obtain ⟨d, hd, rfl⟩ := nI_of ha
    have hd' : d < 2147483648 := hd
    obtain ⟨S1, e1, e2⟩ := c_cap hW hR hd'
    generalize hv : (if qcf r (r.g 2) d < 1000 then nI (qcf r (r.g 2) d + 1) else -nI 1) = v
    have hM2 : RM r (r.g 0) (r.g 2) (si (sl S1 90 0 v.toInt64) 75 3 (nI 0)) := hM.cg (fun b => e2.1 76 b (by unfold PCw; omega))
    obtain ⟨S2, f1, f2, f3⟩ := r_cap (x2 := nI (r.g 0)) hW hM2 hg2 hd'
    rw [hv] at f1
    have h121 : gi (si (sl S1 90 0 v.toInt64) 75 3 (nI 0)) 76 121 = nI (r.g 0) := hM2.2.2.1
    refine ⟨si S2 76 121 (nI (r.g 0)), ls_ok (v := v) (S1 := S1) ?_ ?_ ?_ ?_, hI.fq ?_⟩
    · unfold X7_capacityFor
      simp (disch := omega) only [qlj, nI_add, pk_mul, qIX, qIN, qOB, qOL, qLE1, qLE0, qLT1, qLT0, qEQ1, qEQ0, qM0, qM1, qR, qN0, qMM, qNL1, qNL0, qNE1, qNE0, qB1, qB0, qOT, qOF, qGT, e1]
      rw [← hv]
      by_cases h : qcf r (r.g 2) d < 1000
      · rw [if_pos h, if_pos h]
      · rw [if_neg h, if_neg h]
    · unfold X8_capacityFor X8_capacityFor_10
      simp (disch := omega) only [qlj, nI_add, pk_mul, qIX, qIN, qOB, qOL, qLE1, qLE0, qLT1, qLT0, qEQ1, qEQ0, qM0, qM1, qR, qN0, qMM, qNL1, qNL0, qNE1, qNE0, qB1, qB0, qOT, qOF, qGT, f_r0, h121, f1]
    · rw [qG0 (by omega), f2.1 75 3 (by unfold PRw; omega)]; exact qG1 rfl rfl
    · rw [qGS, f2.gl, qGS, qGL]
    · intro x y hn
      by_cases h : x = 76 ∧ y = 121
      · rw [qG1 h.1 h.2, h.1, h.2]; exact hM.2.2.1.symm
      · rw [qG0 (by omega), f2.1 x y (by intro hh; rcases hh with hh | hh; exact hn (pq_r hh); exact h hh), qG0 (by unfold PQ at hn; omega), qIL]
        exact (FQ.fr e2 (fun _ _ => pq_c)) x y hn
theorem ls_p {A : Option (Int32 × St)} {X : St → Option (Int32 × St)} {v : Int32} {S1 S2 : St} (h1 : A = some (v, S1)) (h2 : X S1 = some (v, S2)) : ob A (fun r1 S1 => ob (X S1) (fun r2 S2 => og (r1 = r2) (some S2))) = some S2 := by
  rw [h1, qOB, h2, qOB, qOG rfl]
theorem ls30 {a b c : Int32} {S : St} (hI : Inv S) : ∃ S', LS_30 a b c S = some S' ∧ Inv S' := by
  obtain ⟨⟨r, hW, hR, hM⟩, -⟩ := id hI
  have hg0 := hW.2.2.2.1
  have hg2 := hW.2.2.2.2.2.1
  unfold LS_30
  obtain ⟨S1, e1, e2⟩ := c_best hW hR
  have hM2 : RM r (r.g 0) (r.g 2) (si S1 75 3 (nI 0)) := hM.cg (fun b => e2.1 76 b (by unfold PCw; omega))
  obtain ⟨S2, f1, f2, f3⟩ := r_best (x1 := nI (r.g 2)) hW hM2 hg0.2
  have h123 : gi (si S1 75 3 (nI 0)) 76 123 = nI (r.g 2) := hM2.2.2.2.1
  refine ⟨si S2 76 123 (nI (r.g 2)), ls_p (v := nI (qamin (qbw r (r.g 0)) 5)) (S1 := S1) ?_ ?_, hI.fq ?_⟩
  · unfold X7_bestPolicy; simp (disch := omega) only [qlj, nI_add, pk_mul, qIX, qIN, qOB, qOL, qLE1, qLE0, qLT1, qLT0, qEQ1, qEQ0, qM0, qM1, qR, qN0, qMM, qNL1, qNL0, qNE1, qNE0, qB1, qB0, qOT, qOF, qGT, e1]
  · unfold X8_bestPolicy; simp (disch := omega) only [qlj, nI_add, pk_mul, qIX, qIN, qOB, qOL, qLE1, qLE0, qLT1, qLT0, qEQ1, qEQ0, qM0, qM1, qR, qN0, qMM, qNL1, qNL0, qNE1, qNE0, qB1, qB0, qOT, qOF, qGT, h123, f1]
  · intro x y hn
    by_cases h : x = 76 ∧ y = 123
    · rw [qG1 h.1 h.2, h.1, h.2]; exact hM.2.2.2.1.symm
    · rw [qG0 (by omega), f2.1 x y (by intro hh; rcases hh with hh | hh; exact hn (pq_r hh); exact h hh), qG0 (by unfold PQ at hn; omega)]
      exact (FQ.fr e2 (fun _ _ => pq_c)) x y hn
/-! ===== the checksum ===== -/
def qhs (h0 : Int64) (v : Nat → Int32) : Nat → Int64
  | 0 => h0
  | k + 1 => lN 31 * qhs h0 v k + (v k).toInt64
theorem qhs_cg {h0 : Int64} {v v' : Nat → Int32} : ∀ {m : Nat}, (∀ k, k < m → v k = v' k) → qhs h0 v m = qhs h0 v' m := by
  intro m
  induction m with
  | zero => intro _; rfl
  | succ m ih => intro h; rw [qhs, qhs, ih (fun k hk => h k (by omega)), h m (by omega)]
theorem ls36 {a b c : Int32} {S : St} (hI : Inv S) : ∃ S', LS_36 a b c S = some S' ∧ Inv S' := by
  obtain ⟨⟨r, hW, hR, hM⟩, ⟨nH, nw, w1, w2, w3, w4, w5, -⟩, -, ⟨L, ch, t1, t2, t3, -⟩⟩ := id hI
  have hg0 := hW.2.2.2.1
  have hg2 := hW.2.2.2.2.2.1
  have hn := hW.1
  obtain ⟨S1, e1, e2, e3⟩ := c_fill (v := 6) hW hR
  have e1' : X7_fillWorths (-nI 1) S = some ((), S1) := e1
  have hR1 : RC r S1 := hR.cg (fun a b x y => e3.1 a b (by unfold PCw; omega))
  have hM1 : RM r (r.g 0) (r.g 2) S1 := hM.cg (fun b => e3.1 76 b (by unfold PCw; omega))
  have hq1 : FQ S S1 := FQ.fr e3 (fun _ _ => pq_cw)
  have c20 : ∀ h0, X7_checksum_20L (h0, nI 0) S1 = some (qhs h0 (fun k => gi S1 76 (1 + k)) (3 * r.n), S1) := by
    intro h0
    unfold X7_checksum_20L
    refine lp_same (body := fun (a : Int64 × Int32) (S : St) => X7_checksum_20 a.1 a.2 S) r.n (fun i => (qhs h0 (fun k => gi S1 76 (1 + k)) (3 * i), nI i)) (fun i hi => ?_) ?_
    · have mr := hR1.2.1 i hi
      have mm := hM1.2.1 i hi
      show X7_checksum_20 (qhs h0 (fun k => gi S1 76 (1 + k)) (3 * i)) (nI i) S1 = _
      rw [show 3 * (i + 1) = 3 * i + 1 + 1 + 1 by omega, qhs, qhs, qhs]
      unfold X7_checksum_20
      have x1 : gi S1 76 (1 + 3 * i) = nI (r.t i) := mm.1
      have x2 : gi S1 76 (1 + (3 * i + 1)) = nI (r.f i) := mm.2.1
      have x3 : gi S1 76 (1 + (3 * i + 1 + 1)) = nI (r.z i) := mm.2.2
      rw [x1, x2, x3]
      simp (disch := omega) only [qlj, nI_add, pk_mul, qIX, qIN, qOB, qOL, qLE1, qLE0, qLT1, qLT0, qEQ1, qEQ0, qM0, qM1, qR, qN0, qMM, qNL1, qNL0, qNE1, qNE0, qB1, qB0, qOT, qOF, qGT, hR1.1, mr.1, mr.2.1, mr.2.2]
      rfl
    · show X7_checksum_20 _ (nI r.n) S1 = _
      unfold X7_checksum_20
      simp (disch := omega) only [qlj, nI_add, pk_mul, qIX, qIN, qOB, qOL, qLE1, qLE0, qLT1, qLT0, qEQ1, qEQ0, qM0, qM1, qR, qN0, qMM, qNL1, qNL0, qNE1, qNE0, qB1, qB0, qOT, qOF, qGT, hR1.1]
  have c90 : ∀ h0, X7_checksum_90L (h0, nI 0) S1 = some (qhs h0 (fun j => nI (r.g j)) 14, S1) := by
    intro h0
    unfold X7_checksum_90L
    refine lp_same (body := fun (a : Int64 × Int32) (S : St) => X7_checksum_90 a.1 a.2 S) 14 (fun i => (qhs h0 (fun j => nI (r.g j)) i, nI i)) (fun i hi => ?_) ?_
    · have mr := hR1.2.2 i hi
      show X7_checksum_90 (qhs h0 (fun j => nI (r.g j)) i) (nI i) S1 = _
      unfold X7_checksum_90
      simp (disch := omega) only [qlj, nI_add, pk_mul, qIX, qIN, qOB, qOL, qLE1, qLE0, qLT1, qLT0, qEQ1, qEQ0, qM0, qM1, qR, qN0, qMM, qNL1, qNL0, qNE1, qNE0, qB1, qB0, qOT, qOF, qGT, mr]
      rfl
    · show X7_checksum_90 _ (nI 14) S1 = _
      unfold X7_checksum_90
      simp (disch := omega) only [qlj, nI_add, pk_mul, qIX, qIN, qOB, qOL, qLE1, qLE0, qLT1, qLT0, qEQ1, qEQ0, qM0, qM1, qR, qN0, qMM, qNL1, qNL0, qNE1, qNE0, qB1, qB0, qOT, qOF, qGT]
  have c121 : ∀ h0, X7_checksum_121L (h0, nI 0) S1 = some (qhs h0 (fun s => nI (qw r (r.g 0) (r.g 2) s 6)) 64, S1) := by
    intro h0
    unfold X7_checksum_121L
    refine lp_same (body := fun (a : Int64 × Int32) (S : St) => X7_checksum_121 a.1 a.2 S) 64 (fun i => (qhs h0 (fun s => nI (qw r (r.g 0) (r.g 2) s 6)) i, nI i)) (fun i hi => ?_) ?_
    · have mr := e2 i hi
      show X7_checksum_121 (qhs h0 (fun s => nI (qw r (r.g 0) (r.g 2) s 6)) i) (nI i) S1 = _
      unfold X7_checksum_121
      simp (disch := omega) only [qlj, nI_add, pk_mul, qIX, qIN, qOB, qOL, qLE1, qLE0, qLT1, qLT0, qEQ1, qEQ0, qM0, qM1, qR, qN0, qMM, qNL1, qNL0, qNE1, qNE0, qB1, qB0, qOT, qOF, qGT, mr]
      rfl
    · show X7_checksum_121 _ (nI 64) S1 = _
      unfold X7_checksum_121
      simp (disch := omega) only [qlj, nI_add, pk_mul, qIX, qIN, qOB, qOL, qLE1, qLE0, qLT1, qLT0, qEQ1, qEQ0, qM0, qM1, qR, qN0, qMM, qNL1, qNL0, qNE1, qNE0, qB1, qB0, qOT, qOF, qGT]
  generalize hT : si S1 75 3 (nI 0) = T
  have hgT : ∀ x y, (x ≠ 75 ∨ y ≠ 3) → gi T x y = gi S1 x y := fun x y h => by rw [← hT]; exact qG0 h
  have hMT : RM r (r.g 0) (r.g 2) T := hM1.cg (fun b => hgT 76 b (by omega))
  have r19 : ∀ h0, X8_checksum_19L (h0, nI 0) T = some (qhs h0 (fun k => gi S1 76 (1 + k)) (3 * r.n), T) := by
    intro h0
    unfold X8_checksum_19L
    refine lp_same (body := fun (a : Int64 × Int32) (S : St) => X8_checksum_19 a.1 a.2 S) (3 * r.n) (fun i => (qhs h0 (fun k => gi S1 76 (1 + k)) i, nI i)) (fun i hi => ?_) ?_
    · show X8_checksum_19 (qhs h0 (fun k => gi S1 76 (1 + k)) i) (nI i) T = _
      unfold X8_checksum_19
      simp (disch := omega) only [qlj, nI_add, pk_mul, qIX, qIN, qOB, qOL, qLE1, qLE0, qLT1, qLT0, qEQ1, qEQ0, qM0, qM1, qR, qN0, qMM, qNL1, qNL0, qNE1, qNE0, qB1, qB0, qOT, qOF, qGT, hMT.1, hgT]
      rfl
    · show X8_checksum_19 _ (nI (3 * r.n)) T = _
      unfold X8_checksum_19
      simp (disch := omega) only [qlj, nI_add, pk_mul, qIX, qIN, qOB, qOL, qLE1, qLE0, qLT1, qLT0, qEQ1, qEQ0, qM0, qM1, qR, qN0, qMM, qNL1, qNL0, qNE1, qNE0, qB1, qB0, qOT, qOF, qGT, hMT.1]
  have r56 : ∀ h0, X8_checksum_56L (h0, nI 121) T = some (qhs h0 (fun j => nI (r.g j)) 14, T) := by
    intro h0
    unfold X8_checksum_56L
    refine lp_same (body := fun (a : Int64 × Int32) (S : St) => X8_checksum_56 a.1 a.2 S) 14 (fun i => (qhs h0 (fun j => nI (r.g j)) i, nI (121 + i))) (fun i hi => ?_) ?_
    · have mr : gi T 76 (121 + i) = nI (r.g i) := by
        by_cases h0 : i = 0
        · subst h0; exact hMT.2.2.1
        · by_cases h2 : i = 2
          · subst h2; exact hMT.2.2.2.1
          · exact hMT.2.2.2.2 i hi h0 h2
      show X8_checksum_56 (qhs h0 (fun j => nI (r.g j)) i) (nI (121 + i)) T = _
      unfold X8_checksum_56
      simp (disch := omega) only [qlj, nI_add, pk_mul, qIX, qIN, qOB, qOL, qLE1, qLE0, qLT1, qLT0, qEQ1, qEQ0, qM0, qM1, qR, qN0, qMM, qNL1, qNL0, qNE1, qNE0, qB1, qB0, qOT, qOF, qGT, mr, Nat.add_assoc]
      rfl
    · show X8_checksum_56 _ (nI (121 + 14)) T = _
      unfold X8_checksum_56
      simp (disch := omega) only [qlj, nI_add, pk_mul, qIX, qIN, qOB, qOL, qLE1, qLE0, qLT1, qLT0, qEQ1, qEQ0, qM0, qM1, qR, qN0, qMM, qNL1, qNL0, qNE1, qNE0, qB1, qB0, qOT, qOF, qGT]
  have r85 : ∀ h0, ∃ S2, X8_checksum_85L (h0, nI 0) T = some (qhs h0 (fun s => nI (qw r (r.g 0) (r.g 2) s 6)) 64, S2) ∧ Fr PRw T S2 := by
    intro h0
    have key : ∃ b S2, X8_checksum_85L (h0, nI 0) T = some (b, S2) ∧ (b = qhs h0 (fun s => nI (qw r (r.g 0) (r.g 2) s 6)) 64 ∧ Fr PRw T S2) := by
      unfold X8_checksum_85L
      refine lp_cnt (body := fun (a : Int64 × Int32) (S : St) => X8_checksum_85 a.1 a.2 S) 64 (fun i a U => a = (qhs h0 (fun s => nI (qw r (r.g 0) (r.g 2) s 6)) i, nI i) ∧ Fr PRw T U) _ ⟨rfl, Fr.rf⟩ ?_ ?_
      · rintro i a U hi ⟨rfl, h1⟩
        obtain ⟨U1, f1, f2⟩ := r_worthOf (v := 6) hW (hMT.fw h1) hg0.2 hg2 hi
        have f1' : X8_worthOf (nI i) (-nI 1) U = some (nI (qw r (r.g 0) (r.g 2) i 6), U1) := f1
        show ∃ a' S', X8_checksum_85 (qhs h0 (fun s => nI (qw r (r.g 0) (r.g 2) s 6)) i) (nI i) U = _ ∧ _
        unfold X8_checksum_85
        simp (disch := omega) only [qlj, nI_add, pk_mul, qIX, qIN, qOB, qOL, qLE1, qLE0, qLT1, qLT0, qEQ1, qEQ0, qM0, qM1, qR, qN0, qMM, qNL1, qNL0, qNE1, qNE0, qB1, qB0, qOT, qOF, qGT, f1']
        exact ⟨_, U1, rfl, rfl, h1.tr f2⟩
      · rintro a U ⟨rfl, h1⟩
        refine ⟨_, U, ?_, rfl, h1⟩
        show X8_checksum_85 _ (nI 64) U = _
        unfold X8_checksum_85
        simp (disch := omega) only [qlj, nI_add, pk_mul, qIX, qIN, qOB, qOL, qLE1, qLE0, qLT1, qLT0, qEQ1, qEQ0, qM0, qM1, qR, qN0, qMM, qNL1, qNL0, qNE1, qNE0, qB1, qB0, qOT, qOF, qGT]
    obtain ⟨b, S2, f1, f2, f3⟩ := key
    exact ⟨S2, by rw [f1, f2], f3⟩
  obtain ⟨S2, f1, f2⟩ := r85 (qhs (qhs (573655 + (nI r.n).toInt64) (fun k => gi S1 76 (1 + k)) (3 * r.n)) (fun j => nI (r.g j)) 14)
  have g1 : gi S1 68 1 = nI L := by rw [e3.1 68 1 (by unfold PCw; omega)]; exact t2
  have g2 : gi S1 6 1 = nI nH := by rw [e3.1 6 1 (by unfold PCw; omega)]; exact w3
  have g3 : gi S2 75 27 = nI L := by rw [f2.1 75 27 (by unfold PRw; omega), hgT 75 27 (by omega), e3.1 75 27 (by unfold PCw; omega)]; exact t3
  have g4 : gi S2 75 2 = nI nH := by rw [f2.1 75 2 (by unfold PRw; omega), hgT 75 2 (by omega), e3.1 75 2 (by unfold PCw; omega)]; exact w5
  have hx7 : X7_checksum S = some (31 * (31 * (qhs (qhs (qhs (573655 + (nI r.n).toInt64) (fun k => gi S1 76 (1 + k)) (3 * r.n)) (fun j => nI (r.g j)) 14) (fun s => nI (qw r (r.g 0) (r.g 2) s 6)) 64) + (nI L).toInt64) + (nI nH).toInt64, S1) := by
    unfold X7_checksum
    simp (disch := omega) only [qlj, nI_add, pk_mul, qIX, qIN, qOB, qOL, qLE1, qLE0, qLT1, qLT0, qEQ1, qEQ0, qM0, qM1, qR, qN0, qMM, qNL1, qNL0, qNE1, qNE0, qB1, qB0, qOT, qOF, qGT, e1', hR1.1, c20, c90, c121, g1, g2]
  have hx8 : X8_checksum S1 = some (31 * (31 * (qhs (qhs (qhs (573655 + (nI r.n).toInt64) (fun k => gi S1 76 (1 + k)) (3 * r.n)) (fun j => nI (r.g j)) 14) (fun s => nI (qw r (r.g 0) (r.g 2) s 6)) 64) + (nI L).toInt64) + (nI nH).toInt64, S2) := by
    unfold X8_checksum
    simp (disch := omega) only [qlj, nI_add, pk_mul, qIX, qIN, qOB, qOL, qLE1, qLE0, qLT1, qLT0, qEQ1, qEQ0, qM0, qM1, qR, qN0, qMM, qNL1, qNL0, qNE1, qNE0, qB1, qB0, qOT, qOF, qGT, hT, hMT.1, r19, r56, f1, g3, g4]
  refine ⟨S2, ?_, hI.fq (hq1.tr ?_)⟩
  · unfold LS_36
    rw [hx7, qOB, hx8, qOB, qOG ((lg_cmp_eq _ _).mpr rfl)]
  · intro x y hn
    rw [f2.1 x y (fun h => hn (pq_r h)), hgT x y (by unfold PQ at hn; omega)]
