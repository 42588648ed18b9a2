/-! ===== causes ===== -/
def qDr (r : Rd) (c π p s : Nat) : Bool := decide ((qpl r c π s r.n).F p = -nI 2)
theorem r_isDr {r : Rd} {c π p s : Nat} {S : St} (hW : RW r) (hM : RM r c π S) (hc2 : c ≤ 1000) (hpi : π ≤ 4) (hs : s < 64) (hp : p < r.n) : ∃ S', X8_isDropped (nI p) (nI s) S = some (if qDr r c π p s = true then nI 1 else nI 0, S') ∧ Fr PRw S S' := by
  obtain ⟨S1, T, e1, e2, -, -, -, -, e3⟩ := r_replays hW hM hc2 hpi hs
  have hn := hW.1
  have hFp := e2.2.2.2.2.2.1 p hp
  unfold X8_isDropped
  simp (disch := omega) only [qlj, nI_add, pk_mul, qIX, qIN, qOB, qOL, qLE1, qLE0, qLT1, qLT0, qEQ1, qEQ0, qM0, qM1, qR, qN0, qMM, qNL1, qNL0, qNE1, qNE0, qB1, qB0, qOT, qOF, qGT, e1, hFp]
  refine ⟨S1, ?_, e3⟩
  by_cases h : (qpl r c π s r.n).F p = -nI 2
  · rw [if_pos (show qDr r c π p s = true from decide_eq_true h)]
    exact if_pos h
  · rw [if_neg (show ¬ qDr r c π p s = true from fun hh => h (of_decide_eq_true hh))]
    exact if_neg h
theorem c_isDr {r : Rd} {p s : Nat} {S : St} (hW : RW r) (hR : RC r S) (hs : s < 64) (hp : p < r.n) : ∃ S', X7_isDroppedWith (nI s) (nI p) S = some (if qDr r (r.g 0) (r.g 2) p s = true then nI 1 else nI 0, S') ∧ Fr (PCw 58) S S' := by
  have hg0 := hW.2.2.2.1
  have hg2 := hW.2.2.2.2.2.1
  have hn := hW.1
  obtain ⟨S1, mc, mt, ml, e1, e2, -, -, e3⟩ := c_play (k := 58) hW hR (by omega) hg0.2 hg2 hs
  have hf : X3_fateOf 59 (nI p) S1 = some (gi S1 60 p, S1) := c_fateOf e2.2.1.1 e2.2.1.2.1 hp hn
  have hF : gi S1 60 p = (qpl r (r.g 0) (r.g 2) s r.n).F p := qpl_F hW e2 p hp
  unfold X7_isDroppedWith
  rw [hR.2.2 0 (by omega), hR.2.2 2 (by omega), e1, qOB, hf, qOB, hF]
  refine ⟨S1, ?_, e3⟩
  by_cases h : (qpl r (r.g 0) (r.g 2) s r.n).F p = -nI 2
  · rw [if_pos (show qDr r (r.g 0) (r.g 2) p s = true from decide_eq_true h)]
    exact if_pos h
  · rw [if_neg (show ¬ qDr r (r.g 0) (r.g 2) p s = true from fun hh => h (of_decide_eq_true hh))]
    exact if_neg h
theorem q_cpl : ∀ s, s < 64 → nI 63 &&& (nI s ^^^ -nI 1) = nI (63 - s) := by decide +kernel
def qC (r : Rd) (c π p s : Nat) : Bool := decide (s / 2 ^ r.f p % 2 = 0) && !(qDr r c π p (63 - s))
def qun (C : Nat → Bool) (m : Nat) : Nat → Nat
  | 0 => 0
  | c + 1 => if C c = true ∧ qpc c = m then qun C m c ||| c else qun C m c
theorem qun_0 {C : Nat → Bool} {m : Nat} : ∀ {c : Nat}, (∀ s, s < c → C s = true → qpc s ≠ m) → qun C m c = 0 := by
  intro c
  induction c with
  | zero => intro _; rfl
  | succ c ih =>
    intro h
    rw [qun, if_neg (fun hh => h c (by omega) hh.1 hh.2)]
    exact ih (fun s hs => h s (by omega))
theorem qun_lt {C : Nat → Bool} {m : Nat} : ∀ {c : Nat}, c ≤ 64 → qun C m c < 64 := by
  intro c
  induction c with
  | zero => intro _; show 0 < 64; omega
  | succ c ih =>
    intro h
    rw [qun]
    split
    · exact Nat.or_lt_two_pow (n := 6) (ih (by omega)) (show c < 2 ^ 6 by omega)
    · exact ih (by omega)
/-- what is found of the causes below c -/
def qsp (C : Nat → Bool) (c : Nat) (fd un : Int32) : Prop := (fd = -nI 1 ∧ (∀ s, s < c → C s = false) ∧ un = nI 0) ∨ ∃ s0, fd = nI s0 ∧ 1 ≤ s0 ∧ s0 < c ∧ C s0 = true ∧ (∀ s, s < c → C s = true → qpc s0 ≤ qpc s ∧ (s < s0 → qpc s0 < qpc s)) ∧ un = nI (qun C (qpc s0) c)
theorem qsp_no {C : Nat → Bool} {c : Nat} {fd un : Int32} (h : qsp C c fd un) (hc : C c = false) : qsp C (c + 1) fd un := by
  rcases h with ⟨h1, h2, h3⟩ | ⟨s0, h1, h2, h3, h4, h5, h6⟩
  · refine Or.inl ⟨h1, fun s hs => ?_, h3⟩
    by_cases e : s = c
    · rw [e]; exact hc
    · exact h2 s (by omega)
  · refine Or.inr ⟨s0, h1, h2, by omega, h4, fun s hs hC => ?_, ?_⟩
    · by_cases e : s = c
      · rw [e, hc] at hC; cases hC
      · exact h5 s (by omega) hC
    · rw [h6, qun, if_neg (fun hh => by rw [hc] at hh; cases hh.1)]
theorem qsp_big {C : Nat → Bool} {c s0 : Nat} {un : Int32} (h : qsp C c (nI s0) un) (hs0 : s0 < 64) (hc : c < 64) (hb : qpc s0 < qpc c) : qsp C (c + 1) (nI s0) un := by
  rcases h with ⟨h1, h2, h3⟩ | ⟨s1, h1, h2, h3, h4, h5, h6⟩
  · exact absurd h1 (qneg1 (by omega) (by omega) (by omega))
  · have e : s0 = s1 := (nI_eq (by omega) (by omega)).mp h1
    subst e
    refine Or.inr ⟨s0, rfl, h2, by omega, h4, fun s hs hC => ?_, ?_⟩
    · by_cases e : s = c
      · subst e; exact ⟨by omega, fun h => by omega⟩
      · exact h5 s (by omega) hC
    · rw [h6, qun, if_neg (fun hh => by omega)]
theorem qsp_new {C : Nat → Bool} {c : Nat} {fd un : Int32} (h : qsp C c fd un) (hc1 : 1 ≤ c) (hc : C c = true) (hl : fd = -nI 1 ∨ ∃ s0, fd = nI s0 ∧ s0 < 64 ∧ qpc c < qpc s0) (h64 : c < 64) : qsp C (c + 1) (nI c) (nI c) := by
  have hlt : ∀ s, s < c → C s = true → qpc c < qpc s := by
    rcases h with ⟨h1, h2, h3⟩ | ⟨s1, h1, h2, h3, h4, h5, h6⟩
    · intro s hs hC; rw [h2 s hs] at hC; cases hC
    · rcases hl with hl | ⟨s0, hl, hs0, hb⟩
      · rw [h1] at hl; exact absurd hl (qneg1 (by omega) (by omega) (by omega))
      · rw [h1] at hl
        have e : s1 = s0 := (nI_eq (by omega) (by omega)).mp hl
        subst e
        intro s hs hC
        have := (h5 s hs hC).1
        omega
  refine Or.inr ⟨c, rfl, hc1, by omega, hc, fun s hs hC => ?_, ?_⟩
  · by_cases e : s = c
    · subst e; exact ⟨Nat.le_refl _, fun h => by omega⟩
    · have := hlt s (by omega) hC; exact ⟨by omega, fun _ => this⟩
  · rw [qun, if_pos ⟨hc, rfl⟩, qun_0 (fun s hs hC he => by have := hlt s hs hC; omega), Nat.zero_or]
theorem qsp_eq {C : Nat → Bool} {c s0 : Nat} {un : Int32} (h : qsp C c (nI s0) un) (hs0 : s0 < 64) (hc : C c = true) (he : qpc c = qpc s0) (h64 : c < 64) : qsp C (c + 1) (nI s0) (un ||| nI c) := by
  rcases h with ⟨h1, h2, h3⟩ | ⟨s1, h1, h2, h3, h4, h5, h6⟩
  · exact absurd h1 (qneg1 (by omega) (by omega) (by omega))
  · have e : s0 = s1 := (nI_eq (by omega) (by omega)).mp h1
    subst e
    have hu := qun_lt (C := C) (m := qpc s0) (c := c) (by omega)
    refine Or.inr ⟨s0, rfl, h2, by omega, h4, fun s hs hC => ?_, ?_⟩
    · by_cases e : s = c
      · subst e; exact ⟨by omega, fun h => by omega⟩
      · exact h5 s (by omega) hC
    · rw [h6, q_or (by omega) (by omega), qun, if_pos ⟨hc, he⟩]
def PRs (a b : Nat) : Prop := PRw a b ∨ (a = 75 ∧ b = 25)
theorem r_smallL {r : Rd} {c π p : Nat} {S : St} (hW : RW r) (hM : RM r c π S) (hc2 : c ≤ 1000) (hpi : π ≤ 4) (hp : p < r.n) (hC0 : qC r c π p 0 = false) (hu : gi S 75 25 = nI 0) : ∃ fd S', X8_smallest_21L (nI p) (-nI 1, nI 1) S = some (fd, S') ∧ qsp (qC r c π p) 64 fd (gi S' 75 25) ∧ Fr PRs S S' := by
  have hn := hW.1
  have hz := hW.2.1 p hp
  unfold X8_smallest_21L
  refine lp_cnt (body := fun (a : Int32 × Int32) (S : St) => X8_smallest_21 (nI p) a.1 a.2 S) 63 (fun i a T => ∃ fd, a = (fd, nI (i + 1)) ∧ qsp (qC r c π p) (i + 1) fd (gi T 75 25) ∧ Fr PRs S T) _ ⟨-nI 1, rfl, Or.inl ⟨rfl, fun s hs => by rw [show s = 0 by omega]; exact hC0, hu⟩, Fr.rf⟩ ?_ ?_
  · rintro i a T hi ⟨fd, rfl, h1, h2⟩
    have hMT : RM r c π T := hM.cg (fun b => h2.1 76 b (by unfold PRs PRw; omega))
    have hof := r_of hW hMT hp
    have hi64 : i + 1 < 64 := by omega
    have hbit := q_bit hi64 hz.2.1
    have hm := Nat.mod_lt ((i + 1) / 2 ^ r.f p) (show 0 < 2 by omega)
    obtain ⟨T1, e1, e2⟩ := r_isDr (s := 63 - (i + 1)) hW hMT hc2 hpi (by omega) hp
    have hcp := q_cpl (i + 1) hi64
    have e25 : gi T1 75 25 = gi T 75 25 := e2.1 75 25 (by unfold PRw; omega)
    have hF1 : Fr PRs S T1 := h2.tr (e2.mono (fun a b h => Or.inl h))
    have hpc := q_pc6 (i + 1) hi64
    have q10 : ∀ (x y : Option (((Int32 × Int32) ⊕ Int32) × St)), oi (nI 1 = nI 0) x y = y := fun x y => if_neg (by decide)
    show ∃ a' S', X8_smallest_21 (nI p) fd (nI (i + 1)) T = _ ∧ _
    unfold X8_smallest_21 X8_smallest_60 X8_smallest_56 X8_smallest_61 X8_smallest_98 X8_smallest_103 X8_smallest_121
    by_cases hb : (i + 1) / 2 ^ r.f p % 2 = 0
    · by_cases hd : qDr r c π p (63 - (i + 1)) = true
      · have hC : qC r c π p (i + 1) = false := by unfold qC; rw [hd]; simp
        rw [if_pos hd] at e1
        rcases h1 with ⟨f1, f2, f3⟩ | ⟨s0, f1, f2, f3, f4, f5, f6⟩
        · have hq : qsp (qC r c π p) (i + 1) fd (gi T 75 25) := Or.inl ⟨f1, f2, f3⟩
          rw [f1] at hq ⊢
          simp (disch := omega) only [qlj, nI_add, pk_mul, qIX, qIN, qOB, qOL, qLE1, qLE0, qLT1, qLT0, qEQ1, qEQ0, qM0, qM1, qR, qN0, qMM, qNL1, qNL0, qNE1, qNE0, qB1, qB0, qOT, qOF, qGT, hof.2.1, hbit, hb, q10, hcp, e1]
          exact ⟨_, _, rfl, _, rfl, by rw [e25]; exact qsp_no hq hC, hF1⟩
        · have hq : qsp (qC r c π p) (i + 1) fd (gi T 75 25) := Or.inr ⟨s0, f1, f2, f3, f4, f5, f6⟩
          rw [f1] at hq ⊢
          have hp0 := q_pc6 s0 (by omega)
          by_cases hlt : qpc s0 < qpc (i + 1)
          · simp (disch := omega) only [qlj, nI_add, pk_mul, qIX, qIN, qOB, qOL, qLE1, qLE0, qLT1, qLT0, qEQ1, qEQ0, qM0, qM1, qR, qN0, qMM, qNL1, qNL0, qNE1, qNE0, qB1, qB0, qOT, qOF, qGT, hof.2.1, hbit, hb, r_size hi64, r_size (show s0 < 64 by omega)]
            exact ⟨_, _, rfl, _, rfl, qsp_no hq hC, h2⟩
          · simp (disch := omega) only [qlj, nI_add, pk_mul, qIX, qIN, qOB, qOL, qLE1, qLE0, qLT1, qLT0, qEQ1, qEQ0, qM0, qM1, qR, qN0, qMM, qNL1, qNL0, qNE1, qNE0, qB1, qB0, qOT, qOF, qGT, hof.2.1, hbit, hb, r_size hi64, r_size (show s0 < 64 by omega), q10, hcp, e1]
            exact ⟨_, _, rfl, _, rfl, by rw [e25]; exact qsp_no hq hC, hF1⟩
      · have hC : qC r c π p (i + 1) = true := by unfold qC; rw [Bool.eq_false_iff.mpr hd, decide_eq_true hb]; rfl
        rw [if_neg hd] at e1
        rcases h1 with ⟨f1, f2, f3⟩ | ⟨s0, f1, f2, f3, f4, f5, f6⟩
        · have hq : qsp (qC r c π p) (i + 1) fd (gi T 75 25) := Or.inl ⟨f1, f2, f3⟩
          rw [f1] at hq ⊢
          simp (disch := omega) only [qlj, nI_add, pk_mul, qIX, qIN, qOB, qOL, qLE1, qLE0, qLT1, qLT0, qEQ1, qEQ0, qM0, qM1, qR, qN0, qMM, qNL1, qNL0, qNE1, qNE0, qB1, qB0, qOT, qOF, qGT, hof.2.1, hbit, hb, q10, hcp, e1]
          refine ⟨_, _, rfl, _, rfl, ?_, hF1.si (by unfold PRs; omega)⟩
          rw [qG1 rfl rfl]
          exact qsp_new hq (by omega) hC (Or.inl rfl) hi64
        · have hq : qsp (qC r c π p) (i + 1) fd (gi T 75 25) := Or.inr ⟨s0, f1, f2, f3, f4, f5, f6⟩
          rw [f1] at hq ⊢
          have hp0 := q_pc6 s0 (by omega)
          rcases Nat.lt_trichotomy (qpc s0) (qpc (i + 1)) with hlt | hlt | hlt
          · simp (disch := omega) only [qlj, nI_add, pk_mul, qIX, qIN, qOB, qOL, qLE1, qLE0, qLT1, qLT0, qEQ1, qEQ0, qM0, qM1, qR, qN0, qMM, qNL1, qNL0, qNE1, qNE0, qB1, qB0, qOT, qOF, qGT, hof.2.1, hbit, hb, r_size hi64, r_size (show s0 < 64 by omega)]
            exact ⟨_, _, rfl, _, rfl, qsp_big hq (by omega) hi64 hlt, h2⟩
          · simp (disch := omega) only [qlj, nI_add, pk_mul, qIX, qIN, qOB, qOL, qLE1, qLE0, qLT1, qLT0, qEQ1, qEQ0, qM0, qM1, qR, qN0, qMM, qNL1, qNL0, qNE1, qNE0, qB1, qB0, qOT, qOF, qGT, hof.2.1, hbit, hb, r_size hi64, r_size (show s0 < 64 by omega), q10, hcp, e1]
            refine ⟨_, _, rfl, _, rfl, ?_, hF1.si (by unfold PRs; omega)⟩
            rw [qG1 rfl rfl, e25]
            exact qsp_eq hq (by omega) hC hlt.symm hi64
          · simp (disch := omega) only [qlj, nI_add, pk_mul, qIX, qIN, qOB, qOL, qLE1, qLE0, qLT1, qLT0, qEQ1, qEQ0, qM0, qM1, qR, qN0, qMM, qNL1, qNL0, qNE1, qNE0, qB1, qB0, qOT, qOF, qGT, hof.2.1, hbit, hb, r_size hi64, r_size (show s0 < 64 by omega), q10, hcp, e1]
            refine ⟨_, _, rfl, _, rfl, ?_, hF1.si (by unfold PRs; omega)⟩
            rw [qG1 rfl rfl]
            exact qsp_new hq (by omega) hC (Or.inr ⟨s0, rfl, by omega, hlt⟩) hi64
    · have hC : qC r c π p (i + 1) = false := by unfold qC; simp [hb]
      simp (disch := omega) only [qlj, nI_add, pk_mul, qIX, qIN, qOB, qOL, qLE1, qLE0, qLT1, qLT0, qEQ1, qEQ0, qM0, qM1, qR, qN0, qMM, qNL1, qNL0, qNE1, qNE0, qB1, qB0, qOT, qOF, qGT, hof.2.1, hbit]
      exact ⟨_, _, rfl, _, rfl, qsp_no h1 hC, h2⟩
  · rintro a T ⟨fd, rfl, h1, h2⟩
    refine ⟨fd, T, ?_, h1, h2⟩
    show X8_smallest_21 (nI p) fd (nI 64) T = _
    unfold X8_smallest_21
    simp (disch := omega) only [qlj, nI_add, pk_mul, qIX, qIN, qOB, qOL, qLE1, qLE0, qLT1, qLT0, qEQ1, qEQ0, qM0, qM1, qR, qN0, qMM, qNL1, qNL0, qNE1, qNE0, qB1, qB0, qOT, qOF, qGT]
/-- the reference's smallest cause -/
theorem r_small {r : Rd} {c π p : Nat} {S : St} (hW : RW r) (hM : RM r c π S) (hc2 : c ≤ 1000) (hpi : π ≤ 4) (hp : p < r.n) : ∃ fd S', X8_smallest (nI p) S = some (fd, S') ∧ ((qDr r c π p 63 = false ∧ fd = nI 0) ∨ (qDr r c π p 63 = true ∧ qsp (qC r c π p) 64 fd (gi S' 75 25))) ∧ Fr PRs S S' := by
  have hM1 : RM r c π (si S 75 25 (nI 0)) := hM.cg (fun b => rfl)
  obtain ⟨T1, e1, e2⟩ := r_isDr (s := 63) hW hM1 hc2 hpi (by omega) hp
  have hF1 : Fr PRs S T1 := (Fr.rf.si (show PRs 75 25 by unfold PRs; omega)).tr (e2.mono (fun a b h => Or.inl h))
  have q10 : ∀ (x y : Option (Int32 × St)), oi (nI 1 = nI 0) x y = y := fun x y => if_neg (by decide)
  unfold X8_smallest
  by_cases hd : qDr r c π p 63 = true
  · rw [if_pos hd] at e1
    have hC0 : qC r c π p 0 = false := by unfold qC; simp [hd]
    obtain ⟨fd, S', f1, f2, f3⟩ := r_smallL hW (hM1.fw e2) hc2 hpi hp hC0 (by rw [e2.1 75 25 (by unfold PRw; omega)]; exact qG1 rfl rfl)
    simp (disch := omega) only [qlj, nI_add, pk_mul, qIX, qIN, qOB, qOL, qLE1, qLE0, qLT1, qLT0, qEQ1, qEQ0, qM0, qM1, qR, qN0, qMM, qNL1, qNL0, qNE1, qNE0, qB1, qB0, qOT, qOF, qGT, e1, q10, f1]
    exact ⟨fd, S', rfl, Or.inr ⟨hd, f2⟩, hF1.tr f3⟩
  · rw [if_neg hd] at e1
    simp (disch := omega) only [qlj, nI_add, pk_mul, qIX, qIN, qOB, qOL, qLE1, qLE0, qLT1, qLT0, qEQ1, qEQ0, qM0, qM1, qR, qN0, qMM, qNL1, qNL0, qNE1, qNE0, qB1, qB0, qOT, qOF, qGT, e1]
    exact ⟨_, T1, rfl, Or.inl ⟨by simpa using hd, rfl⟩, hF1⟩
theorem lp_findS {body : Int32 → St → Option ((Int32 ⊕ (Int32 ⊕ Unit)) × St)} {P : Nat → Bool} {J : St → Prop} {m : Nat} (h0 : ∀ i T, i < m → P i = false → J T → ∃ T', body (nI i) T = some (.inl (nI (i + 1)), T') ∧ J T') (h1 : ∀ i T, i < m → P i = true → J T → ∃ T', body (nI i) T = some (.inr (.inl (nI i)), T') ∧ J T') (h2 : ∀ T, J T → ∃ T', body (nI m) T = some (.inr (.inr ()), T') ∧ J T') :
    ∀ (d lo : Nat) (T : St), d = m - lo → lo ≤ m → J T → ((∀ i, lo ≤ i → i < m → P i = false) ∧ ∃ T', lp body (nI lo) T = some (.inr (), T') ∧ J T') ∨ ∃ i, lo ≤ i ∧ i < m ∧ P i = true ∧ (∀ j, lo ≤ j → j < i → P j = false) ∧ ∃ T', lp body (nI lo) T = some (.inl (nI i), T') ∧ J T' := by
  intro d
  induction d with
  | zero =>
    intro lo T hd hlo hJ
    have : lo = m := by omega
    subst this
    obtain ⟨T', e1, e2⟩ := h2 T hJ
    exact Or.inl ⟨fun i a b => by omega, T', lp_end e1, e2⟩
  | succ d ih =>
    intro lo T hd hlo hJ
    cases hP : P lo with
    | true =>
      obtain ⟨T', e1, e2⟩ := h1 lo T (by omega) hP hJ
      exact Or.inr ⟨lo, Nat.le_refl _, by omega, hP, fun j a b => by omega, T', lp_end e1, e2⟩
    | false =>
      obtain ⟨T', e1, e2⟩ := h0 lo T (by omega) hP hJ
      rcases ih (lo + 1) T' (by omega) (by omega) e2 with ⟨a, T2, b1, b2⟩ | ⟨i, a1, a2, a3, a4, T2, b1, b2⟩
      · refine Or.inl ⟨fun i x y => ?_, T2, lp_go e1 b1, b2⟩
        by_cases e : i = lo
        · rw [e]; exact hP
        · exact a i (by omega) y
      · refine Or.inr ⟨i, by omega, a2, a3, fun j x y => ?_, T2, lp_go e1 b1, b2⟩
        by_cases e : j = lo
        · rw [e]; exact hP
        · exact a4 j (by omega) y
theorem c_isCause {r : Rd} {p s : Nat} {S : St} (hW : RW r) (hR : RC r S) (hs : s < 64) (hp : p < r.n) : ∃ S', X7_isCause (nI s) (nI p) S = some (if qC r (r.g 0) (r.g 2) p s = true then nI 1 else nI 0, S') ∧ Fr (PCw 58) S S' := by
  have hn := hW.1
  have hz := hW.2.1 p hp
  have mr := hR.2.1 p hp
  have hm := Nat.mod_lt (s / 2 ^ r.f p) (show 0 < 2 by omega)
  obtain ⟨S1, e1, e2⟩ := c_isDr (s := 63 - s) hW hR (by omega) hp
  have q10 : ∀ (x y : Option (Int32 × St)), oi (nI 1 = nI 0) x y = y := fun x y => if_neg (by decide)
  unfold X7_isCause
  by_cases hb : s / 2 ^ r.f p % 2 = 0
  · by_cases hd : qDr r (r.g 0) (r.g 2) p (63 - s) = true
    · rw [if_pos hd] at e1
      rw [if_neg (show ¬ qC r (r.g 0) (r.g 2) p s = true by unfold qC; simp [hd])]
      simp (disch := omega) only [qlj, nI_add, pk_mul, qIX, qIN, qOB, qOL, qLE1, qLE0, qLT1, qLT0, qEQ1, qEQ0, qM0, qM1, qR, qN0, qMM, qNL1, qNL0, qNE1, qNE0, qB1, qB0, qOT, qOF, qGT, mr.2.1, c_contains hs hz.2.1, hb, q_cpl s hs, e1, q10]
      exact ⟨S1, rfl, e2⟩
    · rw [if_neg hd] at e1
      rw [if_pos (show qC r (r.g 0) (r.g 2) p s = true by unfold qC; simp [hb, hd])]
      simp (disch := omega) only [qlj, nI_add, pk_mul, qIX, qIN, qOB, qOL, qLE1, qLE0, qLT1, qLT0, qEQ1, qEQ0, qM0, qM1, qR, qN0, qMM, qNL1, qNL0, qNE1, qNE0, qB1, qB0, qOT, qOF, qGT, mr.2.1, c_contains hs hz.2.1, hb, q_cpl s hs, e1]
      exact ⟨S1, rfl, e2⟩
  · rw [if_neg (show ¬ qC r (r.g 0) (r.g 2) p s = true by unfold qC; simp [hb])]
    simp (disch := omega) only [qlj, nI_add, pk_mul, qIX, qIN, qOB, qOL, qLE1, qLE0, qLT1, qLT0, qEQ1, qEQ0, qM0, qM1, qR, qN0, qMM, qNL1, qNL0, qNE1, qNE0, qB1, qB0, qOT, qOF, qGT, mr.2.1, c_contains hs hz.2.1]
    exact ⟨S, rfl, Fr.rf⟩
theorem c_small {r : Rd} {p : Nat} {S : St} (hW : RW r) (hR : RC r S) (hp : p < r.n) {fd un : Int32} (hsp : qsp (qC r (r.g 0) (r.g 2) p) 64 fd un) : ∃ S', X7_smallestCause_14L (nI p) (nI 1) S = some (if fd = -nI 1 then .inr () else .inl fd, S') ∧ Fr (PCw 58) S S' := by
  have hn := hW.1
  have hin : ∀ m T, m ≤ 6 → RC r T → ((∀ i, 1 ≤ i → i < 64 → (decide (qpc i = m) && qC r (r.g 0) (r.g 2) p i) = false) ∧ ∃ T', X7_smallestCause_22L (nI p) (nI m) (nI 1) T = some (.inr (), T') ∧ (RC r T' ∧ Fr (PCw 58) T T')) ∨ ∃ i, 1 ≤ i ∧ i < 64 ∧ (decide (qpc i = m) && qC r (r.g 0) (r.g 2) p i) = true ∧ (∀ j, 1 ≤ j → j < i → (decide (qpc j = m) && qC r (r.g 0) (r.g 2) p j) = false) ∧ ∃ T', X7_smallestCause_22L (nI p) (nI m) (nI 1) T = some (.inl (nI i), T') ∧ (RC r T' ∧ Fr (PCw 58) T T') := by
    intro m T hm hRT
    unfold X7_smallestCause_22L
    have q10 : ∀ (x y : Option ((Int32 ⊕ (Int32 ⊕ Unit)) × St)), oi (nI 1 = nI 0) x y = y := fun x y => if_neg (by decide)
    refine lp_findS (body := fun (a : Int32) (S : St) => X7_smallestCause_22 (nI p) (nI m) a S) (P := fun i => decide (qpc i = m) && qC r (r.g 0) (r.g 2) p i) (J := fun T' => RC r T' ∧ Fr (PCw 58) T T') (m := 64) ?_ ?_ ?_ 63 1 T rfl (by omega) ⟨hRT, Fr.rf⟩
    · rintro i U hi hP ⟨h1, h2⟩
      have hpc := q_pc6 i hi
      show ∃ T', X7_smallestCause_22 (nI p) (nI m) (nI i) U = _ ∧ _
      unfold X7_smallestCause_22
      by_cases he : qpc i = m
      · obtain ⟨U1, e1, e2⟩ := c_isCause (s := i) hW h1 hi hp
        have hC : ¬ qC r (r.g 0) (r.g 2) p i = true := by intro h; simp [he, h] at hP
        rw [if_neg hC] at e1
        simp (disch := omega) only [qlj, nI_add, pk_mul, qIX, qIN, qOB, qOL, qLE1, qLE0, qLT1, qLT0, qEQ1, qEQ0, qM0, qM1, qR, qN0, qMM, qNL1, qNL0, qNE1, qNE0, qB1, qB0, qOT, qOF, qGT, c_bitCount hi, e1]
        exact ⟨U1, rfl, h1.fw (by omega) e2, h2.tr e2⟩
      · simp (disch := omega) only [qlj, nI_add, pk_mul, qIX, qIN, qOB, qOL, qLE1, qLE0, qLT1, qLT0, qEQ1, qEQ0, qM0, qM1, qR, qN0, qMM, qNL1, qNL0, qNE1, qNE0, qB1, qB0, qOT, qOF, qGT, c_bitCount hi]
        exact ⟨U, rfl, h1, h2⟩
    · rintro i U hi hP ⟨h1, h2⟩
      have hpc := q_pc6 i hi
      have hP' : qpc i = m ∧ qC r (r.g 0) (r.g 2) p i = true := by simpa using hP
      obtain ⟨U1, e1, e2⟩ := c_isCause (s := i) hW h1 hi hp
      rw [if_pos hP'.2] at e1
      show ∃ T', X7_smallestCause_22 (nI p) (nI m) (nI i) U = _ ∧ _
      unfold X7_smallestCause_22
      simp (disch := omega) only [qlj, nI_add, pk_mul, qIX, qIN, qOB, qOL, qLE1, qLE0, qLT1, qLT0, qEQ1, qEQ0, qM0, qM1, qR, qN0, qMM, qNL1, qNL0, qNE1, qNE0, qB1, qB0, qOT, qOF, qGT, c_bitCount hi, hP'.1, e1, q10]
      exact ⟨U1, rfl, h1.fw (by omega) e2, h2.tr e2⟩
    · rintro U ⟨h1, h2⟩
      show ∃ T', X7_smallestCause_22 (nI p) (nI m) (nI 64) U = _ ∧ _
      unfold X7_smallestCause_22
      simp (disch := omega) only [qlj, nI_add, pk_mul, qIX, qIN, qOB, qOL, qLE1, qLE0, qLT1, qLT0, qEQ1, qEQ0, qM0, qM1, qR, qN0, qMM, qNL1, qNL0, qNE1, qNE0, qB1, qB0, qOT, qOF, qGT]
      exact ⟨U, rfl, h1, h2⟩
  have hstep : ∀ m T, m < 6 → RC r T → (∀ i, 1 ≤ i → i < 64 → qC r (r.g 0) (r.g 2) p i = true → qpc i ≠ m) → ∃ T', X7_smallestCause_14 (nI p) (nI m) T = some (.inl (nI (m + 1)), T') ∧ RC r T' ∧ Fr (PCw 58) T T' := by
    intro m T hm hRT hno
    rcases hin m T (by omega) hRT with ⟨-, T', e1, e2, e3⟩ | ⟨i, a1, a2, a3, -⟩
    · unfold X7_smallestCause_14
      simp (disch := omega) only [qlj, nI_add, pk_mul, qIX, qIN, qOB, qOL, qLE1, qLE0, qLT1, qLT0, qEQ1, qEQ0, qM0, qM1, qR, qN0, qMM, qNL1, qNL0, qNE1, qNE0, qB1, qB0, qOT, qOF, qGT, e1]
      exact ⟨T', rfl, e2, e3⟩
    · have a3' : qpc i = m ∧ qC r (r.g 0) (r.g 2) p i = true := by simpa using a3
      exact absurd a3'.1 (hno i a1 a2 a3'.2)
  rcases hsp with ⟨f1, f2, f3⟩ | ⟨s0, f1, f2, f3, f4, f5, f6⟩
  · rw [if_pos f1]
    have key : ∃ b S', X7_smallestCause_14L (nI p) (nI 1) S = some (b, S') ∧ (b = .inr () ∧ Fr (PCw 58) S S') := by
      unfold X7_smallestCause_14L
      refine lp_cnt (body := fun (a : Int32) (S : St) => X7_smallestCause_14 (nI p) a S) 5 (fun i a T => a = nI (i + 1) ∧ RC r T ∧ Fr (PCw 58) S T) _ ⟨rfl, hR, Fr.rf⟩ ?_ ?_
      · rintro i a T hi ⟨rfl, h1, h2⟩
        obtain ⟨T', e1, e2, e3⟩ := hstep (i + 1) T (by omega) h1 (fun s a b hC => by rw [f2 s b] at hC; cases hC)
        exact ⟨_, T', e1, rfl, e2, h2.tr e3⟩
      · rintro a T ⟨rfl, h1, h2⟩
        refine ⟨.inr (), T, ?_, rfl, h2⟩
        show X7_smallestCause_14 (nI p) (nI 6) T = _
        unfold X7_smallestCause_14
        simp (disch := omega) only [qlj, nI_add, pk_mul, qIX, qIN, qOB, qOL, qLE1, qLE0, qLT1, qLT0, qEQ1, qEQ0, qM0, qM1, qR, qN0, qMM, qNL1, qNL0, qNE1, qNE0, qB1, qB0, qOT, qOF, qGT]
    obtain ⟨b, S', e1, e2, e3⟩ := key
    exact ⟨S', by rw [e1, e2], e3⟩
  · have hne : ¬ fd = -nI 1 := by rw [f1]; exact qneg1 (by omega) (by omega) (by omega)
    have hz := hW.2.1 p hp
    have hb0 : s0 / 2 ^ r.f p % 2 = 0 := by
      have h := f4
      unfold qC at h
      simp only [Bool.and_eq_true, decide_eq_true_eq] at h
      exact h.1
    have h5 := q_pc5 s0 f3 _ hz.2.1 hb0
    have h1p : 1 ≤ qpc s0 := by
      have : ∀ s, s < 64 → 1 ≤ s → 1 ≤ qpc s := by decide +kernel
      exact this s0 f3 f2
    rw [if_neg hne, f1]
    have key : ∃ b S', X7_smallestCause_14L (nI p) (nI 1) S = some (b, S') ∧ (b = .inl (nI s0) ∧ Fr (PCw 58) S S') := by
      unfold X7_smallestCause_14L
      refine lp_cnt (body := fun (a : Int32) (S : St) => X7_smallestCause_14 (nI p) a S) (qpc s0 - 1) (fun i a T => a = nI (i + 1) ∧ RC r T ∧ Fr (PCw 58) S T) _ ⟨rfl, hR, Fr.rf⟩ ?_ ?_
      · rintro i a T hi ⟨rfl, h1, h2⟩
        obtain ⟨T', e1, e2, e3⟩ := hstep (i + 1) T (by omega) h1 (fun s a b hC => by have := (f5 s b hC).1; omega)
        exact ⟨_, T', e1, rfl, e2, h2.tr e3⟩
      · rintro a T ⟨rfl, h1, h2⟩
        rcases hin (qpc s0) T (by omega) h1 with ⟨b1, -⟩ | ⟨i, a1, a2, a3, a4, T', e1, e2, e3⟩
        · have := b1 s0 f2 f3
          simp [f4] at this
        · have a3' : qpc i = qpc s0 ∧ qC r (r.g 0) (r.g 2) p i = true := by simpa using a3
          have hi0 : i = s0 := by
            rcases Nat.lt_trichotomy i s0 with h | h | h
            · have := (f5 i a2 a3'.2).2 h; omega
            · exact h
            · have := a4 s0 f2 h
              simp [f4] at this
          subst hi0
          refine ⟨.inl (nI i), T', ?_, rfl, h2.tr e3⟩
          show X7_smallestCause_14 (nI p) (nI (qpc i - 1 + 1)) T = _
          rw [show qpc i - 1 + 1 = qpc i by omega]
          unfold X7_smallestCause_14
          simp (disch := omega) only [qlj, nI_add, pk_mul, qIX, qIN, qOB, qOL, qLE1, qLE0, qLT1, qLT0, qEQ1, qEQ0, qM0, qM1, qR, qN0, qMM, qNL1, qNL0, qNE1, qNE0, qB1, qB0, qOT, qOF, qGT, e1]
    obtain ⟨b, S', e1, e2, e3⟩ := key
    exact ⟨S', by rw [e1, e2], e3⟩
theorem c_susp {r : Rd} {p s0 : Nat} {S : St} (hW : RW r) (hR : RC r S) (hp : p < r.n) (h1 : 1 ≤ s0) (h64 : s0 < 64) (hC : qC r (r.g 0) (r.g 2) p s0 = true) (hmin : ∀ s, s < 64 → qC r (r.g 0) (r.g 2) p s = true → qpc s0 ≤ qpc s ∧ (s < s0 → qpc s0 < qpc s)) : ∃ S', X7_suspects_29L (nI p) (nI s0) (nI s0, nI (s0 + 1)) S = some (nI (qun (qC r (r.g 0) (r.g 2) p) (qpc s0) 64), S') ∧ Fr (PCw 58) S S' := by
  have hp0 := q_pc6 s0 h64
  have hst : qun (qC r (r.g 0) (r.g 2) p) (qpc s0) (s0 + 1) = s0 := by
    rw [qun, if_pos ⟨hC, rfl⟩, qun_0 (fun s hs hCs he => by have := (hmin s (by omega) hCs).2 hs; omega), Nat.zero_or]
  have q10 : ∀ (x y : Option (((Int32 × Int32) ⊕ Int32) × St)), oi (nI 1 = nI 0) x y = y := fun x y => if_neg (by decide)
  have key : ∃ b S', X7_suspects_29L (nI p) (nI s0) (nI s0, nI (s0 + 1)) S = some (b, S') ∧ (b = nI (qun (qC r (r.g 0) (r.g 2) p) (qpc s0) 64) ∧ Fr (PCw 58) S S') := by
    unfold X7_suspects_29L
    refine lp_cnt (body := fun (a : Int32 × Int32) (S : St) => X7_suspects_29 (nI p) (nI s0) a.1 a.2 S) (63 - s0) (fun i a T => a = (nI (qun (qC r (r.g 0) (r.g 2) p) (qpc s0) (s0 + 1 + i)), nI (s0 + 1 + i)) ∧ RC r T ∧ Fr (PCw 58) S T) _ ⟨by rw [Nat.add_zero, hst], hR, Fr.rf⟩ ?_ ?_
    · rintro i a T hi ⟨rfl, h2, h3⟩
      have hi64 : s0 + 1 + i < 64 := by omega
      have hpc := q_pc6 _ hi64
      have hu := qun_lt (C := qC r (r.g 0) (r.g 2) p) (m := qpc s0) (c := s0 + 1 + i) (by omega)
      show ∃ a' S', X7_suspects_29 (nI p) (nI s0) (nI (qun (qC r (r.g 0) (r.g 2) p) (qpc s0) (s0 + 1 + i))) (nI (s0 + 1 + i)) T = _ ∧ _
      rw [show s0 + 1 + (i + 1) = s0 + 1 + i + 1 by omega, qun]
      unfold X7_suspects_29
      by_cases he : qpc (s0 + 1 + i) = qpc s0
      · obtain ⟨U1, e1, e2⟩ := c_isCause (s := s0 + 1 + i) hW h2 hi64 hp
        by_cases hCi : qC r (r.g 0) (r.g 2) p (s0 + 1 + i) = true
        · rw [if_pos hCi] at e1
          rw [if_pos ⟨hCi, he⟩]
          simp (disch := omega) only [qlj, nI_add, pk_mul, qIX, qIN, qOB, qOL, qLE1, qLE0, qLT1, qLT0, qEQ1, qEQ0, qM0, qM1, qR, qN0, qMM, qNL1, qNL0, qNE1, qNE0, qB1, qB0, qOT, qOF, qGT, c_bitCount hi64, c_bitCount h64, e1, q10, q_or]
          exact ⟨_, U1, rfl, rfl, h2.fw (by omega) e2, h3.tr e2⟩
        · rw [if_neg hCi] at e1
          rw [if_neg (fun h => hCi h.1)]
          simp (disch := omega) only [qlj, nI_add, pk_mul, qIX, qIN, qOB, qOL, qLE1, qLE0, qLT1, qLT0, qEQ1, qEQ0, qM0, qM1, qR, qN0, qMM, qNL1, qNL0, qNE1, qNE0, qB1, qB0, qOT, qOF, qGT, c_bitCount hi64, c_bitCount h64, e1]
          exact ⟨_, U1, rfl, rfl, h2.fw (by omega) e2, h3.tr e2⟩
      · rw [if_neg (fun h => he h.2)]
        simp (disch := omega) only [qlj, nI_add, pk_mul, qIX, qIN, qOB, qOL, qLE1, qLE0, qLT1, qLT0, qEQ1, qEQ0, qM0, qM1, qR, qN0, qMM, qNL1, qNL0, qNE1, qNE0, qB1, qB0, qOT, qOF, qGT, c_bitCount hi64, c_bitCount h64]
        exact ⟨_, T, rfl, rfl, h2, h3⟩
    · rintro a T ⟨rfl, h2, h3⟩
      refine ⟨_, T, ?_, rfl, h3⟩
      rw [show s0 + 1 + (63 - s0) = 64 by omega]
      show X7_suspects_29 (nI p) (nI s0) _ (nI 64) T = _
      unfold X7_suspects_29
      simp (disch := omega) only [qlj, nI_add, pk_mul, qIX, qIN, qOB, qOL, qLE1, qLE0, qLT1, qLT0, qEQ1, qEQ0, qM0, qM1, qR, qN0, qMM, qNL1, qNL0, qNE1, qNE0, qB1, qB0, qOT, qOF, qGT]
  obtain ⟨b, S', e1, e2, e3⟩ := key
  exact ⟨S', by rw [e1, e2], e3⟩
