/-! ===== capacities and policies ===== -/
theorem RM.setc {r : Rd} {c c' π : Nat} {S : St} (h : RM r c π S) (hW : RW r) : RM r c' π (si S 76 121 (nI c')) := by
  obtain ⟨h1, h2, h3, h4, h5⟩ := h
  have hn := hW.1
  refine ⟨?_, fun p hp => ⟨?_, ?_, ?_⟩, ?_, ?_, fun j hj h0 h2' => ?_⟩
  · rw [qG0 (by omega)]; exact h1
  · rw [qG0 (by omega)]; exact (h2 p hp).1
  · rw [qG0 (by omega)]; exact (h2 p hp).2.1
  · rw [qG0 (by omega)]; exact (h2 p hp).2.2
  · exact qG1 rfl rfl
  · rw [qG0 (by omega)]; exact h4
  · rw [qG0 (by omega)]; exact h5 j hj h0 h2'
theorem RM.setp {r : Rd} {c π π' : Nat} {S : St} (h : RM r c π S) (hW : RW r) : RM r c π' (si S 76 123 (nI π')) := by
  obtain ⟨h1, h2, h3, h4, h5⟩ := h
  have hn := hW.1
  refine ⟨?_, fun p hp => ⟨?_, ?_, ?_⟩, ?_, ?_, fun j hj h0 h2' => ?_⟩
  · rw [qG0 (by omega)]; exact h1
  · rw [qG0 (by omega)]; exact (h2 p hp).1
  · rw [qG0 (by omega)]; exact (h2 p hp).2.1
  · rw [qG0 (by omega)]; exact (h2 p hp).2.2
  · rw [qG0 (by omega)]; exact h3
  · exact qG1 rfl rfl
  · rw [qG0 (by omega)]; exact h5 j hj h0 h2'
def qcd (r : Rd) (π c : Nat) : Nat := (qpl r c π 63 r.n).dm
def qcf (r : Rd) (π d : Nat) : Nat := qfnd (fun i => decide (qcd r π (i + 1) ≤ d)) 1000
theorem qcd_le {r : Rd} {π c : Nat} (hW : RW r) : qcd r π c ≤ 40 := by
  have := (qpl_I (c := c) (π := π) (s := 63) hW r.n (Nat.le_refl _)).1.2.2.2.1
  have := hW.1
  unfold qcd
  omega
theorem qcf_sp {r : Rd} {π d : Nat} : qcf r π d ≤ 1000 ∧ (qcf r π d < 1000 → qcd r π (qcf r π d + 1) ≤ d) ∧ (∀ j, j < qcf r π d → d < qcd r π (j + 1)) := by
  obtain ⟨a, b, c⟩ := qfnd_sp (P := fun i => decide (qcd r π (i + 1) ≤ d)) 1000
  unfold qcf
  exact ⟨a, fun h => by simpa using b h, fun j hj => by simpa using c j hj⟩
theorem r_cap {r : Rd} {c0 π d : Nat} {x2 : Int32} {S : St} (hW : RW r) (hM : RM r c0 π S) (hpi : π ≤ 4) (hd : d < 2147483648) : ∃ S', X8_capacityFor_31L (nI d) x2 (-nI 1, nI 1) S = some (if qcf r π d < 1000 then nI (qcf r π d + 1) else -nI 1, S') ∧ Fr (fun a b => PRw a b ∨ (a = 76 ∧ b = 121)) S S' ∧ ∃ c1, RM r c1 π S' := by
  obtain ⟨k1, k2, k3⟩ := qcf_sp (r := r) (π := π) (d := d)
  have hstep : ∀ i T, i < 1000 → (∃ c1, RM r c1 π T) → Fr (fun a b => PRw a b ∨ (a = 76 ∧ b = 121)) S T → ∃ T', X8_capacityFor_31 (nI d) x2 (-nI 1) (nI (i + 1)) T = some (.inl (if d < qcd r π (i + 1) then -nI 1 else nI (i + 1), nI (i + 2)), T') ∧ (∃ c1, RM r c1 π T') ∧ Fr (fun a b => PRw a b ∨ (a = 76 ∧ b = 121)) S T' := by
    rintro i T hi ⟨c1, hMT⟩ hF
    have hM2 := hMT.setc (c' := i + 1) hW
    obtain ⟨T1, t, e1, e2, -, -, -, -, e3⟩ := r_replays (s := 63) hW hM2 (by omega) hpi (by omega)
    have h6 : gi T1 75 6 = nI (qcd r π (i + 1)) := e2.2.2.2.2.1
    have hq := qcd_le (r := r) (π := π) (c := i + 1) hW
    unfold X8_capacityFor_31
    by_cases h : d < qcd r π (i + 1)
    · rw [if_pos h]
      simp (disch := omega) only [qlj, nI_add, pk_mul, qIX, qIN, qOB, qOL, qLE1, qLE0, qLT1, qLT0, qEQ1, qEQ0, qM0, qM1, qR, qN0, qMM, qNL1, qNL0, qNE1, qNE0, qB1, qB0, qOT, qOF, qGT, e1, h6]
      exact ⟨T1, rfl, ⟨i + 1, hM2.fw e3⟩, (hF.si (Or.inr ⟨rfl, rfl⟩)).tr (e3.mono (fun a b h => Or.inl h))⟩
    · rw [if_neg h]
      simp (disch := omega) only [qlj, nI_add, pk_mul, qIX, qIN, qOB, qOL, qLE1, qLE0, qLT1, qLT0, qEQ1, qEQ0, qM0, qM1, qR, qN0, qMM, qNL1, qNL0, qNE1, qNE0, qB1, qB0, qOT, qOF, qGT, e1, h6]
      exact ⟨T1, rfl, ⟨i + 1, hM2.fw e3⟩, (hF.si (Or.inr ⟨rfl, rfl⟩)).tr (e3.mono (fun a b h => Or.inl h))⟩
  have key : ∃ b S', X8_capacityFor_31L (nI d) x2 (-nI 1, nI 1) S = some (b, S') ∧ (b = (if qcf r π d < 1000 then nI (qcf r π d + 1) else -nI 1) ∧ Fr (fun a b => PRw a b ∨ (a = 76 ∧ b = 121)) S S' ∧ ∃ c1, RM r c1 π S') := by
    unfold X8_capacityFor_31L
    refine lp_cnt (body := fun (a : Int32 × Int32) (S : St) => X8_capacityFor_31 (nI d) x2 a.1 a.2 S) (if qcf r π d < 1000 then qcf r π d + 1 else 1000) (fun i a T => (a = (if qcf r π d < i then nI i else -nI 1, nI (i + 1))) ∧ (∃ c1, RM r c1 π T) ∧ Fr (fun a b => PRw a b ∨ (a = 76 ∧ b = 121)) S T) _ ⟨rfl, ⟨c0, hM⟩, Fr.rf⟩ ?_ ?_
    · rintro i a T hi ⟨rfl, h1, h2⟩
      have hi' : i ≤ qcf r π d ∧ i < 1000 := by split at hi <;> omega
      obtain ⟨T', e1, e2, e3⟩ := hstep i T hi'.2 h1 h2
      refine ⟨_, T', ?_, rfl, e2, e3⟩
      rw [if_neg (show ¬ qcf r π d < i by omega)]
      show X8_capacityFor_31 (nI d) x2 (-nI 1) (nI (i + 1)) T = _
      rw [e1]
      by_cases h : d < qcd r π (i + 1)
      · rw [if_pos h]
        have : i ≠ qcf r π d := fun e => by have := k2 (by omega); rw [← e] at this; omega
        rw [if_neg (show ¬ qcf r π d < i + 1 by omega)]
      · rw [if_neg h]
        have : ¬ i < qcf r π d := fun e => h (k3 i e)
        rw [if_pos (show qcf r π d < i + 1 by omega)]
    · rintro a T ⟨rfl, h1, h2⟩
      by_cases h : qcf r π d < 1000
      · rw [if_pos h, if_pos h, if_pos (by omega)]
        refine ⟨_, T, ?_, rfl, h2, h1⟩
        show X8_capacityFor_31 (nI d) x2 (nI (qcf r π d + 1)) (nI (qcf r π d + 1 + 1)) T = _
        unfold X8_capacityFor_31
        by_cases h4 : 1000 < qcf r π d + 1 + 1
        · simp (disch := omega) only [qlj, nI_add, pk_mul, qIX, qIN, qOB, qOL, qLE1, qLE0, qLT1, qLT0, qEQ1, qEQ0, qM0, qM1, qR, qN0, qMM, qNL1, qNL0, qNE1, qNE0, qB1, qB0, qOT, qOF, qGT]
        · simp (disch := omega) only [qlj, nI_add, pk_mul, qIX, qIN, qOB, qOL, qLE1, qLE0, qLT1, qLT0, qEQ1, qEQ0, qM0, qM1, qR, qN0, qMM, qNL1, qNL0, qNE1, qNE0, qB1, qB0, qOT, qOF, qGT]
      · rw [if_neg h, if_neg h, if_neg (by omega)]
        refine ⟨_, T, ?_, rfl, h2, h1⟩
        show X8_capacityFor_31 (nI d) x2 (-nI 1) (nI (1000 + 1)) T = _
        unfold X8_capacityFor_31
        simp (disch := omega) only [qlj, nI_add, pk_mul, qIX, qIN, qOB, qOL, qLE1, qLE0, qLT1, qLT0, qEQ1, qEQ0, qM0, qM1, qR, qN0, qMM, qNL1, qNL0, qNE1, qNE0, qB1, qB0, qOT, qOF, qGT]
  obtain ⟨b, S', e1, e2, e3, e4⟩ := key
  exact ⟨S', by rw [e1, e2], e3, e4⟩
theorem c_cap {r : Rd} {d : Nat} {S : St} (hW : RW r) (hR : RC r S) (hd : d < 2147483648) : ∃ S', X7_capacityFor_16L (nI d) (nI 1) S = some (if qcf r (r.g 2) d < 1000 then .inl (nI (qcf r (r.g 2) d + 1)) else .inr (), S') ∧ Fr (PCw 58) S S' := by
  have hpi := hW.2.2.2.2.2.1
  obtain ⟨k1, k2, k3⟩ := qcf_sp (r := r) (π := r.g 2) (d := d)
  have key : ∃ b S', X7_capacityFor_16L (nI d) (nI 1) S = some (b, S') ∧ (b = (if qcf r (r.g 2) d < 1000 then .inl (nI (qcf r (r.g 2) d + 1)) else .inr ()) ∧ Fr (PCw 58) S S') := by
    unfold X7_capacityFor_16L
    refine lp_inv (body := fun (a : Int32) (S : St) => X7_capacityFor_16 (nI d) a S) (fun n a T => ∃ c, a = nI c ∧ n = 1002 - c ∧ 1 ≤ c ∧ c ≤ 1001 ∧ (∀ c', 1 ≤ c' → c' < c → d < qcd r (r.g 2) c') ∧ RC r T ∧ Fr (PCw 58) S T) _ ?_ 1001 (nI 1) S ⟨1, rfl, rfl, by omega, by omega, fun c' h1 h2 => by omega, hR, Fr.rf⟩
    rintro n a T ⟨c, rfl, rfl, hc1, hc2, hlt, hRT, hFT⟩
    have hge : c ≤ qcf r (r.g 2) d + 1 := by
      rcases Nat.lt_or_ge (qcf r (r.g 2) d + 1) c with h | h
      · have := hlt (qcf r (r.g 2) d + 1) (by omega) h
        have := k2 (by omega)
        omega
      · exact h
    show (∃ b S', X7_capacityFor_16 (nI d) (nI c) T = _ ∧ _) ∨ (∃ a' S' n', X7_capacityFor_16 (nI d) (nI c) T = _ ∧ _)
    by_cases h : 1000 < c
    · refine Or.inl ⟨.inr (), T, ?_, ?_, hFT⟩
      · unfold X7_capacityFor_16
        simp (disch := omega) only [qlj, nI_add, pk_mul, qIX, qIN, qOB, qOL, qLE1, qLE0, qLT1, qLT0, qEQ1, qEQ0, qM0, qM1, qR, qN0, qMM, qNL1, qNL0, qNE1, qNE0, qB1, qB0, qOT, qOF, qGT]
      · rw [if_neg (by omega)]
    · obtain ⟨T1, mc, mt, ml, e1, e2, -, -, e3⟩ := c_play (k := 58) (s := 63) (c := c) (π := r.g 2) hW hRT (by omega) (by omega) hpi (by omega)
      have h59 : gi T1 59 3 = nI (qcd r (r.g 2) c) := e2.2.1.2.2.1
      have h58 : gi T1 58 5 = nI (qpl r c (r.g 2) 63 r.n).nc := e2.1.2.1
      have hnc := qpl_nc1 (r := r) (c := c) (π := r.g 2) (s := 63) r.n
      have hq := qcd_le (r := r) (π := r.g 2) (c := c) hW
      have h52 : gi T 5 2 = nI (r.g 2) := hRT.2.2 2 (by omega)
      by_cases hdc : d < qcd r (r.g 2) c
      · refine Or.inr ⟨nI (max (c + 1) (qpl r c (r.g 2) 63 r.n).nc), T1, 1002 - max (c + 1) (qpl r c (r.g 2) 63 r.n).nc, ?_, by omega, max (c + 1) (qpl r c (r.g 2) 63 r.n).nc, rfl, rfl, by omega, by omega, fun c' h1 h2 => ?_, hRT.fw (by omega) e3, hFT.tr e3⟩
        · unfold X7_capacityFor_16
          by_cases hx : c + 1 < (qpl r c (r.g 2) 63 r.n).nc
          · simp (disch := omega) only [qlj, nI_add, pk_mul, qIX, qIN, qOB, qOL, qLE1, qLE0, qLT1, qLT0, qEQ1, qEQ0, qM0, qM1, qR, qN0, qMM, qNL1, qNL0, qNE1, qNE0, qB1, qB0, qOT, qOF, qGT, h52, e1, h59, h58, qTL1]
            rw [Nat.max_eq_right (by omega)]
          · simp (disch := omega) only [qlj, nI_add, pk_mul, qIX, qIN, qOB, qOL, qLE1, qLE0, qLT1, qLT0, qEQ1, qEQ0, qM0, qM1, qR, qN0, qMM, qNL1, qNL0, qNE1, qNE0, qB1, qB0, qOT, qOF, qGT, h52, e1, h59, h58, qTL0]
            rw [Nat.max_eq_left (by omega)]
        · rcases Nat.lt_or_ge c' c with h3 | h3
          · exact hlt c' h1 h3
          · have he : qcd r (r.g 2) c' = qcd r (r.g 2) c := by
              by_cases e : c' = c
              · rw [e]
              · unfold qcd
                rw [qpl_nc (c := c) (c' := c') h3 r.n (by omega)]
            omega
      · refine Or.inl ⟨.inl (nI c), T1, ?_, ?_, hFT.tr e3⟩
        · unfold X7_capacityFor_16
          simp (disch := omega) only [qlj, nI_add, pk_mul, qIX, qIN, qOB, qOL, qLE1, qLE0, qLT1, qLT0, qEQ1, qEQ0, qM0, qM1, qR, qN0, qMM, qNL1, qNL0, qNE1, qNE0, qB1, qB0, qOT, qOF, qGT, h52, e1, h59, h58]
        · have : c = qcf r (r.g 2) d + 1 := by
            rcases Nat.lt_or_ge (c - 1) (qcf r (r.g 2) d) with h4 | h4
            · have := k3 (c - 1) h4
              rw [show c - 1 + 1 = c by omega] at this
              omega
            · omega
          rw [if_pos (by omega), this]
  obtain ⟨b, S', e1, e2, e3⟩ := key
  exact ⟨S', by rw [e1, e2], e3⟩
def qbw (r : Rd) (c π : Nat) : Nat := qw r c π 63 6
theorem r_best {r : Rd} {c π0 : Nat} {x1 : Int32} {S : St} (hW : RW r) (hM : RM r c π0 S) (hc2 : c ≤ 1000) : ∃ S', X8_bestPolicy_20L x1 (nI 0, nI 0, nI 0) S = some (nI (qamin (qbw r c) 5), S') ∧ Fr (fun a b => PRw a b ∨ (a = 76 ∧ b = 123)) S S' ∧ ∃ π1, RM r c π1 S' := by
  have hw6 : ∀ π, qbw r c π ≤ 184000 := fun π => qw_le hW
  have hv : qvi 6 = -nI 1 := rfl
  have key : ∃ b S', X8_bestPolicy_20L x1 (nI 0, nI 0, nI 0) S = some (b, S') ∧ (b = nI (qamin (qbw r c) 5) ∧ Fr (fun a b => PRw a b ∨ (a = 76 ∧ b = 123)) S S' ∧ ∃ π1, RM r c π1 S') := by
    unfold X8_bestPolicy_20L
    refine lp_cnt (body := fun (a : Int32 × Int32 × Int32) (S : St) => X8_bestPolicy_20 x1 a.1 a.2.1 a.2.2 S) 5 (fun i a T => (∃ b, a = (nI (qamin (qbw r c) i), nI b, nI i) ∧ (0 < i → b = qbw r c (qamin (qbw r c) i))) ∧ (∃ π1, RM r c π1 T) ∧ Fr (fun a b => PRw a b ∨ (a = 76 ∧ b = 123)) S T) _ ⟨⟨0, rfl, fun h => absurd h (Nat.lt_irrefl _)⟩, ⟨π0, hM⟩, Fr.rf⟩ ?_ ?_
    · rintro i a T hi ⟨⟨b, rfl, hb⟩, ⟨π1, h1⟩, h2⟩
      have hM2 := h1.setp (π' := i) hW
      obtain ⟨T1, e1, e3⟩ := r_worthOf (s := 63) (v := 6) hW hM2 hc2 (by omega) (by omega)
      rw [hv] at e1
      have e1' : X8_worthOf (nI 63) (-nI 1) (si T 76 123 (nI i)) = some (nI (qbw r c i), T1) := e1
      have hF := (h2.si (x := nI i) (show PRw 76 123 ∨ (76 = 76 ∧ 123 = 123) from Or.inr ⟨rfl, rfl⟩)).tr (e3.mono (fun a b h => Or.inl h))
      have d1 := hw6 i
      show ∃ a' S', X8_bestPolicy_20 x1 (nI (qamin (qbw r c) i)) (nI b) (nI i) T = _ ∧ _
      rw [qamin]
      unfold X8_bestPolicy_20 X8_bestPolicy_55 X8_bestPolicy_61
      by_cases h0 : i = 0
      · subst h0
        simp (disch := omega) only [qlj, nI_add, pk_mul, qIX, qIN, qOB, qOL, qLE1, qLE0, qLT1, qLT0, qEQ1, qEQ0, qM0, qM1, qR, qN0, qMM, qNL1, qNL0, qNE1, qNE0, qB1, qB0, qOT, qOF, qGT, e1']
        refine ⟨_, T1, rfl, ⟨qbw r c 0, ?_, fun _ => ?_⟩, ⟨0, hM2.fw e3⟩, hF⟩
        · simp [qamin]
        · simp [qamin]
      · have hb' := hb (by omega)
        have d2 := hw6 (qamin (qbw r c) i)
        by_cases hlt : qbw r c i < qbw r c (qamin (qbw r c) i)
        · rw [if_pos hlt]
          simp (disch := omega) only [qlj, nI_add, pk_mul, qIX, qIN, qOB, qOL, qLE1, qLE0, qLT1, qLT0, qEQ1, qEQ0, qM0, qM1, qR, qN0, qMM, qNL1, qNL0, qNE1, qNE0, qB1, qB0, qOT, qOF, qGT, e1']
          exact ⟨_, T1, rfl, ⟨qbw r c i, rfl, fun _ => rfl⟩, ⟨i, hM2.fw e3⟩, hF⟩
        · rw [if_neg hlt]
          simp (disch := omega) only [qlj, nI_add, pk_mul, qIX, qIN, qOB, qOL, qLE1, qLE0, qLT1, qLT0, qEQ1, qEQ0, qM0, qM1, qR, qN0, qMM, qNL1, qNL0, qNE1, qNE0, qB1, qB0, qOT, qOF, qGT, e1']
          exact ⟨_, T1, rfl, ⟨b, rfl, fun _ => hb'⟩, ⟨i, hM2.fw e3⟩, hF⟩
    · rintro a T ⟨⟨b, rfl, hb⟩, h1, h2⟩
      refine ⟨_, T, ?_, rfl, h2, h1⟩
      show X8_bestPolicy_20 x1 (nI (qamin (qbw r c) 5)) (nI b) (nI 5) T = _
      unfold X8_bestPolicy_20
      simp (disch := omega) only [qlj, nI_add, pk_mul, qIX, qIN, qOB, qOL, qLE1, qLE0, qLT1, qLT0, qEQ1, qEQ0, qM0, qM1, qR, qN0, qMM, qNL1, qNL0, qNE1, qNE0, qB1, qB0, qOT, qOF, qGT]
  obtain ⟨b, S', e1, e2, e3, e4⟩ := key
  exact ⟨S', by rw [e1, e2], e3, e4⟩
theorem c_best {r : Rd} {S : St} (hW : RW r) (hR : RC r S) : ∃ S', X7_bestPolicy_6L (nI 0, nI 0, nI 0) S = some (nI (qamin (qbw r (r.g 0)) 5), S') ∧ Fr (PCw 58) S S' := by
  have hg0 := hW.2.2.2.1
  have hw6 : ∀ π, qbw r (r.g 0) π ≤ 184000 := fun π => qw_le hW
  have hv : qvi 6 = -nI 1 := rfl
  have key : ∃ b S', X7_bestPolicy_6L (nI 0, nI 0, nI 0) S = some (b, S') ∧ (b = nI (qamin (qbw r (r.g 0)) 5) ∧ Fr (PCw 58) S S') := by
    unfold X7_bestPolicy_6L
    refine lp_cnt (body := fun (a : Int32 × Int32 × Int32) (S : St) => X7_bestPolicy_6 a.1 a.2.1 a.2.2 S) 5 (fun i a T => (∃ b, a = (nI (qamin (qbw r (r.g 0)) i), nI b, nI i) ∧ (0 < i → b = qbw r (r.g 0) (qamin (qbw r (r.g 0)) i))) ∧ RC r T ∧ Fr (PCw 58) S T) _ ⟨⟨0, rfl, fun h => absurd h (Nat.lt_irrefl _)⟩, hR, Fr.rf⟩ ?_ ?_
    · rintro i a T hi ⟨⟨b, rfl, hb⟩, h1, h2⟩
      obtain ⟨T1, mc, mt, ml, e1, e2, -, -, e3⟩ := c_play (k := 58) (s := 63) (c := r.g 0) (π := i) hW h1 (by omega) hg0.2 (by omega) (by omega)
      have hR1 := h1.fw (by omega) e3
      have hm := c_measure (v := 6) hW hR1 e2
      rw [hv] at hm
      have hm' : X5_measureFor 58 (-nI 1) T1 = some (nI (qbw r (r.g 0) i), T1) := hm
      have h50 : gi T 5 0 = nI (r.g 0) := h1.2.2 0 (by omega)
      have hF := h2.tr e3
      have d1 := hw6 i
      show ∃ a' S', X7_bestPolicy_6 (nI (qamin (qbw r (r.g 0)) i)) (nI b) (nI i) T = _ ∧ _
      rw [qamin]
      unfold X7_bestPolicy_6 X7_bestPolicy_50
      by_cases h0 : i = 0
      · subst h0
        simp (disch := omega) only [qlj, nI_add, pk_mul, qIX, qIN, qOB, qOL, qLE1, qLE0, qLT1, qLT0, qEQ1, qEQ0, qM0, qM1, qR, qN0, qMM, qNL1, qNL0, qNE1, qNE0, qB1, qB0, qOT, qOF, qGT, h50, e1, hm']
        refine ⟨_, T1, rfl, ⟨qbw r (r.g 0) 0, ?_, fun _ => ?_⟩, hR1, hF⟩
        · simp [qamin]
        · simp [qamin]
      · have hb' := hb (by omega)
        have d2 := hw6 (qamin (qbw r (r.g 0)) i)
        by_cases hlt : qbw r (r.g 0) i < qbw r (r.g 0) (qamin (qbw r (r.g 0)) i)
        · rw [if_pos hlt]
          simp (disch := omega) only [qlj, nI_add, pk_mul, qIX, qIN, qOB, qOL, qLE1, qLE0, qLT1, qLT0, qEQ1, qEQ0, qM0, qM1, qR, qN0, qMM, qNL1, qNL0, qNE1, qNE0, qB1, qB0, qOT, qOF, qGT, h50, e1, hm']
          exact ⟨_, T1, rfl, ⟨qbw r (r.g 0) i, rfl, fun _ => rfl⟩, hR1, hF⟩
        · rw [if_neg hlt]
          simp (disch := omega) only [qlj, nI_add, pk_mul, qIX, qIN, qOB, qOL, qLE1, qLE0, qLT1, qLT0, qEQ1, qEQ0, qM0, qM1, qR, qN0, qMM, qNL1, qNL0, qNE1, qNE0, qB1, qB0, qOT, qOF, qGT, h50, e1, hm']
          exact ⟨_, T1, rfl, ⟨b, rfl, fun _ => hb'⟩, hR1, hF⟩
    · rintro a T ⟨⟨b, rfl, hb⟩, h1, h2⟩
      refine ⟨_, T, ?_, rfl, h2⟩
      show X7_bestPolicy_6 (nI (qamin (qbw r (r.g 0)) 5)) (nI b) (nI 5) T = _
      unfold X7_bestPolicy_6
      simp (disch := omega) only [qlj, nI_add, pk_mul, qIX, qIN, qOB, qOL, qLE1, qLE0, qLT1, qLT0, qEQ1, qEQ0, qM0, qM1, qR, qN0, qMM, qNL1, qNL0, qNE1, qNE0, qB1, qB0, qOT, qOF, qGT]
  obtain ⟨b, S', e1, e2, e3⟩ := key
  exact ⟨S', by rw [e1, e2], e3⟩
