/-! ===== recording, erasing, setting, undoing ===== -/
def qip (t : Nat → Nat) (tm : Nat) : Nat → Nat
  | 0 => 0
  | n + 1 => if tm < t n then qip t tm n else n + 1
theorem qip_sp {t : Nat → Nat} {tm : Nat} : ∀ (n : Nat), qip t tm n ≤ n ∧ (∀ j, qip t tm n ≤ j → j < n → tm < t j) ∧ (0 < qip t tm n → t (qip t tm n - 1) ≤ tm) := by
  intro n
  induction n with
  | zero => exact ⟨Nat.le_refl _, fun j _ h => by omega, fun h => absurd h (Nat.lt_irrefl _)⟩
  | succ n ih =>
    obtain ⟨a, b, c⟩ := ih
    rw [qip]
    split
    · rename_i h
      refine ⟨by omega, fun j h1 h2 => ?_, c⟩
      by_cases e : j = n
      · rw [e]; exact h
      · exact b j h1 (by omega)
    · rename_i h
      exact ⟨Nat.le_refl _, fun j h1 h2 => by omega, fun _ => by rw [Nat.add_sub_cancel]; omega⟩
def qins (v : Nat → Nat) (K x j : Nat) : Nat := if j < K then v j else if j = K then x else v (j - 1)
def qir (r : Rd) (tm fl sz : Nat) : Rd := (r.n + 1, qins r.t (qip r.t tm r.n) tm, qins r.f (qip r.t tm r.n) fl, qins r.z (qip r.t tm r.n) sz, r.g)
theorem qir_W {r : Rd} {tm fl sz : Nat} (hW : RW r) (hn : r.n < 40) (h1 : tm ≤ 500) (h2 : fl < 6) (h3 : 1 ≤ sz) (h4 : sz ≤ 100) : RW (qir r tm fl sz) := by
  obtain ⟨k1, k2, k3⟩ := qip_sp (t := r.t) (tm := tm) r.n
  obtain ⟨a1, a2, a3, a4⟩ := hW
  unfold qir RW
  simp only [rd_n, rd_t, rd_f, rd_z, rd_g]
  generalize qip r.t tm r.n = K at *
  refine ⟨by omega, fun p hp => ?_, fun p q hpq hq => ?_, a4⟩
  · unfold qins
    by_cases e1 : p < K
    · rw [if_pos e1, if_pos e1, if_pos e1]; exact a2 p (by omega)
    · rw [if_neg e1, if_neg e1, if_neg e1]
      by_cases e2 : p = K
      · rw [if_pos e2, if_pos e2, if_pos e2]; exact ⟨h1, h2, h3, h4⟩
      · rw [if_neg e2, if_neg e2, if_neg e2]; exact a2 (p - 1) (by omega)
  · have hlow : ∀ j, j < K → r.t j ≤ tm := fun j hj => by
      have x1 := k3 (by omega)
      have x2 := a3 j (K - 1) (by omega) (by omega)
      omega
    unfold qins
    by_cases e1 : p < K
    · rw [if_pos e1]
      by_cases f1 : q < K
      · rw [if_pos f1]; exact a3 p q hpq (by omega)
      · rw [if_neg f1]
        by_cases f2 : q = K
        · rw [if_pos f2]; exact hlow p e1
        · rw [if_neg f2]; exact a3 p (q - 1) (by omega) (by omega)
    · rw [if_neg e1, if_neg (show ¬ q < K by omega)]
      by_cases e2 : p = K
      · rw [if_pos e2]
        by_cases f2 : q = K
        · rw [if_pos f2]; exact Nat.le_refl _
        · rw [if_neg f2]; exact Nat.le_of_lt (k2 (q - 1) (by omega) (by omega))
      · rw [if_neg e2, if_neg (show ¬ q = K by omega)]
        exact a3 (p - 1) (q - 1) (by omega) (by omega)
theorem c_insert {r : Rd} {tm fl sz : Nat} {S : St} (hW : RW r) (hR : RC r S) (hn : r.n < 40) (h1 : tm ≤ 500) : ∃ S', X4_insert 1 (nI tm) (nI fl) (nI sz) S = some (nI (qip r.t tm r.n), S') ∧ RC (qir r tm fl sz) S' ∧ Fr (fun a _ => 1 ≤ a ∧ a ≤ 5) S S' := by
  obtain ⟨k1, k2, k3⟩ := qip_sp (t := r.t) (tm := tm) r.n
  obtain ⟨q1, q2, q3⟩ := hR
  have hfull : X4_isFull 1 S = some (nI 0, S) := by unfold X4_isFull; simp (disch := omega) only [qlj, nI_add, pk_mul, qIX, qIN, qOB, qOL, qLE1, qLE0, qLT1, qLT0, qEQ1, qEQ0, qM0, qM1, qR, qN0, qMM, qNL1, qNL0, qNE1, qNE0, qB1, qB0, qOT, qOF, qGT, q1]
  have hl : X4_insert_15L 1 (nI tm) (nI fl) (nI sz) (nI r.n) S = some (nI (qip r.t tm r.n), S) := by
    unfold X4_insert_15L
    have h := lp_same (body := fun (a : Int32) (S : St) => X4_insert_15 1 (nI tm) (nI fl) (nI sz) a S) (b := nI (qip r.t tm r.n)) (S := S) (T' := S) (r.n - qip r.t tm r.n) (fun j => nI (r.n - j)) (fun j hj => ?_) ?_
    · exact h
    · have x1 := k2 (r.n - j - 1) (by omega) (by omega)
      have x2 : gi S (1 + 1) (r.n - j - 1) = nI (r.t (r.n - j - 1)) := (q2 _ (by omega)).1
      have x3 := (hW.2.1 (r.n - j - 1) (by omega)).1
      show X4_insert_15 1 (nI tm) (nI fl) (nI sz) (nI (r.n - j)) S = _
      unfold X4_insert_15
      simp (disch := omega) only [qlj, nI_add, pk_mul, qIX, qIN, qOB, qOL, qLE1, qLE0, qLT1, qLT0, qEQ1, qEQ0, qM0, qM1, qR, qN0, qMM, qNL1, qNL0, qNE1, qNE0, qB1, qB0, qOT, qOF, qGT, qSUB, x2, qM]
      rw [show r.n - j - 1 = r.n - (j + 1) by omega]
    · rw [show r.n - (r.n - qip r.t tm r.n) = qip r.t tm r.n by omega]
      show X4_insert_15 1 (nI tm) (nI fl) (nI sz) (nI (qip r.t tm r.n)) S = _
      unfold X4_insert_15
      by_cases h0 : qip r.t tm r.n = 0
      · simp (disch := omega) only [qlj, nI_add, pk_mul, qIX, qIN, qOB, qOL, qLE1, qLE0, qLT1, qLT0, qEQ1, qEQ0, qM0, qM1, qR, qN0, qMM, qNL1, qNL0, qNE1, qNE0, qB1, qB0, qOT, qOF, qGT]
      · have x1 := k3 (by omega)
        have x2 : gi S (1 + 1) (qip r.t tm r.n - 1) = nI (r.t (qip r.t tm r.n - 1)) := (q2 _ (by omega)).1
        simp (disch := omega) only [qlj, nI_add, pk_mul, qIX, qIN, qOB, qOL, qLE1, qLE0, qLT1, qLT0, qEQ1, qEQ0, qM0, qM1, qR, qN0, qMM, qNL1, qNL0, qNE1, qNE0, qB1, qB0, qOT, qOF, qGT, qSUB, x2]
  unfold qir
  generalize hK : qip r.t tm r.n = K at *
  have hsh : X4_shift 1 (nI K) (nI (K + 1)) S = some ((), sc (sc (sc S 2 2 K (K + 1) (r.n - K)) 3 3 K (K + 1) (r.n - K)) 4 4 K (K + 1) (r.n - K)) := by
    unfold X4_shift
    simp (disch := omega) only [qlj, nI_add, pk_mul, qIX, qIN, qOB, qOL, qLE1, qLE0, qLT1, qLT0, qEQ1, qEQ0, qM0, qM1, qR, qN0, qMM, qNL1, qNL0, qNE1, qNE0, qB1, qB0, qOT, qOF, qGT, q1, qSUB, qCP, qC0]
  unfold X4_insert
  simp (disch := omega) only [qlj, nI_add, pk_mul, qIX, qIN, qOB, qOL, qLE1, qLE0, qLT1, qLT0, qEQ1, qEQ0, qM0, qM1, qR, qN0, qMM, qNL1, qNL0, qNE1, qNE0, qB1, qB0, qOT, qOF, qGT, hfull, q1, hl, hsh, qG0, qC0]
  refine ⟨_, rfl, ⟨?_, fun p hp => ?_, fun j hj => ?_⟩, ?_⟩
  · simp (disch := omega) only [qlj, nI_add, pk_mul, qIX, qIN, qOB, qOL, qLE1, qLE0, qLT1, qLT0, qEQ1, qEQ0, qM0, qM1, qR, qN0, qMM, qNL1, qNL0, qNE1, qNE0, qB1, qB0, qOT, qOF, qGT, qG1]; rfl
  · have hp' : p < r.n + 1 := hp
    show _ = nI (qins r.t K tm p) ∧ _ = nI (qins r.f K fl p) ∧ _ = nI (qins r.z K sz p)
    unfold qins
    by_cases e1 : p < K
    · rw [if_pos e1, if_pos e1, if_pos e1]
      simp (disch := omega) only [qlj, nI_add, pk_mul, qIX, qIN, qOB, qOL, qLE1, qLE0, qLT1, qLT0, qEQ1, qEQ0, qM0, qM1, qR, qN0, qMM, qNL1, qNL0, qNE1, qNE0, qB1, qB0, qOT, qOF, qGT, qG0, qC0, qC2]
      exact q2 p (by omega)
    · rw [if_neg e1, if_neg e1, if_neg e1]
      by_cases e2 : p = K
      · rw [if_pos e2, if_pos e2, if_pos e2]
        subst e2
        refine ⟨?_, ?_, ?_⟩
        · simp (disch := omega) only [qlj, nI_add, pk_mul, qIX, qIN, qOB, qOL, qLE1, qLE0, qLT1, qLT0, qEQ1, qEQ0, qM0, qM1, qR, qN0, qMM, qNL1, qNL0, qNE1, qNE0, qB1, qB0, qOT, qOF, qGT, qG0, qG1]
        · simp (disch := omega) only [qlj, nI_add, pk_mul, qIX, qIN, qOB, qOL, qLE1, qLE0, qLT1, qLT0, qEQ1, qEQ0, qM0, qM1, qR, qN0, qMM, qNL1, qNL0, qNE1, qNE0, qB1, qB0, qOT, qOF, qGT, qG0, qG1]
        · simp (disch := omega) only [qlj, nI_add, pk_mul, qIX, qIN, qOB, qOL, qLE1, qLE0, qLT1, qLT0, qEQ1, qEQ0, qM0, qM1, qR, qN0, qMM, qNL1, qNL0, qNE1, qNE0, qB1, qB0, qOT, qOF, qGT, qG0, qG1]
      · rw [if_neg e2, if_neg e2, if_neg e2]
        simp (disch := omega) only [qlj, nI_add, pk_mul, qIX, qIN, qOB, qOL, qLE1, qLE0, qLT1, qLT0, qEQ1, qEQ0, qM0, qM1, qR, qN0, qMM, qNL1, qNL0, qNE1, qNE0, qB1, qB0, qOT, qOF, qGT, qG0, qC0, qC1]
        rw [show K + (p - (K + 1)) = p - 1 by omega]
        exact q2 (p - 1) (by omega)
  · simp (disch := omega) only [qlj, nI_add, pk_mul, qIX, qIN, qOB, qOL, qLE1, qLE0, qLT1, qLT0, qEQ1, qEQ0, qM0, qM1, qR, qN0, qMM, qNL1, qNL0, qNE1, qNE0, qB1, qB0, qOT, qOF, qGT, qG0, qC0]; exact q3 j hj
  · refine Fr.si (Fr.si (Fr.si (Fr.si (Fr.sc (Fr.sc (Fr.sc Fr.rf ?_) ?_) ?_) ?_) ?_) ?_) ?_
    all_goals first | (intro j; omega) | omega
theorem r_records {r : Rd} {tm fl sz : Nat} {T : St} (hW : RW r) (hM : RMa 76 0 r T) (hn : r.n < 40) (h1 : tm ≤ 500) : ∃ T', X8_records (nI tm) (nI fl) (nI sz) T = some (nI (qip r.t tm r.n), T') ∧ RMa 76 0 (qir r tm fl sz) T' ∧ Fr (fun a _ => a = 76) T T' := by
  obtain ⟨k1, k2, k3⟩ := qip_sp (t := r.t) (tm := tm) r.n
  obtain ⟨q1, q2, q3⟩ := hM
  have q2' : ∀ p, p < r.n → gi T 76 (1 + 3 * p) = nI (r.t p) ∧ gi T 76 (1 + 3 * p + 1) = nI (r.f p) ∧ gi T 76 (1 + 3 * p + 2) = nI (r.z p) := fun p hp => by
    have := q2 p hp; rw [Nat.zero_add, Nat.zero_add, Nat.zero_add] at this; exact this
  have hof : ∀ (U : St) p w, p < 40 → w ≤ 2 → X8_of (nI p) (nI w) U = some (gi U 76 (1 + 3 * p + w), U) := by
    intro U p w hp hw
    unfold X8_of
    simp (disch := omega) only [qlj, nI_add, pk_mul, qIX, qIN, qOB, qOL, qLE1, qLE0, qLT1, qLT0, qEQ1, qEQ0, qM0, qM1, qR, qN0, qMM, qNL1, qNL0, qNE1, qNE0, qB1, qB0, qOT, qOF, qGT]
  have h29 : ∀ (U : St) at_, 1 ≤ at_ → at_ ≤ 39 → X8_records_29L (nI tm) (nI fl) (nI sz) (nI at_) (nI 0) U = some ((), sc U 76 76 (1 + 3 * (at_ - 1)) (1 + 3 * at_) 3) := by
    intro U at_ ha hb
    unfold X8_records_29L
    have h := lp_for (body := fun (a : Int32) (S : St) => X8_records_29 (nI tm) (nI fl) (nI sz) (nI at_) a S) (b := ()) (T' := sc U 76 76 (1 + 3 * (at_ - 1)) (1 + 3 * at_) 3) 3 (fun i => nI i) (fun i => sc U 76 76 (1 + 3 * (at_ - 1)) (1 + 3 * at_) i) (fun i hi => ?_) ?_
    · rw [sc_0] at h; exact h
    · have h1 := sc_si (S := U) (q := 76) (k := 76) (sp := 1 + 3 * (at_ - 1)) (dp := 1 + 3 * at_) (i := i)
      show X8_records_29 (nI tm) (nI fl) (nI sz) (nI at_) (nI i) (sc U 76 76 (1 + 3 * (at_ - 1)) (1 + 3 * at_) i) = _
      unfold X8_records_29
      simp (disch := omega) only [qlj, nI_add, pk_mul, qIX, qIN, qOB, qOL, qLE1, qLE0, qLT1, qLT0, qEQ1, qEQ0, qM0, qM1, qR, qN0, qMM, qNL1, qNL0, qNE1, qNE0, qB1, qB0, qOT, qOF, qGT, qSUB, hof]
      rw [qC2 rfl (by omega), h1]
    · show X8_records_29 (nI tm) (nI fl) (nI sz) (nI at_) (nI 3) _ = _
      unfold X8_records_29
      simp (disch := omega) only [qlj, nI_add, pk_mul, qIX, qIN, qOB, qOL, qLE1, qLE0, qLT1, qLT0, qEQ1, qEQ0, qM0, qM1, qR, qN0, qMM, qNL1, qNL0, qNE1, qNE0, qB1, qB0, qOT, qOF, qGT]
  have h8 : ∃ b T1, X8_records_8L (nI tm) (nI fl) (nI sz) (nI r.n) T = some (b, T1) ∧ (b = nI (qip r.t tm r.n) ∧ (∀ y, gi T1 76 y = if 1 + 3 * qip r.t tm r.n + 3 ≤ y ∧ y < 1 + 3 * r.n + 3 then gi T 76 (y - 3) else if 1 + 3 * qip r.t tm r.n ≤ y ∧ y < 1 + 3 * qip r.t tm r.n + 3 then gi T1 76 y else gi T 76 y) ∧ Fr (fun a _ => a = 76) T T1) := by
    unfold X8_records_8L
    refine lp_cnt (body := fun (a : Int32) (S : St) => X8_records_8 (nI tm) (nI fl) (nI sz) a S) (r.n - qip r.t tm r.n) (fun i a U => a = nI (r.n - i) ∧ (∀ y, y < 1 + 3 * (r.n - i) → gi U 76 y = gi T 76 y) ∧ (∀ y, 1 + 3 * (r.n - i) + 3 ≤ y → y < 1 + 3 * r.n + 3 → gi U 76 y = gi T 76 (y - 3)) ∧ (∀ y, 1 + 3 * r.n + 3 ≤ y → gi U 76 y = gi T 76 y) ∧ Fr (fun a _ => a = 76) T U) _ ⟨rfl, fun y _ => rfl, fun y a b => by omega, fun y _ => rfl, Fr.rf⟩ ?_ ?_
    · rintro i a U hi ⟨rfl, u1, u2, u3, u4⟩
      have x1 := k2 (r.n - i - 1) (by omega) (by omega)
      have x3 := (hW.2.1 (r.n - i - 1) (by omega)).1
      have x4 : gi U 76 (1 + 3 * (r.n - i - 1) + 0) = nI (r.t (r.n - i - 1)) := by
        rw [Nat.add_zero, u1 _ (by omega)]; exact (q2' _ (by omega)).1
      have x5 := h29 U (r.n - i) (by omega) (by omega)
      show ∃ a' S', X8_records_8 (nI tm) (nI fl) (nI sz) (nI (r.n - i)) U = _ ∧ _
      unfold X8_records_8
      simp (disch := omega) only [qlj, nI_add, pk_mul, qIX, qIN, qOB, qOL, qLE1, qLE0, qLT1, qLT0, qEQ1, qEQ0, qM0, qM1, qR, qN0, qMM, qNL1, qNL0, qNE1, qNE0, qB1, qB0, qOT, qOF, qGT, qSUB, hof, x4, x5, qM]
      refine ⟨_, _, rfl, by rw [show r.n - i - 1 = r.n - (i + 1) by omega], fun y hy => ?_, fun y ha hb => ?_, fun y hy => ?_, u4.sc (fun j => rfl)⟩
      · rw [qC2 rfl (by omega)]; exact u1 y (by omega)
      · by_cases hy : y < 1 + 3 * (r.n - i) + 3
        · rw [qC1 rfl (by omega) (by omega), show 1 + 3 * (r.n - i - 1) + (y - (1 + 3 * (r.n - i))) = y - 3 by omega, u1 _ (by omega)]
        · rw [qC2 rfl (by omega)]; exact u2 y (by omega) hb
      · rw [qC2 rfl (by omega)]; exact u3 y hy
    · rintro a U ⟨rfl, u1, u2, u3, u4⟩
      rw [show r.n - (r.n - qip r.t tm r.n) = qip r.t tm r.n by omega] at u1 u2 ⊢
      refine ⟨_, U, ?_, rfl, fun y => ?_, u4⟩
      · show X8_records_8 (nI tm) (nI fl) (nI sz) (nI (qip r.t tm r.n)) U = _
        unfold X8_records_8
        by_cases h0 : qip r.t tm r.n = 0
        · simp (disch := omega) only [qlj, nI_add, pk_mul, qIX, qIN, qOB, qOL, qLE1, qLE0, qLT1, qLT0, qEQ1, qEQ0, qM0, qM1, qR, qN0, qMM, qNL1, qNL0, qNE1, qNE0, qB1, qB0, qOT, qOF, qGT]
        · have x1 := k3 (by omega)
          have x4 : gi U 76 (1 + 3 * (qip r.t tm r.n - 1) + 0) = nI (r.t (qip r.t tm r.n - 1)) := by
            rw [Nat.add_zero, u1 _ (by omega)]; exact (q2' _ (by omega)).1
          simp (disch := omega) only [qlj, nI_add, pk_mul, qIX, qIN, qOB, qOL, qLE1, qLE0, qLT1, qLT0, qEQ1, qEQ0, qM0, qM1, qR, qN0, qMM, qNL1, qNL0, qNE1, qNE0, qB1, qB0, qOT, qOF, qGT, qSUB, hof, x4]
      · by_cases e1 : 1 + 3 * qip r.t tm r.n + 3 ≤ y ∧ y < 1 + 3 * r.n + 3
        · rw [if_pos e1]; exact u2 y e1.1 e1.2
        · rw [if_neg e1]
          by_cases e2 : 1 + 3 * qip r.t tm r.n ≤ y ∧ y < 1 + 3 * qip r.t tm r.n + 3
          · rw [if_pos e2]
          · rw [if_neg e2]
            by_cases e3 : y < 1 + 3 * qip r.t tm r.n
            · exact u1 y e3
            · exact u3 y (by omega)
  obtain ⟨b, T1, e1, rfl, e2, e3⟩ := h8
  unfold qir
  generalize hK : qip r.t tm r.n = K at *
  have e20 : gi T1 76 0 = nI r.n := by rw [e2 0, if_neg (by omega), if_neg (by omega)]; exact q1
  unfold X8_records
  have q1' : gi T 76 0 = nI r.n := q1
  simp (disch := omega) only [qlj, nI_add, pk_mul, qIX, qIN, qOB, qOL, qLE1, qLE0, qLT1, qLT0, qEQ1, qEQ0, qM0, qM1, qR, qN0, qMM, qNL1, qNL0, qNE1, qNE0, qB1, qB0, qOT, qOF, qGT, q1', e1, qG0, e20]
  refine ⟨_, rfl, ⟨?_, fun p hp => ?_, fun j hj => ?_⟩, ?_⟩
  · simp (disch := omega) only [qlj, nI_add, pk_mul, qIX, qIN, qOB, qOL, qLE1, qLE0, qLT1, qLT0, qEQ1, qEQ0, qM0, qM1, qR, qN0, qMM, qNL1, qNL0, qNE1, qNE0, qB1, qB0, qOT, qOF, qGT, qG1]; rfl
  · have hp' : p < r.n + 1 := hp
    show _ = nI (qins r.t K tm p) ∧ _ = nI (qins r.f K fl p) ∧ _ = nI (qins r.z K sz p)
    unfold qins
    by_cases c1 : p < K
    · rw [if_pos c1, if_pos c1, if_pos c1]
      have := q2' p (by omega)
      refine ⟨?_, ?_, ?_⟩
      · simp (disch := omega) only [qlj, nI_add, pk_mul, qIX, qIN, qOB, qOL, qLE1, qLE0, qLT1, qLT0, qEQ1, qEQ0, qM0, qM1, qR, qN0, qMM, qNL1, qNL0, qNE1, qNE0, qB1, qB0, qOT, qOF, qGT, qG0]; rw [e2, if_neg (by omega), if_neg (by omega), Nat.zero_add]; exact this.1
      · simp (disch := omega) only [qlj, nI_add, pk_mul, qIX, qIN, qOB, qOL, qLE1, qLE0, qLT1, qLT0, qEQ1, qEQ0, qM0, qM1, qR, qN0, qMM, qNL1, qNL0, qNE1, qNE0, qB1, qB0, qOT, qOF, qGT, qG0]; rw [e2, if_neg (by omega), if_neg (by omega), Nat.zero_add]; exact this.2.1
      · simp (disch := omega) only [qlj, nI_add, pk_mul, qIX, qIN, qOB, qOL, qLE1, qLE0, qLT1, qLT0, qEQ1, qEQ0, qM0, qM1, qR, qN0, qMM, qNL1, qNL0, qNE1, qNE0, qB1, qB0, qOT, qOF, qGT, qG0]; rw [e2, if_neg (by omega), if_neg (by omega), Nat.zero_add]; exact this.2.2
    · rw [if_neg c1, if_neg c1, if_neg c1]
      by_cases c2 : p = K
      · rw [if_pos c2, if_pos c2, if_pos c2]
        subst c2
        refine ⟨?_, ?_, ?_⟩
        · simp (disch := omega) only [qlj, nI_add, pk_mul, qIX, qIN, qOB, qOL, qLE1, qLE0, qLT1, qLT0, qEQ1, qEQ0, qM0, qM1, qR, qN0, qMM, qNL1, qNL0, qNE1, qNE0, qB1, qB0, qOT, qOF, qGT, qG0, qG1]
        · simp (disch := omega) only [qlj, nI_add, pk_mul, qIX, qIN, qOB, qOL, qLE1, qLE0, qLT1, qLT0, qEQ1, qEQ0, qM0, qM1, qR, qN0, qMM, qNL1, qNL0, qNE1, qNE0, qB1, qB0, qOT, qOF, qGT, qG0, qG1]
        · simp (disch := omega) only [qlj, nI_add, pk_mul, qIX, qIN, qOB, qOL, qLE1, qLE0, qLT1, qLT0, qEQ1, qEQ0, qM0, qM1, qR, qN0, qMM, qNL1, qNL0, qNE1, qNE0, qB1, qB0, qOT, qOF, qGT, qG0, qG1]
      · rw [if_neg c2, if_neg c2, if_neg c2]
        have := q2' (p - 1) (by omega)
        refine ⟨?_, ?_, ?_⟩
        · simp (disch := omega) only [qlj, nI_add, pk_mul, qIX, qIN, qOB, qOL, qLE1, qLE0, qLT1, qLT0, qEQ1, qEQ0, qM0, qM1, qR, qN0, qMM, qNL1, qNL0, qNE1, qNE0, qB1, qB0, qOT, qOF, qGT, qG0]; rw [e2, if_pos (by omega), show 0 + (1 + 3 * p + 0) - 3 = 1 + 3 * (p - 1) by omega]; exact this.1
        · simp (disch := omega) only [qlj, nI_add, pk_mul, qIX, qIN, qOB, qOL, qLE1, qLE0, qLT1, qLT0, qEQ1, qEQ0, qM0, qM1, qR, qN0, qMM, qNL1, qNL0, qNE1, qNE0, qB1, qB0, qOT, qOF, qGT, qG0]; rw [e2, if_pos (by omega), show 0 + (1 + 3 * p + 1) - 3 = 1 + 3 * (p - 1) + 1 by omega]; exact this.2.1
        · simp (disch := omega) only [qlj, nI_add, pk_mul, qIX, qIN, qOB, qOL, qLE1, qLE0, qLT1, qLT0, qEQ1, qEQ0, qM0, qM1, qR, qN0, qMM, qNL1, qNL0, qNE1, qNE0, qB1, qB0, qOT, qOF, qGT, qG0]; rw [e2, if_pos (by omega), show 0 + (1 + 3 * p + 2) - 3 = 1 + 3 * (p - 1) + 2 by omega]; exact this.2.2
  · simp (disch := omega) only [qlj, nI_add, pk_mul, qIX, qIN, qOB, qOL, qLE1, qLE0, qLT1, qLT0, qEQ1, qEQ0, qM0, qM1, qR, qN0, qMM, qNL1, qNL0, qNE1, qNE0, qB1, qB0, qOT, qOF, qGT, qG0]; rw [e2, if_neg (by omega), if_neg (by omega)]; exact q3 j hj
  · refine Fr.si (Fr.si (Fr.si (Fr.si e3 ?_) ?_) ?_) ?_ <;> rfl
/-- a change of the recording, saved first -/
theorem inv_mod {n nw : Nat} {r r' : Rd} {v : Int64} {S S1 S2 T0 T1 T2 : St} (hW : RW r) (hM : RM r (r.g 0) (r.g 2) S) (hH : HI n nw S) (hL : LT S) (hX : TX S) (hW' : RW r')
    (s1 : RCa (8 + 5 * ((nw + 1) % 8)) r S1) (s2 : gi S1 6 1 = nI (min (n + 1) 8)) (s3 : gi S1 6 2 = nI ((nw + 1) % 8)) (s4 : Fr (fun a b => (a = 6 ∧ (b = 1 ∨ b = 2)) ∨ (8 + 5 * ((nw + 1) % 8) ≤ a ∧ a ≤ 8 + 5 * ((nw + 1) % 8) + 4)) S S1)
    (c1 : Fr (fun a _ => 1 ≤ a ∧ a ≤ 5) S1 S2) (c2 : RC r' S2)
    (t0 : ∀ x y, ¬ (x = 75 ∧ (y = 3 ∨ y = 28 ∨ y = 29)) → x ≠ 89 → gi T0 x y = gi S2 x y) (t03 : gi T0 75 3 = nI 0) (t0l : gl T0 90 0 = v)
    (k1 : gi T1 75 2 = nI (min (n + 1) 8)) (k2 : ∀ y, y < 135 → gi T1 77 (135 * (min (n + 1) 8 - 1) + y) = gi T0 76 y) (k3 : ∀ y, y < 135 * (min (n + 1) 8 - 1) → gi T1 77 y = gi T0 77 (if n = 8 then y + 135 else y)) (k4 : Fr (fun a b => (a = 75 ∧ b = 2) ∨ a = 77) T0 T1)
    (d1 : Fr (fun a _ => a = 76) T1 T2) (d2 : RMa 76 0 r' T2) : Inv T2 ∧ gi T2 75 3 = nI 0 ∧ gl T2 90 0 = v := by
  have hm := Nat.mod_lt (nw + 1) (show 0 < 8 by omega)
  have g0 : ∀ x y, x ≠ 76 → ¬ ((x = 75 ∧ y = 2) ∨ x = 77) → ¬ (x = 75 ∧ (y = 3 ∨ y = 28 ∨ y = 29)) → x ≠ 89 → gi T2 x y = gi S2 x y := fun x y a b c d => by
    rw [d1.1 x y a, k4.1 x y b, t0 x y c d]
  have g1 : ∀ x y, x ≠ 76 → ¬ ((x = 75 ∧ y = 2) ∨ x = 77) → ¬ (x = 75 ∧ (y = 3 ∨ y = 28 ∨ y = 29)) → x ≠ 89 → ¬ (1 ≤ x ∧ x ≤ 5) → gi T2 x y = gi S1 x y := fun x y a b c d e => by
    rw [g0 x y a b c d, c1.1 x y e]
  have g2 : ∀ x y, x ≠ 76 → ¬ ((x = 75 ∧ y = 2) ∨ x = 77) → ¬ (x = 75 ∧ (y = 3 ∨ y = 28 ∨ y = 29)) → x ≠ 89 → ¬ (1 ≤ x ∧ x ≤ 5) → ¬ (x = 6 ∨ (8 ≤ x ∧ x ≤ 47)) → gi T2 x y = gi S x y := fun x y a b c d e f => by
    rw [g1 x y a b c d e, s4.1 x y (by omega)]
  refine ⟨⟨⟨r', hW', c2.cg (fun x y a b => g0 x y (by omega) (by omega) (by omega) (by omega)), d2.m⟩, ⟨min (n + 1) 8, (nw + 1) % 8, hi_new hH hW hM.a ?_ ?_ ?_ ?_ ?_ ?_ ?_⟩, hL.cg (fun x y h => g2 x y (by omega) (by omega) (by omega) (by omega) (by omega) (by omega)), hX.cg (fun x y h => g2 x y (by omega) (by omega) (by omega) (by omega) (by omega) (by omega))⟩, ?_, ?_⟩
  · rw [g1 _ _ (by omega) (by omega) (by omega) (by omega) (by omega)]; exact s2
  · rw [g1 _ _ (by omega) (by omega) (by omega) (by omega) (by omega)]; exact s3
  · rw [d1.1 75 2 (by omega)]; exact k1
  · exact s1.cg (fun x y a b => g1 x y (by omega) (by omega) (by omega) (by omega) (by omega))
  · intro x y a b c
    rw [g1 x y (by omega) (by omega) (by omega) (by omega) (by omega), s4.1 x y (by omega)]
  · intro y hy
    rw [d1.1 77 _ (by omega), k2 y hy, t0 76 y (by omega) (by omega), c1.1 76 y (by omega), s4.1 76 y (by omega)]
  · intro y hy
    rw [d1.1 77 _ (by omega), k3 y hy, t0 77 _ (by omega) (by omega), c1.1 77 _ (by omega), s4.1 77 _ (by omega)]
  · rw [d1.1 75 3 (by omega), k4.1 75 3 (by omega)]; exact t03
  · rw [d1.gl, k4.gl]; exact t0l
theorem inv_0 {r : Rd} {n nw : Nat} {v : Int32} {S S1 S2 : St} (hM : RM r (r.g 0) (r.g 2) S) (hH : HI n nw S) (s4 : Fr (fun a b => (a = 6 ∧ (b = 1 ∨ b = 2)) ∨ (8 + 5 * ((nw + 1) % 8) ≤ a ∧ a ≤ 8 + 5 * ((nw + 1) % 8) + 4)) S S1) (c1 : Fr (fun a _ => 1 ≤ a ∧ a ≤ 5) S1 S2) : ∃ T1, X8_keeps (si (sl S2 90 0 v.toInt64) 75 3 (nI 0)) = some ((), T1) ∧ gi T1 75 2 = nI (min (n + 1) 8) ∧ (∀ y, y < 135 → gi T1 77 (135 * (min (n + 1) 8 - 1) + y) = gi (si (sl S2 90 0 v.toInt64) 75 3 (nI 0)) 76 y) ∧ (∀ y, y < 135 * (min (n + 1) 8 - 1) → gi T1 77 y = gi (si (sl S2 90 0 v.toInt64) 75 3 (nI 0)) 77 (if n = 8 then y + 135 else y)) ∧ Fr (fun a b => (a = 75 ∧ b = 2) ∨ a = 77) (si (sl S2 90 0 v.toInt64) 75 3 (nI 0)) T1 ∧ RMa 76 0 r T1 := by
  have hm := Nat.mod_lt (nw + 1) (show 0 < 8 by omega)
  have h75 : gi (si (sl S2 90 0 v.toInt64) 75 3 (nI 0)) 75 2 = nI n := by
    rw [qG0 (by omega), qIL, c1.1 75 2 (by omega), s4.1 75 2 (by omega)]; exact hH.2.2.2.2.1
  obtain ⟨T1, e1, e2, e3, e4, e5⟩ := r_keeps hH.1 h75
  refine ⟨T1, e1, e2, e3, e4, e5, ?_⟩
  have hc : RM r (r.g 0) (r.g 2) T1 := hM.cg (fun b => by
    rw [e5.1 76 b (by omega), qG0 (by omega), qIL, c1.1 76 b (by omega), s4.1 76 b (by omega)])
  exact hc.a
theorem f_isP (x0 x1 x2 : Int32) : (∃ t f z, t ≤ 500 ∧ f < 6 ∧ 1 ≤ z ∧ z ≤ 100 ∧ x0 = nI t ∧ x1 = nI f ∧ x2 = nI z ∧ (∀ S, X7_isPacket x0 x1 x2 S = some (nI 1, S)) ∧ (∀ S, X7_requireFlow x1 S = some (.inl (), S)) ∧ ∀ S n, n ≤ 40 → gi S 76 0 = nI n → X8_noRecord x0 x1 x2 S = some (if n = 40 then nI 3 else nI 0, S)) ∨ ((∀ S, X7_isPacket x0 x1 x2 S = some (nI 0, S)) ∧ (((∀ S, X8_noRecord x0 x1 x2 S = some (nI 1, S)) ∧ ∀ S, X7_requireFlow x1 S = some (.inr 0, S)) ∨ ((∀ S, X8_noRecord x0 x1 x2 S = some (nI 2, S)) ∧ ∀ S, X7_requireFlow x1 S = some (.inl (), S)))) := by
  rcases f_in x0 (lo := 0) (hi := 500) (by omega) (by omega) with ⟨t, a1, a2, rfl, a3⟩ | ⟨a1, a3⟩
  · rcases f_flow x1 with ⟨f, hf, rfl, b1, b2, b3⟩ | ⟨b1, b2, b3⟩
    · rcases f_in x2 (lo := 1) (hi := 100) (by omega) (by omega) with ⟨z, d1, d2, rfl, d3⟩ | ⟨d1, d3⟩
      · refine Or.inl ⟨t, f, z, a2, hf, d1, d2, rfl, rfl, rfl, fun S => ?_, b3, fun S n hn hS => ?_⟩
        · unfold X7_isPacket; simp (disch := omega) only [qlj, nI_add, pk_mul, qIX, qIN, qOB, qOL, qLE1, qLE0, qLT1, qLT0, qEQ1, qEQ0, qM0, qM1, qR, qN0, qMM, qNL1, qNL0, qNE1, qNE0, qB1, qB0, qOT, qOF, qGT, b2, o10]
        · unfold X8_noRecord
          by_cases h : n = 40
          · rw [if_pos h]; simp (disch := omega) only [qlj, nI_add, pk_mul, qIX, qIN, qOB, qOL, qLE1, qLE0, qLT1, qLT0, qEQ1, qEQ0, qM0, qM1, qR, qN0, qMM, qNL1, qNL0, qNE1, qNE0, qB1, qB0, qOT, qOF, qGT, b1, o10, a3, d3, hS]
          · rw [if_neg h]; simp (disch := omega) only [qlj, nI_add, pk_mul, qIX, qIN, qOB, qOL, qLE1, qLE0, qLT1, qLT0, qEQ1, qEQ0, qM0, qM1, qR, qN0, qMM, qNL1, qNL0, qNE1, qNE0, qB1, qB0, qOT, qOF, qGT, b1, o10, a3, d3, hS]
      · refine Or.inr ⟨fun S => ?_, Or.inr ⟨fun S => ?_, b3⟩⟩
        · unfold X7_isPacket
          rcases d1 with h | h
          · have hh : ∀ (x y : Option (Int32 × St)), oi (x2 < nI 1) x y = x := fun x y => if_pos h
            simp (disch := omega) only [qlj, nI_add, pk_mul, qIX, qIN, qOB, qOL, qLE1, qLE0, qLT1, qLT0, qEQ1, qEQ0, qM0, qM1, qR, qN0, qMM, qNL1, qNL0, qNE1, qNE0, qB1, qB0, qOT, qOF, qGT, b2, o10, hh]
          · have hh : ∀ (x y : Option (Int32 × St)), oi (nI 100 < x2) x y = x := fun x y => if_pos h
            have hh2 : ∀ (x y : Option (Int32 × St)), oi (x2 < nI 1) x y = y := fun x y => if_neg (by
              rw [Int32.lt_iff_toInt_lt, nI_toInt (show 1 < 2 ^ 31 by omega)]
              rw [Int32.lt_iff_toInt_lt, nI_toInt (show 100 < 2 ^ 31 by omega)] at h
              omega)
            simp (disch := omega) only [qlj, nI_add, pk_mul, qIX, qIN, qOB, qOL, qLE1, qLE0, qLT1, qLT0, qEQ1, qEQ0, qM0, qM1, qR, qN0, qMM, qNL1, qNL0, qNE1, qNE0, qB1, qB0, qOT, qOF, qGT, b2, o10, hh2, hh]
        · unfold X8_noRecord; simp (disch := omega) only [qlj, nI_add, pk_mul, qIX, qIN, qOB, qOL, qLE1, qLE0, qLT1, qLT0, qEQ1, qEQ0, qM0, qM1, qR, qN0, qMM, qNL1, qNL0, qNE1, qNE0, qB1, qB0, qOT, qOF, qGT, b1, o10, a3, d3]
    · refine Or.inr ⟨fun S => ?_, Or.inl ⟨fun S => ?_, b3⟩⟩
      · unfold X7_isPacket; simp (disch := omega) only [qlj, nI_add, pk_mul, qIX, qIN, qOB, qOL, qLE1, qLE0, qLT1, qLT0, qEQ1, qEQ0, qM0, qM1, qR, qN0, qMM, qNL1, qNL0, qNE1, qNE0, qB1, qB0, qOT, qOF, qGT, b2]
      · unfold X8_noRecord; simp (disch := omega) only [qlj, nI_add, pk_mul, qIX, qIN, qOB, qOL, qLE1, qLE0, qLT1, qLT0, qEQ1, qEQ0, qM0, qM1, qR, qN0, qMM, qNL1, qNL0, qNE1, qNE0, qB1, qB0, qOT, qOF, qGT, b1]
  · have hz : ∀ S, X7_isPacket x0 x1 x2 S = some (nI 0, S) := by
      intro S
      unfold X7_isPacket
      by_cases h0 : x0 < 0
      · exact if_pos h0
      · rw [show ∀ (a b : Option (Int32 × St)), oi (x0 < 0) a b = b from fun a b => if_neg h0]
        rcases a1 with h | h
        · exact absurd h h0
        · exact if_pos h
    rcases f_flow x1 with ⟨f, hf, rfl, b1, b2, b3⟩ | ⟨b1, b2, b3⟩
    · refine Or.inr ⟨hz, Or.inr ⟨fun S => ?_, b3⟩⟩
      unfold X8_noRecord; simp (disch := omega) only [qlj, nI_add, pk_mul, qIX, qIN, qOB, qOL, qLE1, qLE0, qLT1, qLT0, qEQ1, qEQ0, qM0, qM1, qR, qN0, qMM, qNL1, qNL0, qNE1, qNE0, qB1, qB0, qOT, qOF, qGT, b1, o10, a3]
    · refine Or.inr ⟨hz, Or.inl ⟨fun S => ?_, b3⟩⟩
      unfold X8_noRecord; simp (disch := omega) only [qlj, nI_add, pk_mul, qIX, qIN, qOB, qOL, qLE1, qLE0, qLT1, qLT0, qEQ1, qEQ0, qM0, qM1, qR, qN0, qMM, qNL1, qNL0, qNE1, qNE0, qB1, qB0, qOT, qOF, qGT, b1]
theorem ls0 {a b c : Int32} {S : St} (hI : Inv S) : ∃ S', LS_0 a b c S = some S' ∧ Inv S' := by
  obtain ⟨⟨r, hW, hR, hM⟩, ⟨n, nw, hH⟩, hL, hX⟩ := id hI
  have hn := hW.1
  unfold LS_0 L_record
  rcases f_isP a b c with ⟨t, f, z, t1, f1, z1, z2, rfl, rfl, rfl, h1, h2, h3⟩ | ⟨h1, ⟨h2, h3⟩ | ⟨h2, h3⟩⟩
  · by_cases h40 : r.n = 40
    · have hfull : X4_isFull 1 S = some (nI 1, S) := by unfold X4_isFull; simp (disch := omega) only [qlj, nI_add, pk_mul, qIX, qIN, qOB, qOL, qLE1, qLE0, qLT1, qLT0, qEQ1, qEQ0, qM0, qM1, qR, qN0, qMM, qNL1, qNL0, qNE1, qNE0, qB1, qB0, qOT, qOF, qGT, hR.1]
      have hno := h3 S r.n hn hM.1
      rw [if_pos h40] at hno
      refine ls_f hI (e := 2) (k := 3) (r2 := nI 0) ?_ rfl ?_ (by omega) (by omega)
      · unfold X7_record; simp (disch := omega) only [qlj, nI_add, pk_mul, qIX, qIN, qOB, qOL, qLE1, qLE0, qLT1, qLT0, qEQ1, qEQ0, qM0, qM1, qR, qN0, qMM, qNL1, qNL0, qNE1, qNE0, qB1, qB0, qOT, qOF, qGT, h2, qOBX, h1, o10, hfull]
      · unfold X8_record; simp (disch := omega) only [qlj, nI_add, pk_mul, qIX, qIN, qOB, qOL, qLE1, qLE0, qLT1, qLT0, qEQ1, qEQ0, qM0, qM1, qR, qN0, qMM, qNL1, qNL0, qNE1, qNE0, qB1, qB0, qOT, qOF, qGT, hno, f_r3, o10]
    · obtain ⟨S1, e1, e2, e3, e4, e5⟩ := c_save hR hW hH
      have hm := Nat.mod_lt (nw + 1) (show 0 < 8 by omega)
      have hR1 : RC r S1 := hR.cg (fun x y p q => e5.1 x y (by omega))
      obtain ⟨S2, g1, g2, g3⟩ := c_insert (fl := f) (sz := z) hW hR1 (by omega) t1
      obtain ⟨T1, k0, k1, k2, k3, k4, k5⟩ := inv_0 (v := nI (qip r.t t r.n)) hM hH e5 g3
      obtain ⟨T2, d1, d2, d3⟩ := r_records (fl := f) (sz := z) hW k5 (by omega) t1
      have hW' := qir_W hW (show r.n < 40 by omega) t1 f1 z1 z2
      obtain ⟨i1, i2, i3⟩ := inv_mod (v := (nI (qip r.t t r.n)).toInt64) hW hM hH hL hX hW' e2 e3 e4 e5 g3 g2 (fun x y p q => by rw [qG0 (by omega), qIL]) (qG1 rfl rfl) (by rw [qGS, qGL]) k1 k2 k3 k4 d3 d2
      have hfull : X4_isFull 1 S = some (nI 0, S) := by unfold X4_isFull; simp (disch := omega) only [qlj, nI_add, pk_mul, qIX, qIN, qOB, qOL, qLE1, qLE0, qLT1, qLT0, qEQ1, qEQ0, qM0, qM1, qR, qN0, qMM, qNL1, qNL0, qNE1, qNE0, qB1, qB0, qOT, qOF, qGT, hR.1]
      have hno := h3 (sl S2 90 0 (nI (qip r.t t r.n)).toInt64) r.n hn (by rw [qIL, g3.1 76 0 (by omega), e5.1 76 0 (by omega)]; exact hM.1)
      rw [if_neg h40] at hno
      refine ⟨T2, ls_ok (v := nI (qip r.t t r.n)) (S1 := S2) ?_ ?_ i2 i3, i1⟩
      · unfold X7_record; simp (disch := omega) only [qlj, nI_add, pk_mul, qIX, qIN, qOB, qOL, qLE1, qLE0, qLT1, qLT0, qEQ1, qEQ0, qM0, qM1, qR, qN0, qMM, qNL1, qNL0, qNE1, qNE0, qB1, qB0, qOT, qOF, qGT, h2, qOBX, h1, o10, hfull, e1, g1]
      · unfold X8_record; simp (disch := omega) only [qlj, nI_add, pk_mul, qIX, qIN, qOB, qOL, qLE1, qLE0, qLT1, qLT0, qEQ1, qEQ0, qM0, qM1, qR, qN0, qMM, qNL1, qNL0, qNE1, qNE0, qB1, qB0, qOT, qOF, qGT, hno, f_r0, k0, d1]
  · refine ls_f hI (e := 0) (k := 1) (r2 := nI 0) ?_ rfl ?_ (by omega) (by omega)
    · unfold X7_record; simp (disch := omega) only [qlj, nI_add, pk_mul, qIX, qIN, qOB, qOL, qLE1, qLE0, qLT1, qLT0, qEQ1, qEQ0, qM0, qM1, qR, qN0, qMM, qNL1, qNL0, qNE1, qNE0, qB1, qB0, qOT, qOF, qGT, h3, qOBE]
    · unfold X8_record; simp (disch := omega) only [qlj, nI_add, pk_mul, qIX, qIN, qOB, qOL, qLE1, qLE0, qLT1, qLT0, qEQ1, qEQ0, qM0, qM1, qR, qN0, qMM, qNL1, qNL0, qNE1, qNE0, qB1, qB0, qOT, qOF, qGT, h2, f_r1, o10]
  · refine ls_f hI (e := 1) (k := 2) (r2 := nI 0) ?_ rfl ?_ (by omega) (by omega)
    · unfold X7_record; simp (disch := omega) only [qlj, nI_add, pk_mul, qIX, qIN, qOB, qOL, qLE1, qLE0, qLT1, qLT0, qEQ1, qEQ0, qM0, qM1, qR, qN0, qMM, qNL1, qNL0, qNE1, qNE0, qB1, qB0, qOT, qOF, qGT, h3, qOBX, h1]
    · unfold X8_record; simp (disch := omega) only [qlj, nI_add, pk_mul, qIX, qIN, qOB, qOL, qLE1, qLE0, qLT1, qLT0, qEQ1, qEQ0, qM0, qM1, qR, qN0, qMM, qNL1, qNL0, qNE1, qNE0, qB1, qB0, qOT, qOF, qGT, h2, f_r2, o10]
def qdr (r : Rd) (p : Nat) : Rd := (r.n - 1, qdel r.t p, qdel r.f p, qdel r.z p, r.g)
theorem qdr_W {r : Rd} {p : Nat} (hW : RW r) (hp : p < r.n) : RW (qdr r p) := by
  obtain ⟨a1, a2, a3, a4⟩ := hW
  unfold qdr RW
  simp only [rd_n, rd_t, rd_f, rd_z, rd_g]
  refine ⟨by omega, fun q hq => ?_, fun q q' h1 h2 => ?_, a4⟩
  · rw [qdel_get, qdel_get, qdel_get]
    exact a2 _ (by split <;> omega)
  · rw [qdel_get, qdel_get]
    exact a3 _ _ (by split <;> split <;> omega) (by split <;> omega)
theorem lsa1 {a b c : Int32} {S : St} (hI : Inv S) : ∃ S', LS_1 a b c S = some S' ∧ Inv S' := by
  obtain ⟨⟨r, hW, hR, hM⟩, ⟨n, nw, hH⟩, hL, hX⟩ := id hI
  have hn := hW.1
  unfold LS_1 L_erase
  rcases f_pkt a hn with ⟨p, hp, rfl, h1, h2⟩ | ⟨h1, h2⟩
  · obtain ⟨S1, e1, e2, e3, e4, e5⟩ := c_save hR hW hH
    have hm := Nat.mod_lt (nw + 1) (show 0 < 8 by omega)
    have hR1 : RC r S1 := hR.cg (fun x y p q => e5.1 x y (by omega))
    have hdel : ∃ S2, X4_delete 1 (nI p) S1 = some ((), S2) ∧ RC (qdr r p) S2 ∧ Fr (fun a _ => 1 ≤ a ∧ a ≤ 5) S1 S2 := by
      obtain ⟨q1, q2, q3⟩ := hR1
      have hsh : X4_shift 1 (nI (p + 1)) (nI p) S1 = some ((), sc (sc (sc S1 2 2 (p + 1) p (r.n - (p + 1))) 3 3 (p + 1) p (r.n - (p + 1))) 4 4 (p + 1) p (r.n - (p + 1))) := by
        unfold X4_shift
        simp (disch := omega) only [qlj, nI_add, pk_mul, qIX, qIN, qOB, qOL, qLE1, qLE0, qLT1, qLT0, qEQ1, qEQ0, qM0, qM1, qR, qN0, qMM, qNL1, qNL0, qNE1, qNE0, qB1, qB0, qOT, qOF, qGT, q1, qSUB, qCP, qC0]
      unfold X4_delete
      simp (disch := omega) only [qlj, nI_add, pk_mul, qIX, qIN, qOB, qOL, qLE1, qLE0, qLT1, qLT0, qEQ1, qEQ0, qM0, qM1, qR, qN0, qMM, qNL1, qNL0, qNE1, qNE0, qB1, qB0, qOT, qOF, qGT, q1, hsh, qC0, qSUB]
      refine ⟨_, rfl, ⟨?_, fun x hx => ?_, fun j hj => ?_⟩, ?_⟩
      · simp (disch := omega) only [qlj, nI_add, pk_mul, qIX, qIN, qOB, qOL, qLE1, qLE0, qLT1, qLT0, qEQ1, qEQ0, qM0, qM1, qR, qN0, qMM, qNL1, qNL0, qNE1, qNE0, qB1, qB0, qOT, qOF, qGT, qG1]; rfl
      · have hx' : x < r.n - 1 := hx
        show _ = nI (qdel r.t p x) ∧ _ = nI (qdel r.f p x) ∧ _ = nI (qdel r.z p x)
        unfold qdel
        by_cases c1 : x < p
        · rw [if_pos c1, if_pos c1, if_pos c1]
          simp (disch := omega) only [qlj, nI_add, pk_mul, qIX, qIN, qOB, qOL, qLE1, qLE0, qLT1, qLT0, qEQ1, qEQ0, qM0, qM1, qR, qN0, qMM, qNL1, qNL0, qNE1, qNE0, qB1, qB0, qOT, qOF, qGT, qG0, qC0, qC2]
          exact q2 x (by omega)
        · rw [if_neg c1, if_neg c1, if_neg c1]
          simp (disch := omega) only [qlj, nI_add, pk_mul, qIX, qIN, qOB, qOL, qLE1, qLE0, qLT1, qLT0, qEQ1, qEQ0, qM0, qM1, qR, qN0, qMM, qNL1, qNL0, qNE1, qNE0, qB1, qB0, qOT, qOF, qGT, qG0, qC0, qC1]
          rw [show p + 1 + (x - p) = x + 1 by omega]
          exact q2 (x + 1) (by omega)
      · simp (disch := omega) only [qlj, nI_add, pk_mul, qIX, qIN, qOB, qOL, qLE1, qLE0, qLT1, qLT0, qEQ1, qEQ0, qM0, qM1, qR, qN0, qMM, qNL1, qNL0, qNE1, qNE0, qB1, qB0, qOT, qOF, qGT, qG0, qC0]; exact q3 j hj
      · refine Fr.si (Fr.sc (Fr.sc (Fr.sc Fr.rf ?_) ?_) ?_) ?_
        all_goals first | (intro j; omega) | omega
    obtain ⟨S2, g1, g2, g3⟩ := hdel
    obtain ⟨T1, k0, k1, k2, k3, k4, k5⟩ := inv_0 (v := nI (r.n - 1)) hM hH e5 g3
    have hrd : ∃ T2, X8_erase_42L (nI (1 + 3 * p)) (si T1 76 0 (nI (r.n - 1))) = some ((), T2) ∧ RMa 76 0 (qdr r p) T2 ∧ Fr (fun a _ => a = 76) T1 T2 := by
      obtain ⟨q1, q2, q3⟩ := k5
      generalize hU : si T1 76 0 (nI (r.n - 1)) = U
      have u0 : gi U 76 0 = nI (r.n - 1) := by rw [← hU]; exact qG1 rfl rfl
      have uy : ∀ y, 1 ≤ y → gi U 76 y = gi T1 76 y := fun y hy => by rw [← hU]; exact qG0 (by omega)
      have hl : X8_erase_42L (nI (1 + 3 * p)) U = some ((), sc U 76 76 (1 + 3 * p + 3) (1 + 3 * p) (3 * (r.n - 1 - p))) := by
        unfold X8_erase_42L
        have h := lp_for (body := fun (a : Int32) (S : St) => X8_erase_42 a S) (b := ()) (T' := sc U 76 76 (1 + 3 * p + 3) (1 + 3 * p) (3 * (r.n - 1 - p))) (3 * (r.n - 1 - p)) (fun i => nI (1 + 3 * p + i)) (fun i => sc U 76 76 (1 + 3 * p + 3) (1 + 3 * p) i) (fun i hi => ?_) ?_
        · rw [sc_0] at h; exact h
        · have h1 := sc_si (S := U) (q := 76) (k := 76) (sp := 1 + 3 * p + 3) (dp := 1 + 3 * p) (i := i)
          have hg : gi (sc U 76 76 (1 + 3 * p + 3) (1 + 3 * p) i) 76 0 = nI (r.n - 1) := by rw [qC2 rfl (by omega)]; exact u0
          show X8_erase_42 (nI (1 + 3 * p + i)) (sc U 76 76 (1 + 3 * p + 3) (1 + 3 * p) i) = _
          unfold X8_erase_42
          simp (disch := omega) only [qlj, nI_add, pk_mul, qIX, qIN, qOB, qOL, qLE1, qLE0, qLT1, qLT0, qEQ1, qEQ0, qM0, qM1, qR, qN0, qMM, qNL1, qNL0, qNE1, qNE0, qB1, qB0, qOT, qOF, qGT, hg]
          rw [qC2 rfl (by omega), ← h1, show 1 + 3 * p + 3 + i = 1 + 3 * p + i + 3 by omega]
          rfl
        · have hg : gi (sc U 76 76 (1 + 3 * p + 3) (1 + 3 * p) (3 * (r.n - 1 - p))) 76 0 = nI (r.n - 1) := by rw [qC2 rfl (by omega)]; exact u0
          show X8_erase_42 (nI (1 + 3 * p + 3 * (r.n - 1 - p))) _ = _
          unfold X8_erase_42
          simp (disch := omega) only [qlj, nI_add, pk_mul, qIX, qIN, qOB, qOL, qLE1, qLE0, qLT1, qLT0, qEQ1, qEQ0, qM0, qM1, qR, qN0, qMM, qNL1, qNL0, qNE1, qNE0, qB1, qB0, qOT, qOF, qGT, hg]
      refine ⟨_, hl, ⟨?_, fun x hx => ?_, fun j hj => ?_⟩, ?_⟩
      · rw [qC2 rfl (by omega)]; exact u0
      · have hx' : x < r.n - 1 := hx
        show _ = nI (qdel r.t p x) ∧ _ = nI (qdel r.f p x) ∧ _ = nI (qdel r.z p x)
        unfold qdel
        by_cases c1 : x < p
        · rw [if_pos c1, if_pos c1, if_pos c1, qC2 rfl (by omega), qC2 rfl (by omega), qC2 rfl (by omega), uy _ (by omega), uy _ (by omega), uy _ (by omega)]
          exact q2 x (by omega)
        · rw [if_neg c1, if_neg c1, if_neg c1, qC1 rfl (by omega) (by omega), qC1 rfl (by omega) (by omega), qC1 rfl (by omega) (by omega), uy _ (by omega), uy _ (by omega), uy _ (by omega)]
          rw [show 1 + 3 * p + 3 + (0 + (1 + 3 * x + 0) - (1 + 3 * p)) = 0 + (1 + 3 * (x + 1) + 0) by omega, show 1 + 3 * p + 3 + (0 + (1 + 3 * x + 1) - (1 + 3 * p)) = 0 + (1 + 3 * (x + 1) + 1) by omega, show 1 + 3 * p + 3 + (0 + (1 + 3 * x + 2) - (1 + 3 * p)) = 0 + (1 + 3 * (x + 1) + 2) by omega]
          exact q2 (x + 1) (by omega)
      · rw [qC2 rfl (by omega), uy _ (by omega)]; exact q3 j hj
      · rw [← hU]
        refine Fr.sc (Fr.si Fr.rf ?_) ?_
        all_goals first | (intro j; rfl) | rfl
    obtain ⟨T2, d1, d2, d3⟩ := hrd
    obtain ⟨i1, i2, i3⟩ := inv_mod (v := (nI (r.n - 1)).toInt64) hW hM hH hL hX (qdr_W hW hp) e2 e3 e4 e5 g3 g2 (fun x y p q => by rw [qG0 (by omega), qIL]) (qG1 rfl rfl) (by rw [qGS, qGL]) k1 k2 k3 k4 d3 d2
    have hm1 : gi (sl S2 90 0 (nI (r.n - 1)).toInt64) 76 0 = nI r.n := by rw [qIL, g3.1 76 0 (by omega), e5.1 76 0 (by omega)]; exact hM.1
    have hT1 : gi T1 76 0 = nI r.n := k5.1
    have h21 : gi S2 1 0 = nI (r.n - 1) := g2.1
    have hT2 : gi T2 76 0 = nI (r.n - 1) := d2.1
    refine ⟨T2, ls_ok (v := nI (r.n - 1)) (S1 := S2) ?_ ?_ i2 i3, i1⟩
    · unfold X7_erase; simp (disch := omega) only [qlj, nI_add, pk_mul, qIX, qIN, qOB, qOL, qLE1, qLE0, qLT1, qLT0, qEQ1, qEQ0, qM0, qM1, qR, qN0, qMM, qNL1, qNL0, qNE1, qNE0, qB1, qB0, qOT, qOF, qGT, h2 S hR.1, qOBX, e1, g1, h21]
    · unfold X8_erase X8_erase_14; simp (disch := omega) only [qlj, nI_add, pk_mul, qIX, qIN, qOB, qOL, qLE1, qLE0, qLT1, qLT0, qEQ1, qEQ0, qM0, qM1, qR, qN0, qMM, qNL1, qNL0, qNE1, qNE0, qB1, qB0, qOT, qOF, qGT, h1 _ hm1, o10, f_r0, k0, hT1, qSUB, d1, hT2]
  · refine ls_f hI (e := 0) (k := 1) (r2 := nI 0) ?_ rfl ?_ (by omega) (by omega)
    · unfold X7_erase; simp (disch := omega) only [qlj, nI_add, pk_mul, qIX, qIN, qOB, qOL, qLE1, qLE0, qLT1, qLT0, qEQ1, qEQ0, qM0, qM1, qR, qN0, qMM, qNL1, qNL0, qNE1, qNE0, qB1, qB0, qOT, qOF, qGT, h2 S hR.1, qOBE]
    · unfold X8_erase X8_erase_14; simp (disch := omega) only [qlj, nI_add, pk_mul, qIX, qIN, qOB, qOL, qLE1, qLE0, qLT1, qLT0, qEQ1, qEQ0, qM0, qM1, qR, qN0, qMM, qNL1, qNL0, qNE1, qNE0, qB1, qB0, qOT, qOF, qGT, h1 S hM.1, f_r1, o10]
theorem lsa2 {a b c : Int32} {S : St} (hI : Inv S) : ∃ S', LS_2 a b c S = some S' ∧ Inv S' := by
  obtain ⟨⟨r, hW, hR, hM⟩, -⟩ := id hI
  unfold LS_2
  refine ⟨si S 75 3 (nI 0), ls_p (v := nI r.n) (S1 := S) ?_ ?_, hI.fq FQ.rf.s3⟩
  · unfold X7_packets; rw [hR.1]
  · unfold X8_packets; simp (disch := omega) only [qlj, nI_add, pk_mul, qIX, qIN, qOB, qOL, qLE1, qLE0, qLT1, qLT0, qEQ1, qEQ0, qM0, qM1, qR, qN0, qMM, qNL1, qNL0, qNE1, qNE0, qB1, qB0, qOT, qOF, qGT, qG0, hM.1]
theorem ls3 {a b c : Int32} {S : St} (hI : Inv S) : ∃ S', LS_3 a b c S = some S' ∧ Inv S' := by
  obtain ⟨⟨r, hW, hR, hM⟩, -⟩ := id hI
  have hn := hW.1
  unfold LS_3 L_packet
  rcases f_pkt a hn with ⟨p, hp, rfl, h1, h2⟩ | ⟨h1, h2⟩
  · have mr := hR.2.1 p hp
    rcases f_in b (lo := 0) (hi := 2) (by omega) (by omega) with ⟨w, w1, w2, rfl, w3⟩ | ⟨w1, w3⟩
    · have key : ∀ v, X7_packet (nI p) (nI w) S = some (.inl v, S) → (∀ T, RM r (r.g 0) (r.g 2) T → X8_of (nI p) (nI w) T = some (v, T)) → ∃ S', ob (ow (X7_packet (nI p) (nI w) S) (fun v S2 => ol (sl S2 90 0 v.toInt64) (fun T => some ((0 : Int32), T))) (fun e S2 => oi (e = 0) (some ((1 : Int32), S2)) (oi (e = 1) (some ((2 : Int32), S2)) (none)))) (fun k1 S1 => ob (X8_packet (nI p) (nI w) S1) (fun r2 S2 => ob (X8_thrown S2) (fun r3 S3 => og (r3 = k1) (oi (k1 = 0) (og (lg_cmp (gl S3 90 0) r2.toInt64 = 0) (some S3)) (some S3))))) = some S' ∧ Inv S' := by
        intro v hv ho
        have hM2 : RM r (r.g 0) (r.g 2) (si (sl S 90 0 v.toInt64) 75 3 (nI 0)) := hM.cg (fun b => rfl)
        have hm1 : gi (sl S 90 0 v.toInt64) 76 0 = nI r.n := hM.1
        refine ls_q (P := fun _ _ => False) hI (v := v) (S1 := S) hv FQ.rf (S2 := si (sl S 90 0 v.toInt64) 75 3 (nI 0)) ?_ Fr.rf id (fun _ _ h => h.elim)
        unfold X8_packet X8_packet_27; simp (disch := omega) only [qlj, nI_add, pk_mul, qIX, qIN, qOB, qOL, qLE1, qLE0, qLT1, qLT0, qEQ1, qEQ0, qM0, qM1, qR, qN0, qMM, qNL1, qNL0, qNE1, qNE0, qB1, qB0, qOT, qOF, qGT, h1 _ hm1, w3, o10, f_r0, ho _ hM2]
      have : w = 0 ∨ w = 1 ∨ w = 2 := by omega
      rcases this with rfl | rfl | rfl
      · refine key (nI (r.t p)) ?_ (fun T hT => (r_of hW hT hp).1)
        unfold X7_packet; simp (disch := omega) only [qlj, nI_add, pk_mul, qIX, qIN, qOB, qOL, qLE1, qLE0, qLT1, qLT0, qEQ1, qEQ0, qM0, qM1, qR, qN0, qMM, qNL1, qNL0, qNE1, qNE0, qB1, qB0, qOT, qOF, qGT, h2 S hR.1, qOBX, mr.1]
      · refine key (nI (r.f p)) ?_ (fun T hT => (r_of hW hT hp).2.1)
        unfold X7_packet; simp (disch := omega) only [qlj, nI_add, pk_mul, qIX, qIN, qOB, qOL, qLE1, qLE0, qLT1, qLT0, qEQ1, qEQ0, qM0, qM1, qR, qN0, qMM, qNL1, qNL0, qNE1, qNE0, qB1, qB0, qOT, qOF, qGT, h2 S hR.1, qOBX, o10, mr.2.1]
      · have q20 : ∀ (x y : Option ((Int32 ⊕ Nat) × St)), oi (nI 2 = nI 0) x y = y := fun x y => if_neg (by decide)
        have q21 : ∀ (x y : Option ((Int32 ⊕ Nat) × St)), oi (nI 2 = nI 1) x y = y := fun x y => if_neg (by decide)
        refine key (nI (r.z p)) ?_ (fun T hT => (r_of hW hT hp).2.2)
        unfold X7_packet; simp (disch := omega) only [qlj, nI_add, pk_mul, qIX, qIN, qOB, qOL, qLE1, qLE0, qLT1, qLT0, qEQ1, qEQ0, qM0, qM1, qR, qN0, qMM, qNL1, qNL0, qNE1, qNE0, qB1, qB0, qOT, qOF, qGT, h2 S hR.1, qOBX, q20, q21, mr.2.2]
    · have hne : ∀ k, k ≤ 2 → ¬ b = nI k := by
        rintro k hk rfl
        rcases w1 with h | h
        · exact nI_nlt (show 0 ≤ k by omega) (show k < 2 ^ 31 by omega) h
        · exact nI_nlt (show k ≤ 2 by omega) (show 2 < 2 ^ 31 by omega) h
      have d0 : ∀ (x y : Option ((Int32 ⊕ Nat) × St)), oi (b = nI 0) x y = y := fun x y => if_neg (hne 0 (by omega))
      have d1 : ∀ (x y : Option ((Int32 ⊕ Nat) × St)), oi (b = nI 1) x y = y := fun x y => if_neg (hne 1 (by omega))
      have d2 : ∀ (x y : Option ((Int32 ⊕ Nat) × St)), oi (b = nI 2) x y = y := fun x y => if_neg (hne 2 (by omega))
      refine ls_f hI (e := 1) (k := 2) (r2 := nI 0) ?_ rfl ?_ (by omega) (by omega)
      · unfold X7_packet; simp (disch := omega) only [qlj, nI_add, pk_mul, qIX, qIN, qOB, qOL, qLE1, qLE0, qLT1, qLT0, qEQ1, qEQ0, qM0, qM1, qR, qN0, qMM, qNL1, qNL0, qNE1, qNE0, qB1, qB0, qOT, qOF, qGT, h2 S hR.1, qOBX, d0, d1, d2]
      · unfold X8_packet X8_packet_27; simp (disch := omega) only [qlj, nI_add, pk_mul, qIX, qIN, qOB, qOL, qLE1, qLE0, qLT1, qLT0, qEQ1, qEQ0, qM0, qM1, qR, qN0, qMM, qNL1, qNL0, qNE1, qNE0, qB1, qB0, qOT, qOF, qGT, h1 S hM.1, w3, f_r2, o10]
  · refine ls_f hI (e := 0) (k := 1) (r2 := nI 0) ?_ rfl ?_ (by omega) (by omega)
    · unfold X7_packet; simp (disch := omega) only [qlj, nI_add, pk_mul, qIX, qIN, qOB, qOL, qLE1, qLE0, qLT1, qLT0, qEQ1, qEQ0, qM0, qM1, qR, qN0, qMM, qNL1, qNL0, qNE1, qNE0, qB1, qB0, qOT, qOF, qGT, h2 S hR.1, qOBE]
    · unfold X8_packet X8_packet_27; simp (disch := omega) only [qlj, nI_add, pk_mul, qIX, qIN, qOB, qOL, qLE1, qLE0, qLT1, qLT0, qEQ1, qEQ0, qM0, qM1, qR, qN0, qMM, qNL1, qNL0, qNE1, qNE0, qB1, qB0, qOT, qOF, qGT, h1 S hM.1, f_r1, o10]
/-! ===== settings ===== -/
def qlo (j : Nat) : Nat := [1, 1, 0, 0, 1, 0, 2, 0, 0, 0, 0, 0, 0, 0].getD j 0
def qhi (j : Nat) : Nat := [1000, 100, 4, 2, 16, 1000, 9, 2, 9, 9, 9, 9, 9, 9].getD j 0
theorem q_tab : ∀ j, j < 14 → lowF j = nI (qlo j) ∧ higF j = nI (qhi j) ∧ qlo j ≤ qhi j ∧ qhi j ≤ 1000 := by decide +kernel
theorem f_alw {j : Nat} (hj : j < 14) (x : Int32) : (∃ v, qlo j ≤ v ∧ v ≤ qhi j ∧ x = nI v ∧ (∀ S, X7_isAllowed (nI j) x S = some (nI 1, S)) ∧ ∀ S, X8_in x (nI (qlo j)) (nI (qhi j)) S = some (nI 1, S)) ∨ ((∀ S, X7_isAllowed (nI j) x S = some (nI 0, S)) ∧ ∀ S, X8_in x (nI (qlo j)) (nI (qhi j)) S = some (nI 0, S)) := by
  obtain ⟨t1, t2, t3, t4⟩ := q_tab j hj
  rcases f_in x (lo := qlo j) (hi := qhi j) t3 (by omega) with ⟨v, h1, h2, rfl, h3⟩ | ⟨h1, h3⟩
  · refine Or.inl ⟨v, h1, h2, rfl, fun S => ?_, h3⟩
    unfold X7_isAllowed; simp (disch := omega) only [qlj, nI_add, pk_mul, qIX, qIN, qOB, qOL, qLE1, qLE0, qLT1, qLT0, qEQ1, qEQ0, qM0, qM1, qR, qN0, qMM, qNL1, qNL0, qNE1, qNE0, qB1, qB0, qOT, qOF, qGT, t1, t2]
  · refine Or.inr ⟨fun S => ?_, h3⟩
    unfold X7_isAllowed
    by_cases h : x < nI (qlo j)
    · have hh : ∀ (a b : Option (Int32 × St)), oi (x < nI (qlo j)) a b = a := fun a b => if_pos h
      simp (disch := omega) only [qlj, nI_add, pk_mul, qIX, qIN, qOB, qOL, qLE1, qLE0, qLT1, qLT0, qEQ1, qEQ0, qM0, qM1, qR, qN0, qMM, qNL1, qNL0, qNE1, qNE0, qB1, qB0, qOT, qOF, qGT, t1, hh]
    · have hh : ∀ (a b : Option (Int32 × St)), oi (x < nI (qlo j)) a b = b := fun a b => if_neg h
      have hh2 : ∀ (a b : Option (Int32 × St)), oi (nI (qhi j) < x) a b = a := fun a b => if_pos (h1.resolve_left h)
      simp (disch := omega) only [qlj, nI_add, pk_mul, qIX, qIN, qOB, qOL, qLE1, qLE0, qLT1, qLT0, qEQ1, qEQ0, qM0, qM1, qR, qN0, qMM, qNL1, qNL0, qNE1, qNE0, qB1, qB0, qOT, qOF, qGT, t1, t2, hh, hh2]
theorem r_fits {j b : Nat} {x : Int32} {S : St} (hj : j < 8) (hb : b ≤ 1) (h : X8_in x (nI (qlo j)) (nI (qhi j)) S = some (nI b, S)) : X8_fits (nI (121 + j)) x S = some (nI b, S) := by
  have hog : ∀ (y : Option (Int32 × St)), og (isB (nI b)) y = y := fun y => by
    have : b = 0 ∨ b = 1 := by omega
    rcases this with rfl | rfl
    · exact if_pos (Or.inl rfl)
    · exact if_pos (Or.inr rfl)
  have hc : j = 0 ∨ j = 1 ∨ j = 2 ∨ j = 3 ∨ j = 4 ∨ j = 5 ∨ j = 6 ∨ j = 7 := by omega
  have hl : ∃ l g, X8_least (nI (121 + j)) S = some (l, S) ∧ X8_greatest (nI (121 + j)) S = some (g, S) ∧ l = nI (qlo j) ∧ g = nI (qhi j) := by
    rcases hc with rfl | rfl | rfl | rfl | rfl | rfl | rfl | rfl <;> exact ⟨_, _, rfl, rfl, rfl, rfl⟩
  obtain ⟨l, g, h1, h2, rfl, rfl⟩ := hl
  unfold X8_fits
  rw [h1, qOB, h2, qOB, h, qOB]
  exact hog _
def qsr (r : Rd) (j v : Nat) : Rd := (r.n, r.t, r.f, r.z, qup r.g j v)
theorem qsr_W {r : Rd} {j v : Nat} (hW : RW r) (hj : j < 14) (h1 : qlo j ≤ v) (h2 : v ≤ qhi j) : RW (qsr r j v) := by
  obtain ⟨a1, a2, a3, a4, a5, a6, a7, a8, a9, a10, a11, a12⟩ := hW
  unfold qsr RW
  simp only [rd_n, rd_t, rd_f, rd_z, rd_g]
  refine ⟨a1, a2, a3, ?_, ?_, ?_, ?_, ?_, ?_, ?_, ?_, fun f hf => ?_⟩
  · by_cases e : 0 = j
    · subst e; rw [qup_s]; exact ⟨h1, h2⟩
    · rw [qup_n e]; exact a4
  · by_cases e : 1 = j
    · subst e; rw [qup_s]; exact ⟨h1, h2⟩
    · rw [qup_n e]; exact a5
  · by_cases e : 2 = j
    · subst e; rw [qup_s]; exact h2
    · rw [qup_n e]; exact a6
  · by_cases e : 3 = j
    · subst e; rw [qup_s]; exact h2
    · rw [qup_n e]; exact a7
  · by_cases e : 4 = j
    · subst e; rw [qup_s]; exact ⟨h1, h2⟩
    · rw [qup_n e]; exact a8
  · by_cases e : 5 = j
    · subst e; rw [qup_s]; exact h2
    · rw [qup_n e]; exact a9
  · by_cases e : 6 = j
    · subst e; rw [qup_s]; exact ⟨h1, h2⟩
    · rw [qup_n e]; exact a10
  · by_cases e : 7 = j
    · subst e; rw [qup_s]; exact h2
    · rw [qup_n e]; exact a11
  · by_cases e : 8 + f = j
    · have h9 : ∀ i, i < 14 → 8 ≤ i → qhi i = 9 := by decide +kernel
      have := h9 j hj (by omega)
      rw [e, qup_s]; omega
    · rw [qup_n e]; exact a12 f hf
theorem c_setC {r : Rd} {j v : Nat} {S : St} (hR : RC r S) (hj : j < 14) : RC (qsr r j v) (si S 5 j (nI v)) ∧ Fr (fun a _ => 1 ≤ a ∧ a ≤ 5) S (si S 5 j (nI v)) := by
  obtain ⟨h1, h2, h3⟩ := hR
  refine ⟨⟨?_, fun p hp => ?_, fun i hi => ?_⟩, Fr.rf.si (by omega)⟩
  · rw [qG0 (by omega)]; exact h1
  · rw [qG0 (by omega), qG0 (by omega), qG0 (by omega)]; exact h2 p hp
  · show _ = nI (qup r.g j v i)
    by_cases e : i = j
    · subst e; rw [qup_s]; exact qG1 rfl rfl
    · rw [qup_n e, qG0 (by omega)]; exact h3 i hi
theorem r_setM {r : Rd} {j v : Nat} {T : St} (hW : RW r) (hM : RMa 76 0 r T) (hj : j < 14) : RMa 76 0 (qsr r j v) (si T 76 (121 + j) (nI v)) ∧ Fr (fun a _ => a = 76) T (si T 76 (121 + j) (nI v)) := by
  obtain ⟨h1, h2, h3⟩ := hM
  have hn := hW.1
  refine ⟨⟨?_, fun p hp => ?_, fun i hi => ?_⟩, Fr.rf.si rfl⟩
  · rw [qG0 (by omega)]; exact h1
  · have hp' : p < r.n := hp
    rw [qG0 (by omega), qG0 (by omega), qG0 (by omega)]; exact h2 p hp
  · show _ = nI (qup r.g j v i)
    by_cases e : i = j
    · subst e; rw [qup_s]; exact qG1 rfl (by omega)
    · rw [qup_n e, qG0 (by omega)]; exact h3 i hi
/-- one setting, saved first: both sides -/
theorem set_go {r : Rd} {n nw j v : Nat} {S : St} (hW : RW r) (hR : RC r S) (hM : RM r (r.g 0) (r.g 2) S) (hH : HI n nw S) (hL : LT S) (hX : TX S) (hj : j < 14) (h1 : qlo j ≤ v) (h2 : v ≤ qhi j) : ∃ S1 S2 T1 T2, X1_save 1 S = some ((), S1) ∧ gi S1 5 j = nI (r.g j) ∧ si S1 5 j (nI v) = S2 ∧ X8_keeps (si (sl S2 90 0 (nI (r.g j)).toInt64) 75 3 (nI 0)) = some ((), T1) ∧ gi T1 76 (121 + j) = nI (r.g j) ∧ si T1 76 (121 + j) (nI v) = T2 ∧ Inv T2 ∧ gi T2 75 3 = nI 0 ∧ gl T2 90 0 = (nI (r.g j)).toInt64 := by
  obtain ⟨S1, e1, e2, e3, e4, e5⟩ := c_save hR hW hH
  have hm := Nat.mod_lt (nw + 1) (show 0 < 8 by omega)
  have hR1 : RC r S1 := hR.cg (fun x y p q => e5.1 x y (by omega))
  obtain ⟨g2, g3⟩ := c_setC (v := v) hR1 hj
  obtain ⟨T1, k0, k1, k2, k3, k4, k5⟩ := inv_0 (v := nI (r.g j)) hM hH e5 g3
  obtain ⟨d2, d3⟩ := r_setM (v := v) hW k5 hj
  obtain ⟨i1, i2, i3⟩ := inv_mod (v := (nI (r.g j)).toInt64) hW hM hH hL hX (qsr_W hW hj h1 h2) e2 e3 e4 e5 g3 g2 (fun x y p q => by rw [qG0 (by omega), qIL]) (qG1 rfl rfl) (by rw [qGS, qGL]) k1 k2 k3 k4 d3 d2
  have hx := k5.2.2 j hj
  rw [Nat.zero_add] at hx
  exact ⟨S1, _, T1, _, e1, hR1.2.2 j hj, rfl, k0, hx, rfl, i1, i2, i3⟩
theorem ls4 {a b c : Int32} {S : St} (hI : Inv S) : ∃ S', LS_4 a b c S = some S' ∧ Inv S' := by
  obtain ⟨⟨r, hW, hR, hM⟩, ⟨n, nw, hH⟩, hL, hX⟩ := id hI
  unfold LS_4 L_setCapacity
  rcases f_alw (j := 0) (by omega) a with ⟨v, h1, h2, rfl, h3, h4⟩ | ⟨h3, h4⟩
  · obtain ⟨S1, S2, T1, T2, e1, e2, e3, e4, e5, e6, i1, i2, i3⟩ := set_go (j := 0) hW hR hM hH hL hX (by omega) h1 h2
    have hf : ∀ T, X8_fits (nI 121) (nI v) T = some (nI 1, T) := fun T => r_fits (j := 0) (b := 1) (by omega) (by omega) (h4 T)
    have e5' : gi T1 76 121 = nI (r.g 0) := e5
    have e6' : si T1 76 121 (nI v) = T2 := e6
    refine ⟨T2, ls_ok (v := nI (r.g 0)) (S1 := S2) ?_ ?_ i2 i3, i1⟩
    · unfold X7_setCapacity X7_change; simp (disch := omega) only [qlj, nI_add, pk_mul, qIX, qIN, qOB, qOL, qLE1, qLE0, qLT1, qLT0, qEQ1, qEQ0, qM0, qM1, qR, qN0, qMM, qNL1, qNL0, qNE1, qNE0, qB1, qB0, qOT, qOF, qGT, h3, o10, e1, e2, e3, qOBX]
    · unfold X8_setCapacity X8_sets X8_sets_14 X8_becomes; simp (disch := omega) only [qlj, nI_add, pk_mul, qIX, qIN, qOB, qOL, qLE1, qLE0, qLT1, qLT0, qEQ1, qEQ0, qM0, qM1, qR, qN0, qMM, qNL1, qNL0, qNE1, qNE0, qB1, qB0, qOT, qOF, qGT, hf, o10, f_r0, e4, e5', e6']
  · have hf : ∀ T, X8_fits (nI 121) a T = some (nI 0, T) := fun T => r_fits (j := 0) (b := 0) (by omega) (by omega) (h4 T)
    refine ls_f hI (e := 1) (k := 1) (r2 := nI 0) ?_ rfl ?_ (by omega) (by omega)
    · unfold X7_setCapacity X7_change; simp (disch := omega) only [qlj, nI_add, pk_mul, qIX, qIN, qOB, qOL, qLE1, qLE0, qLT1, qLT0, qEQ1, qEQ0, qM0, qM1, qR, qN0, qMM, qNL1, qNL0, qNE1, qNE0, qB1, qB0, qOT, qOF, qGT, h3, qOBE]
    · unfold X8_setCapacity X8_sets X8_sets_14; simp (disch := omega) only [qlj, nI_add, pk_mul, qIX, qIN, qOB, qOL, qLE1, qLE0, qLT1, qLT0, qEQ1, qEQ0, qM0, qM1, qR, qN0, qMM, qNL1, qNL0, qNE1, qNE0, qB1, qB0, qOT, qOF, qGT, hf, f_r1, o10]
theorem ls5 {a b c : Int32} {S : St} (hI : Inv S) : ∃ S', LS_5 a b c S = some S' ∧ Inv S' := by
  obtain ⟨⟨r, hW, hR, hM⟩, ⟨n, nw, hH⟩, hL, hX⟩ := id hI
  unfold LS_5 L_setRate
  rcases f_alw (j := 1) (by omega) a with ⟨v, h1, h2, rfl, h3, h4⟩ | ⟨h3, h4⟩
  · obtain ⟨S1, S2, T1, T2, e1, e2, e3, e4, e5, e6, i1, i2, i3⟩ := set_go (j := 1) hW hR hM hH hL hX (by omega) h1 h2
    have hf : ∀ T, X8_fits (nI 122) (nI v) T = some (nI 1, T) := fun T => r_fits (j := 1) (b := 1) (by omega) (by omega) (h4 T)
    have e5' : gi T1 76 122 = nI (r.g 1) := e5
    have e6' : si T1 76 122 (nI v) = T2 := e6
    refine ⟨T2, ls_ok (v := nI (r.g 1)) (S1 := S2) ?_ ?_ i2 i3, i1⟩
    · unfold X7_setRate X7_change; simp (disch := omega) only [qlj, nI_add, pk_mul, qIX, qIN, qOB, qOL, qLE1, qLE0, qLT1, qLT0, qEQ1, qEQ0, qM0, qM1, qR, qN0, qMM, qNL1, qNL0, qNE1, qNE0, qB1, qB0, qOT, qOF, qGT, h3, o10, e1, e2, e3, qOBX]
    · unfold X8_setRate X8_sets X8_sets_14 X8_becomes; simp (disch := omega) only [qlj, nI_add, pk_mul, qIX, qIN, qOB, qOL, qLE1, qLE0, qLT1, qLT0, qEQ1, qEQ0, qM0, qM1, qR, qN0, qMM, qNL1, qNL0, qNE1, qNE0, qB1, qB0, qOT, qOF, qGT, hf, o10, f_r0, e4, e5', e6']
  · have hf : ∀ T, X8_fits (nI 122) a T = some (nI 0, T) := fun T => r_fits (j := 1) (b := 0) (by omega) (by omega) (h4 T)
    refine ls_f hI (e := 1) (k := 1) (r2 := nI 0) ?_ rfl ?_ (by omega) (by omega)
    · unfold X7_setRate X7_change; simp (disch := omega) only [qlj, nI_add, pk_mul, qIX, qIN, qOB, qOL, qLE1, qLE0, qLT1, qLT0, qEQ1, qEQ0, qM0, qM1, qR, qN0, qMM, qNL1, qNL0, qNE1, qNE0, qB1, qB0, qOT, qOF, qGT, h3, qOBE]
    · unfold X8_setRate X8_sets X8_sets_14; simp (disch := omega) only [qlj, nI_add, pk_mul, qIX, qIN, qOB, qOL, qLE1, qLE0, qLT1, qLT0, qEQ1, qEQ0, qM0, qM1, qR, qN0, qMM, qNL1, qNL0, qNE1, qNE0, qB1, qB0, qOT, qOF, qGT, hf, f_r1, o10]
theorem ls6 {a b c : Int32} {S : St} (hI : Inv S) : ∃ S', LS_6 a b c S = some S' ∧ Inv S' := by
  obtain ⟨⟨r, hW, hR, hM⟩, ⟨n, nw, hH⟩, hL, hX⟩ := id hI
  unfold LS_6 L_setPolicy
  rcases f_alw (j := 2) (by omega) a with ⟨v, h1, h2, rfl, h3, h4⟩ | ⟨h3, h4⟩
  · obtain ⟨S1, S2, T1, T2, e1, e2, e3, e4, e5, e6, i1, i2, i3⟩ := set_go (j := 2) hW hR hM hH hL hX (by omega) h1 h2
    have hf : ∀ T, X8_fits (nI 123) (nI v) T = some (nI 1, T) := fun T => r_fits (j := 2) (b := 1) (by omega) (by omega) (h4 T)
    have e5' : gi T1 76 123 = nI (r.g 2) := e5
    have e6' : si T1 76 123 (nI v) = T2 := e6
    refine ⟨T2, ls_ok (v := nI (r.g 2)) (S1 := S2) ?_ ?_ i2 i3, i1⟩
    · unfold X7_setPolicy X7_change; simp (disch := omega) only [qlj, nI_add, pk_mul, qIX, qIN, qOB, qOL, qLE1, qLE0, qLT1, qLT0, qEQ1, qEQ0, qM0, qM1, qR, qN0, qMM, qNL1, qNL0, qNE1, qNE0, qB1, qB0, qOT, qOF, qGT, h3, o10, e1, e2, e3, qOBX]
    · unfold X8_setPolicy X8_sets X8_sets_14 X8_becomes; simp (disch := omega) only [qlj, nI_add, pk_mul, qIX, qIN, qOB, qOL, qLE1, qLE0, qLT1, qLT0, qEQ1, qEQ0, qM0, qM1, qR, qN0, qMM, qNL1, qNL0, qNE1, qNE0, qB1, qB0, qOT, qOF, qGT, hf, o10, f_r0, e4, e5', e6']
  · have hf : ∀ T, X8_fits (nI 123) a T = some (nI 0, T) := fun T => r_fits (j := 2) (b := 0) (by omega) (by omega) (h4 T)
    refine ls_f hI (e := 1) (k := 1) (r2 := nI 0) ?_ rfl ?_ (by omega) (by omega)
    · unfold X7_setPolicy X7_change; simp (disch := omega) only [qlj, nI_add, pk_mul, qIX, qIN, qOB, qOL, qLE1, qLE0, qLT1, qLT0, qEQ1, qEQ0, qM0, qM1, qR, qN0, qMM, qNL1, qNL0, qNE1, qNE0, qB1, qB0, qOT, qOF, qGT, h3, qOBE]
    · unfold X8_setPolicy X8_sets X8_sets_14; simp (disch := omega) only [qlj, nI_add, pk_mul, qIX, qIN, qOB, qOL, qLE1, qLE0, qLT1, qLT0, qEQ1, qEQ0, qM0, qM1, qR, qN0, qMM, qNL1, qNL0, qNE1, qNE0, qB1, qB0, qOT, qOF, qGT, hf, f_r1, o10]
theorem ls7 {a b c : Int32} {S : St} (hI : Inv S) : ∃ S', LS_7 a b c S = some S' ∧ Inv S' := by
  obtain ⟨⟨r, hW, hR, hM⟩, ⟨n, nw, hH⟩, hL, hX⟩ := id hI
  unfold LS_7 L_setScheduler
  rcases f_alw (j := 3) (by omega) a with ⟨v, h1, h2, rfl, h3, h4⟩ | ⟨h3, h4⟩
  · obtain ⟨S1, S2, T1, T2, e1, e2, e3, e4, e5, e6, i1, i2, i3⟩ := set_go (j := 3) hW hR hM hH hL hX (by omega) h1 h2
    have hf : ∀ T, X8_fits (nI 124) (nI v) T = some (nI 1, T) := fun T => r_fits (j := 3) (b := 1) (by omega) (by omega) (h4 T)
    have e5' : gi T1 76 124 = nI (r.g 3) := e5
    have e6' : si T1 76 124 (nI v) = T2 := e6
    refine ⟨T2, ls_ok (v := nI (r.g 3)) (S1 := S2) ?_ ?_ i2 i3, i1⟩
    · unfold X7_setScheduler X7_change; simp (disch := omega) only [qlj, nI_add, pk_mul, qIX, qIN, qOB, qOL, qLE1, qLE0, qLT1, qLT0, qEQ1, qEQ0, qM0, qM1, qR, qN0, qMM, qNL1, qNL0, qNE1, qNE0, qB1, qB0, qOT, qOF, qGT, h3, o10, e1, e2, e3, qOBX]
    · unfold X8_setScheduler X8_sets X8_sets_14 X8_becomes; simp (disch := omega) only [qlj, nI_add, pk_mul, qIX, qIN, qOB, qOL, qLE1, qLE0, qLT1, qLT0, qEQ1, qEQ0, qM0, qM1, qR, qN0, qMM, qNL1, qNL0, qNE1, qNE0, qB1, qB0, qOT, qOF, qGT, hf, o10, f_r0, e4, e5', e6']
  · have hf : ∀ T, X8_fits (nI 124) a T = some (nI 0, T) := fun T => r_fits (j := 3) (b := 0) (by omega) (by omega) (h4 T)
    refine ls_f hI (e := 1) (k := 1) (r2 := nI 0) ?_ rfl ?_ (by omega) (by omega)
    · unfold X7_setScheduler X7_change; simp (disch := omega) only [qlj, nI_add, pk_mul, qIX, qIN, qOB, qOL, qLE1, qLE0, qLT1, qLT0, qEQ1, qEQ0, qM0, qM1, qR, qN0, qMM, qNL1, qNL0, qNE1, qNE0, qB1, qB0, qOT, qOF, qGT, h3, qOBE]
    · unfold X8_setScheduler X8_sets X8_sets_14; simp (disch := omega) only [qlj, nI_add, pk_mul, qIX, qIN, qOB, qOL, qLE1, qLE0, qLT1, qLT0, qEQ1, qEQ0, qM0, qM1, qR, qN0, qMM, qNL1, qNL0, qNE1, qNE0, qB1, qB0, qOT, qOF, qGT, hf, f_r1, o10]
theorem ls8 {a b c : Int32} {S : St} (hI : Inv S) : ∃ S', LS_8 a b c S = some S' ∧ Inv S' := by
  obtain ⟨⟨r, hW, hR, hM⟩, ⟨n, nw, hH⟩, hL, hX⟩ := id hI
  unfold LS_8 L_setFactor
  rcases f_alw (j := 4) (by omega) a with ⟨v, h1, h2, rfl, h3, h4⟩ | ⟨h3, h4⟩
  · obtain ⟨S1, S2, T1, T2, e1, e2, e3, e4, e5, e6, i1, i2, i3⟩ := set_go (j := 4) hW hR hM hH hL hX (by omega) h1 h2
    have hf : ∀ T, X8_fits (nI 125) (nI v) T = some (nI 1, T) := fun T => r_fits (j := 4) (b := 1) (by omega) (by omega) (h4 T)
    have e5' : gi T1 76 125 = nI (r.g 4) := e5
    have e6' : si T1 76 125 (nI v) = T2 := e6
    refine ⟨T2, ls_ok (v := nI (r.g 4)) (S1 := S2) ?_ ?_ i2 i3, i1⟩
    · unfold X7_setFactor X7_change; simp (disch := omega) only [qlj, nI_add, pk_mul, qIX, qIN, qOB, qOL, qLE1, qLE0, qLT1, qLT0, qEQ1, qEQ0, qM0, qM1, qR, qN0, qMM, qNL1, qNL0, qNE1, qNE0, qB1, qB0, qOT, qOF, qGT, h3, o10, e1, e2, e3, qOBX]
    · unfold X8_setFactor X8_sets X8_sets_14 X8_becomes; simp (disch := omega) only [qlj, nI_add, pk_mul, qIX, qIN, qOB, qOL, qLE1, qLE0, qLT1, qLT0, qEQ1, qEQ0, qM0, qM1, qR, qN0, qMM, qNL1, qNL0, qNE1, qNE0, qB1, qB0, qOT, qOF, qGT, hf, o10, f_r0, e4, e5', e6']
  · have hf : ∀ T, X8_fits (nI 125) a T = some (nI 0, T) := fun T => r_fits (j := 4) (b := 0) (by omega) (by omega) (h4 T)
    refine ls_f hI (e := 1) (k := 1) (r2 := nI 0) ?_ rfl ?_ (by omega) (by omega)
    · unfold X7_setFactor X7_change; simp (disch := omega) only [qlj, nI_add, pk_mul, qIX, qIN, qOB, qOL, qLE1, qLE0, qLT1, qLT0, qEQ1, qEQ0, qM0, qM1, qR, qN0, qMM, qNL1, qNL0, qNE1, qNE0, qB1, qB0, qOT, qOF, qGT, h3, qOBE]
    · unfold X8_setFactor X8_sets X8_sets_14; simp (disch := omega) only [qlj, nI_add, pk_mul, qIX, qIN, qOB, qOL, qLE1, qLE0, qLT1, qLT0, qEQ1, qEQ0, qM0, qM1, qR, qN0, qMM, qNL1, qNL0, qNE1, qNE0, qB1, qB0, qOT, qOF, qGT, hf, f_r1, o10]
theorem ls9 {a b c : Int32} {S : St} (hI : Inv S) : ∃ S', LS_9 a b c S = some S' ∧ Inv S' := by
  obtain ⟨⟨r, hW, hR, hM⟩, ⟨n, nw, hH⟩, hL, hX⟩ := id hI
  unfold LS_9 L_setThreshold
  rcases f_alw (j := 5) (by omega) a with ⟨v, h1, h2, rfl, h3, h4⟩ | ⟨h3, h4⟩
  · obtain ⟨S1, S2, T1, T2, e1, e2, e3, e4, e5, e6, i1, i2, i3⟩ := set_go (j := 5) hW hR hM hH hL hX (by omega) h1 h2
    have hf : ∀ T, X8_fits (nI 126) (nI v) T = some (nI 1, T) := fun T => r_fits (j := 5) (b := 1) (by omega) (by omega) (h4 T)
    have e5' : gi T1 76 126 = nI (r.g 5) := e5
    have e6' : si T1 76 126 (nI v) = T2 := e6
    refine ⟨T2, ls_ok (v := nI (r.g 5)) (S1 := S2) ?_ ?_ i2 i3, i1⟩
    · unfold X7_setThreshold X7_change; simp (disch := omega) only [qlj, nI_add, pk_mul, qIX, qIN, qOB, qOL, qLE1, qLE0, qLT1, qLT0, qEQ1, qEQ0, qM0, qM1, qR, qN0, qMM, qNL1, qNL0, qNE1, qNE0, qB1, qB0, qOT, qOF, qGT, h3, o10, e1, e2, e3, qOBX]
    · unfold X8_setThreshold X8_sets X8_sets_14 X8_becomes; simp (disch := omega) only [qlj, nI_add, pk_mul, qIX, qIN, qOB, qOL, qLE1, qLE0, qLT1, qLT0, qEQ1, qEQ0, qM0, qM1, qR, qN0, qMM, qNL1, qNL0, qNE1, qNE0, qB1, qB0, qOT, qOF, qGT, hf, o10, f_r0, e4, e5', e6']
  · have hf : ∀ T, X8_fits (nI 126) a T = some (nI 0, T) := fun T => r_fits (j := 5) (b := 0) (by omega) (by omega) (h4 T)
    refine ls_f hI (e := 1) (k := 1) (r2 := nI 0) ?_ rfl ?_ (by omega) (by omega)
    · unfold X7_setThreshold X7_change; simp (disch := omega) only [qlj, nI_add, pk_mul, qIX, qIN, qOB, qOL, qLE1, qLE0, qLT1, qLT0, qEQ1, qEQ0, qM0, qM1, qR, qN0, qMM, qNL1, qNL0, qNE1, qNE0, qB1, qB0, qOT, qOF, qGT, h3, qOBE]
    · unfold X8_setThreshold X8_sets X8_sets_14; simp (disch := omega) only [qlj, nI_add, pk_mul, qIX, qIN, qOB, qOL, qLE1, qLE0, qLT1, qLT0, qEQ1, qEQ0, qM0, qM1, qR, qN0, qMM, qNL1, qNL0, qNE1, qNE0, qB1, qB0, qOT, qOF, qGT, hf, f_r1, o10]
theorem ls10 {a b c : Int32} {S : St} (hI : Inv S) : ∃ S', LS_10 a b c S = some S' ∧ Inv S' := by
  obtain ⟨⟨r, hW, hR, hM⟩, ⟨n, nw, hH⟩, hL, hX⟩ := id hI
  unfold LS_10 L_setInterval
  rcases f_alw (j := 6) (by omega) a with ⟨v, h1, h2, rfl, h3, h4⟩ | ⟨h3, h4⟩
  · obtain ⟨S1, S2, T1, T2, e1, e2, e3, e4, e5, e6, i1, i2, i3⟩ := set_go (j := 6) hW hR hM hH hL hX (by omega) h1 h2
    have hf : ∀ T, X8_fits (nI 127) (nI v) T = some (nI 1, T) := fun T => r_fits (j := 6) (b := 1) (by omega) (by omega) (h4 T)
    have e5' : gi T1 76 127 = nI (r.g 6) := e5
    have e6' : si T1 76 127 (nI v) = T2 := e6
    refine ⟨T2, ls_ok (v := nI (r.g 6)) (S1 := S2) ?_ ?_ i2 i3, i1⟩
    · unfold X7_setInterval X7_change; simp (disch := omega) only [qlj, nI_add, pk_mul, qIX, qIN, qOB, qOL, qLE1, qLE0, qLT1, qLT0, qEQ1, qEQ0, qM0, qM1, qR, qN0, qMM, qNL1, qNL0, qNE1, qNE0, qB1, qB0, qOT, qOF, qGT, h3, o10, e1, e2, e3, qOBX]
    · unfold X8_setInterval X8_sets X8_sets_14 X8_becomes; simp (disch := omega) only [qlj, nI_add, pk_mul, qIX, qIN, qOB, qOL, qLE1, qLE0, qLT1, qLT0, qEQ1, qEQ0, qM0, qM1, qR, qN0, qMM, qNL1, qNL0, qNE1, qNE0, qB1, qB0, qOT, qOF, qGT, hf, o10, f_r0, e4, e5', e6']
  · have hf : ∀ T, X8_fits (nI 127) a T = some (nI 0, T) := fun T => r_fits (j := 6) (b := 0) (by omega) (by omega) (h4 T)
    refine ls_f hI (e := 1) (k := 1) (r2 := nI 0) ?_ rfl ?_ (by omega) (by omega)
    · unfold X7_setInterval X7_change; simp (disch := omega) only [qlj, nI_add, pk_mul, qIX, qIN, qOB, qOL, qLE1, qLE0, qLT1, qLT0, qEQ1, qEQ0, qM0, qM1, qR, qN0, qMM, qNL1, qNL0, qNE1, qNE0, qB1, qB0, qOT, qOF, qGT, h3, qOBE]
    · unfold X8_setInterval X8_sets X8_sets_14; simp (disch := omega) only [qlj, nI_add, pk_mul, qIX, qIN, qOB, qOL, qLE1, qLE0, qLT1, qLT0, qEQ1, qEQ0, qM0, qM1, qR, qN0, qMM, qNL1, qNL0, qNE1, qNE0, qB1, qB0, qOT, qOF, qGT, hf, f_r1, o10]
theorem ls11 {a b c : Int32} {S : St} (hI : Inv S) : ∃ S', LS_11 a b c S = some S' ∧ Inv S' := by
  obtain ⟨⟨r, hW, hR, hM⟩, ⟨n, nw, hH⟩, hL, hX⟩ := id hI
  unfold LS_11 L_setMeasure
  rcases f_alw (j := 7) (by omega) a with ⟨v, h1, h2, rfl, h3, h4⟩ | ⟨h3, h4⟩
  · obtain ⟨S1, S2, T1, T2, e1, e2, e3, e4, e5, e6, i1, i2, i3⟩ := set_go (j := 7) hW hR hM hH hL hX (by omega) h1 h2
    have hf : ∀ T, X8_fits (nI 128) (nI v) T = some (nI 1, T) := fun T => r_fits (j := 7) (b := 1) (by omega) (by omega) (h4 T)
    have e5' : gi T1 76 128 = nI (r.g 7) := e5
    have e6' : si T1 76 128 (nI v) = T2 := e6
    refine ⟨T2, ls_ok (v := nI (r.g 7)) (S1 := S2) ?_ ?_ i2 i3, i1⟩
    · unfold X7_setMeasure X7_change; simp (disch := omega) only [qlj, nI_add, pk_mul, qIX, qIN, qOB, qOL, qLE1, qLE0, qLT1, qLT0, qEQ1, qEQ0, qM0, qM1, qR, qN0, qMM, qNL1, qNL0, qNE1, qNE0, qB1, qB0, qOT, qOF, qGT, h3, o10, e1, e2, e3, qOBX]
    · unfold X8_setMeasure X8_sets X8_sets_14 X8_becomes; simp (disch := omega) only [qlj, nI_add, pk_mul, qIX, qIN, qOB, qOL, qLE1, qLE0, qLT1, qLT0, qEQ1, qEQ0, qM0, qM1, qR, qN0, qMM, qNL1, qNL0, qNE1, qNE0, qB1, qB0, qOT, qOF, qGT, hf, o10, f_r0, e4, e5', e6']
  · have hf : ∀ T, X8_fits (nI 128) a T = some (nI 0, T) := fun T => r_fits (j := 7) (b := 0) (by omega) (by omega) (h4 T)
    refine ls_f hI (e := 1) (k := 1) (r2 := nI 0) ?_ rfl ?_ (by omega) (by omega)
    · unfold X7_setMeasure X7_change; simp (disch := omega) only [qlj, nI_add, pk_mul, qIX, qIN, qOB, qOL, qLE1, qLE0, qLT1, qLT0, qEQ1, qEQ0, qM0, qM1, qR, qN0, qMM, qNL1, qNL0, qNE1, qNE0, qB1, qB0, qOT, qOF, qGT, h3, qOBE]
    · unfold X8_setMeasure X8_sets X8_sets_14; simp (disch := omega) only [qlj, nI_add, pk_mul, qIX, qIN, qOB, qOL, qLE1, qLE0, qLT1, qLT0, qEQ1, qEQ0, qM0, qM1, qR, qN0, qMM, qNL1, qNL0, qNE1, qNE0, qB1, qB0, qOT, qOF, qGT, hf, f_r1, o10]
theorem ls12 {a b c : Int32} {S : St} (hI : Inv S) : ∃ S', LS_12 a b c S = some S' ∧ Inv S' := by
  obtain ⟨⟨r, hW, hR, hM⟩, ⟨n, nw, hH⟩, hL, hX⟩ := id hI
  unfold LS_12 L_setPriority
  rcases f_flow a with ⟨f, hf, rfl, k1, k2, k3⟩ | ⟨k1, k2, k3⟩
  · have ht : ∀ i, i < 14 → 8 ≤ i → qlo i = 0 ∧ qhi i = 9 := by decide +kernel
    have ht' := ht (8 + f) (by omega) (by omega)
    rcases f_alw (j := 8 + f) (by omega) b with ⟨v, h1, h2, rfl, h3, h4⟩ | ⟨h3, h4⟩
    · rw [ht'.1, ht'.2] at h4
      obtain ⟨S1, S2, T1, T2, e1, e2, e3, e4, e5, e6, i1, i2, i3⟩ := set_go (j := 8 + f) hW hR hM hH hL hX (by omega) h1 h2
      have e5' : gi T1 76 (129 + f) = nI (r.g (8 + f)) := by rw [show 129 + f = 121 + (8 + f) by omega]; exact e5
      have e6' : si T1 76 (129 + f) (nI v) = T2 := by rw [show 129 + f = 121 + (8 + f) by omega]; exact e6
      refine ⟨T2, ls_ok (v := nI (r.g (8 + f))) (S1 := S2) ?_ ?_ i2 i3, i1⟩
      · unfold X7_setPriority X7_change; simp (disch := omega) only [qlj, nI_add, pk_mul, qIX, qIN, qOB, qOL, qLE1, qLE0, qLT1, qLT0, qEQ1, qEQ0, qM0, qM1, qR, qN0, qMM, qNL1, qNL0, qNE1, qNE0, qB1, qB0, qOT, qOF, qGT, k3, qOBX, h3, o10, e1, e2, e3]
      · unfold X8_setPriority X8_setPriority_27 X8_becomes; simp (disch := omega) only [qlj, nI_add, pk_mul, qIX, qIN, qOB, qOL, qLE1, qLE0, qLT1, qLT0, qEQ1, qEQ0, qM0, qM1, qR, qN0, qMM, qNL1, qNL0, qNE1, qNE0, qB1, qB0, qOT, qOF, qGT, k1, h4, o10, f_r0, e4, e5', e6']
    · rw [ht'.1, ht'.2] at h4
      refine ls_f hI (e := 1) (k := 2) (r2 := nI 0) ?_ rfl ?_ (by omega) (by omega)
      · unfold X7_setPriority X7_change; simp (disch := omega) only [qlj, nI_add, pk_mul, qIX, qIN, qOB, qOL, qLE1, qLE0, qLT1, qLT0, qEQ1, qEQ0, qM0, qM1, qR, qN0, qMM, qNL1, qNL0, qNE1, qNE0, qB1, qB0, qOT, qOF, qGT, k3, qOBX, h3, qOBE]
      · unfold X8_setPriority X8_setPriority_27; simp (disch := omega) only [qlj, nI_add, pk_mul, qIX, qIN, qOB, qOL, qLE1, qLE0, qLT1, qLT0, qEQ1, qEQ0, qM0, qM1, qR, qN0, qMM, qNL1, qNL0, qNE1, qNE0, qB1, qB0, qOT, qOF, qGT, k1, h4, f_r2, o10]
  · refine ls_f hI (e := 0) (k := 1) (r2 := nI 0) ?_ rfl ?_ (by omega) (by omega)
    · unfold X7_setPriority; simp (disch := omega) only [qlj, nI_add, pk_mul, qIX, qIN, qOB, qOL, qLE1, qLE0, qLT1, qLT0, qEQ1, qEQ0, qM0, qM1, qR, qN0, qMM, qNL1, qNL0, qNE1, qNE0, qB1, qB0, qOT, qOF, qGT, k3, qOBE]
    · unfold X8_setPriority X8_setPriority_27; simp (disch := omega) only [qlj, nI_add, pk_mul, qIX, qIN, qOB, qOL, qLE1, qLE0, qLT1, qLT0, qEQ1, qEQ0, qM0, qM1, qR, qN0, qMM, qNL1, qNL0, qNE1, qNE0, qB1, qB0, qOT, qOF, qGT, k1, f_r1, o10]
theorem ls35 {a b c : Int32} {S : St} (hI : Inv S) : ∃ S', LS_35 a b c S = some S' ∧ Inv S' := by
  obtain ⟨⟨r, hW, hR, hM⟩, ⟨n, nw, w1, w2, w3, w4, w5, w6⟩, hL, hX⟩ := id hI
  unfold LS_35 L_undo
  by_cases h0 : n = 0
  · refine ls_f hI (e := 2) (k := 1) (r2 := nI 0) ?_ rfl ?_ (by omega) (by omega)
    · unfold X7_undo; simp (disch := omega) only [qlj, nI_add, pk_mul, qIX, qIN, qOB, qOL, qLE1, qLE0, qLT1, qLT0, qEQ1, qEQ0, qM0, qM1, qR, qN0, qMM, qNL1, qNL0, qNE1, qNE0, qB1, qB0, qOT, qOF, qGT, w3]
    · unfold X8_undo X8_undo_13; simp (disch := omega) only [qlj, nI_add, pk_mul, qIX, qIN, qOB, qOL, qLE1, qLE0, qLT1, qLT0, qEQ1, qEQ0, qM0, qM1, qR, qN0, qMM, qNL1, qNL0, qNE1, qNE0, qB1, qB0, qOT, qOF, qGT, w5, f_r1, o10]
  · obtain ⟨q, q1, q2, q3⟩ := w6 0 (by omega)
    rw [show (nw + 8 - 0) % 8 = nw by omega] at q2
    obtain ⟨S1, e1, e2, e3⟩ := c_copy (k := 1) (o := 8 + 5 * nw) q2 q1 (by omega)
    have f1 : gi S1 6 1 = nI n := by rw [e3.1 6 1 (by omega)]; exact w3
    have f2 : gi S1 6 2 = nI nw := by rw [e3.1 6 2 (by omega)]; exact w4
    generalize hS2 : si (si S1 6 2 (nI ((nw + 7) % 8))) 6 1 (nI (n - 1)) = S2
    have g2 : ∀ x y, x ≠ 6 → gi S2 x y = gi S1 x y := fun x y h => by rw [← hS2, qG0 (by omega), qG0 (by omega)]
    have hrest : X1_restore 1 S = some ((), S2) := by
      unfold X1_restore
      have hx : ((nw + 8 - 1) % 8) = (nw + 7) % 8 := by omega
      simp (disch := omega) only [qlj, nI_add, pk_mul, qIX, qIN, qOB, qOL, qLE1, qLE0, qLT1, qLT0, qEQ1, qEQ0, qM0, qM1, qR, qN0, qMM, qNL1, qNL0, qNE1, qNE0, qB1, qB0, qOT, qOF, qGT, w4, e1, f2, qSUB, pk_rem, qG0, f1, hx]
      rw [hS2]
    have h61 : gi S2 6 1 = nI (n - 1) := by rw [← hS2]; exact qG1 rfl rfl
    generalize hT : si (si (sl S2 90 0 (nI (n - 1)).toInt64) 75 3 (nI 0)) 75 2 (nI (n - 1)) = T
    have gT : ∀ x y, ¬ (x = 75 ∧ (y = 3 ∨ y = 2)) → gi T x y = gi S2 x y := fun x y h => by rw [← hT, qG0 (by omega), qG0 (by omega), qIL]
    have t2 : gi T 75 2 = nI (n - 1) := by rw [← hT]; exact qG1 rfl rfl
    have hl : X8_undo_33L (nI 0) T = some ((), sc T 77 76 (135 * (n - 1)) 0 135) := by
      unfold X8_undo_33L
      have h := lp_for (body := fun (a : Int32) (S : St) => X8_undo_33 a S) (b := ()) (T' := sc T 77 76 (135 * (n - 1)) 0 135) 135 (fun i => nI i) (fun i => sc T 77 76 (135 * (n - 1)) 0 i) (fun i hi => ?_) ?_
      · rw [sc_0] at h; exact h
      · have h1 := sc_si (S := T) (q := 77) (k := 76) (sp := 135 * (n - 1)) (dp := 0) (i := i)
        rw [Nat.zero_add] at h1
        have hg : gi (sc T 77 76 (135 * (n - 1)) 0 i) 75 2 = nI (n - 1) := by rw [qC0 (by omega)]; exact t2
        show X8_undo_33 (nI i) (sc T 77 76 (135 * (n - 1)) 0 i) = _
        unfold X8_undo_33
        simp (disch := omega) only [qlj, nI_add, pk_mul, qIX, qIN, qOB, qOL, qLE1, qLE0, qLT1, qLT0, qEQ1, qEQ0, qM0, qM1, qR, qN0, qMM, qNL1, qNL0, qNE1, qNE0, qB1, qB0, qOT, qOF, qGT, hg, qC0]
        rw [h1]
      · show X8_undo_33 (nI 135) _ = _
        unfold X8_undo_33
        simp (disch := omega) only [qlj, nI_add, pk_mul, qIX, qIN, qOB, qOL, qLE1, qLE0, qLT1, qLT0, qEQ1, qEQ0, qM0, qM1, qR, qN0, qMM, qNL1, qNL0, qNE1, qNE0, qB1, qB0, qOT, qOF, qGT]
    generalize hU : sc T 77 76 (135 * (n - 1)) 0 135 = U at hl
    have gU : ∀ x y, x ≠ 76 → gi U x y = gi T x y := fun x y h => by rw [← hU]; exact qC0 h
    have u76 : ∀ y, y < 135 → gi U 76 y = gi S 77 (135 * (n - 1) + y) := fun y hy => by
      rw [← hU, qC1 rfl (by omega) (by omega), Nat.sub_zero, gT 77 _ (by omega), g2 77 _ (by omega), e3.1 77 _ (by omega)]
    have hw75 : gi (sl S2 90 0 (nI (n - 1)).toInt64) 75 2 = nI n := by rw [qIL, g2 75 2 (by omega), e3.1 75 2 (by omega)]; exact w5
    have hw75' : gi (si (sl S2 90 0 (nI (n - 1)).toInt64) 75 3 (nI 0)) 75 2 = nI n := by rw [qG0 (by omega)]; exact hw75
    have hu2 : gi U 75 2 = nI (n - 1) := by rw [gU 75 2 (by omega)]; exact t2
    refine ⟨U, ls_ok (v := nI (n - 1)) (S1 := S2) ?_ ?_ ?_ ?_, ⟨q, q1, ?_, ?_⟩, ⟨n - 1, (nw + 7) % 8, by omega, Nat.mod_lt _ (by omega), ?_, ?_, hu2, fun j hj => ?_⟩, hL.cg (fun x y h => ?_), hX.cg (fun x y h => ?_)⟩
    · unfold X7_undo; simp (disch := omega) only [qlj, nI_add, pk_mul, qIX, qIN, qOB, qOL, qLE1, qLE0, qLT1, qLT0, qEQ1, qEQ0, qM0, qM1, qR, qN0, qMM, qNL1, qNL0, qNE1, qNE0, qB1, qB0, qOT, qOF, qGT, w3, hrest, h61]
    · unfold X8_undo X8_undo_13; simp (disch := omega) only [qlj, nI_add, pk_mul, qIX, qIN, qOB, qOL, qLE1, qLE0, qLT1, qLT0, qEQ1, qEQ0, qM0, qM1, qR, qN0, qMM, qNL1, qNL0, qNE1, qNE0, qB1, qB0, qOT, qOF, qGT, hw75, f_r0, hw75', qSUB, hT, hl, hu2]
    · rw [gU 75 3 (by omega), ← hT, qG0 (by omega)]; exact qG1 rfl rfl
    · have : gl U 90 0 = gl T 90 0 := by rw [← hU]; rfl
      rw [this, ← hT, qGS, qGS, qGL]
    · have : RCa 1 q U := e2.cg (fun x y a b => by rw [gU x y (by omega), gT x y (by omega), g2 x y (by omega)])
      exact ⟨this.1, this.2.1, this.2.2⟩
    · have hq : RMa 76 0 q U := by
        have hn := q1.1
        rw [Nat.sub_zero] at q3
        obtain ⟨x1, x2, x3⟩ := q3
        refine ⟨by rw [u76 0 (by omega), Nat.add_zero]; exact x1, fun p hp => ?_, fun i hi => ?_⟩
        · rw [Nat.zero_add, Nat.zero_add, Nat.zero_add, u76 _ (by omega), u76 _ (by omega), u76 _ (by omega)]; exact x2 p hp
        · rw [Nat.zero_add, u76 _ (by omega)]; exact x3 i hi
      exact hq.m
    · rw [gU _ _ (by omega), gT _ _ (by omega)]; exact h61
    · rw [gU _ _ (by omega), gT _ _ (by omega), ← hS2, qG0 (by omega)]; exact qG1 rfl rfl
    · obtain ⟨z, z1, z2, z3⟩ := w6 (j + 1) (by omega)
      have hm := Nat.mod_lt (nw + 8 - (j + 1)) (show 0 < 8 by omega)
      have hx : ((nw + 7) % 8 + 8 - j) % 8 = (nw + 8 - (j + 1)) % 8 := by omega
      refine ⟨z, z1, ?_, ?_⟩
      · rw [hx]
        exact z2.cg (fun x y a b => by rw [gU x y (by omega), gT x y (by omega), g2 x y (by omega), e3.1 x y (by omega)])
      · rw [show n - 1 - 1 - j = n - 1 - (j + 1) by omega]
        exact z3.cg z1 (fun y hy => by rw [gU _ _ (by omega), gT _ _ (by omega), g2 _ _ (by omega), e3.1 _ _ (by omega)])
    · rw [gU x y (by omega), gT x y (by omega), g2 x y (by omega), e3.1 x y (by omega)]
    · rw [gU x y (by omega), gT x y (by omega), g2 x y (by omega), e3.1 x y (by omega)]
