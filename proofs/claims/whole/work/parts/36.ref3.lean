/-! ===== the reference's scheduler and service ===== -/
def qfo (r : Rd) (Q : Qt) (fl : Nat) : Nat := qfnd (fun k => decide (r.f (Q.w k) = fl)) Q.m
theorem r_firstOf {r : Rd} {c π cur fl : Nat} {S : St} {Q : Qt} (hW : RW r) (hM : RM r c π S) (hQ : QR r S Q) (hI : QI r cur Q) (hc : cur ≤ r.n) (hfl : fl < 6) : X8_firstOf (nI fl) S = some (if qfo r Q fl < Q.m then nI (qfo r Q fl) else -nI 1, S) := by
  obtain ⟨b1, b2, b3, b4⟩ := q_bd hW hI hc
  obtain ⟨q1, q2, q3, q4, q5, q6, q7, q8, q9⟩ := hQ
  unfold X8_firstOf X8_firstOf_2L qfo
  rw [qlit 0, lp_find (P := fun k => decide (r.f (Q.w k) = fl)) (m := Q.m)]
  · by_cases h : qfnd (fun k => decide (r.f (Q.w k) = fl)) Q.m < Q.m
    · rw [if_pos h, if_pos h, qOB]
    · rw [if_neg h, if_neg h, qOB, qlit]
  · intro i hi hp
    obtain ⟨c1, c2, c3, c4, c5, c6⟩ := b4 i hi
    have hp' : r.f (Q.w i) ≠ fl := by simpa using hp
    unfold X8_firstOf_2
    simp (disch := omega) only [qlit, nI_add, pk_mul, qIX, qIN, qOB, qOL, qLE1, qLE0, qLT1, qLT0, qEQ1, qEQ0, qM0, qM1, qR, qN0, qMM, qNL1, qNL0, qNE1, qNE0, qB1, qB0, qOT, qOF, qGT, q1, q8 i hi, (r_of hW hM c1).2.1]
  · intro i hi hp
    obtain ⟨c1, c2, c3, c4, c5, c6⟩ := b4 i hi
    have hp' : r.f (Q.w i) = fl := by simpa using hp
    unfold X8_firstOf_2
    simp (disch := omega) only [qlit, nI_add, pk_mul, qIX, qIN, qOB, qOL, qLE1, qLE0, qLT1, qLT0, qEQ1, qEQ0, qM0, qM1, qR, qN0, qMM, qNL1, qNL0, qNE1, qNE0, qB1, qB0, qOT, qOF, qGT, q1, q8 i hi, (r_of hW hM c1).2.1]
  · unfold X8_firstOf_2
    simp (disch := omega) only [qlit, nI_add, pk_mul, qIX, qIN, qOB, qOL, qLE1, qLE0, qLT1, qLT0, qEQ1, qEQ0, qM0, qM1, qR, qN0, qMM, qNL1, qNL0, qNE1, qNE0, qB1, qB0, qOT, qOF, qGT, q1]
theorem r_sch120 {r : Rd} {c π cur k : Nat} {S : St} {Q : Qt} (hW : RW r) (hM : RM r c π S) (hQ : QR r S Q) (hI : QI r cur Q) (hc : cur ≤ r.n) (hk : k < Q.m) : X8_scheduled_120 (nI k) S = some (nI k, si S 75 14 (nI (r.f (Q.w k)))) := by
  obtain ⟨b1, b2, b3, b4⟩ := q_bd hW hI hc
  obtain ⟨c1, c2, c3, c4, c5, c6⟩ := b4 k hk
  unfold X8_scheduled_120
  simp (disch := omega) only [qlit, nI_add, pk_mul, qIX, qIN, qOB, qOL, qLE1, qLE0, qLT1, qLT0, qEQ1, qEQ0, qM0, qM1, qR, qN0, qMM, qNL1, qNL0, qNE1, qNE0, qB1, qB0, qOT, qOF, qGT, hQ.2.2.2.2.2.2.2.1 k hk, (r_of hW hM c1).2.1]
theorem qfo_sp {r : Rd} {Q : Qt} {fl : Nat} : qfo r Q fl ≤ Q.m ∧ (qfo r Q fl < Q.m → r.f (Q.w (qfo r Q fl)) = fl) ∧ (∀ j, j < qfo r Q fl → r.f (Q.w j) ≠ fl) := by
  obtain ⟨a, b, c⟩ := qfnd_sp (P := fun k => decide (r.f (Q.w k) = fl)) Q.m
  unfold qfo
  exact ⟨a, fun h => by simpa using b h, fun j hj => by simpa using c j hj⟩
theorem r_sched {r : Rd} {c π cur : Nat} {S : St} {Q : Qt} (hW : RW r) (hM : RM r c π S) (hQ : QR r S Q) (hI : QI r cur Q) (hc : cur ≤ r.n) (hm : 0 < Q.m) : X8_scheduled S = some (nI (qamin (fun k => qtn r.g Q.lf (r.f (Q.w k))) Q.m), si S 75 14 (nI (r.f (Q.w (qamin (fun k => qtn r.g Q.lf (r.f (Q.w k))) Q.m))))) := by
  obtain ⟨b1, b2, b3, b4⟩ := q_bd hW hI hc
  have hg3 := hW.2.2.2.2.2.2.1
  have hgp := hW.2.2.2.2.2.2.2.2.2.2.2
  have hlf := hI.2.2.2.2
  have e124 : gi S 76 124 = nI (r.g 3) := hM.2.2.2.2 3 (by omega) (by omega) (by omega)
  obtain ⟨n, hn⟩ : ∃ n, Q.m = n + 1 := ⟨Q.m - 1, by omega⟩
  obtain ⟨a1, a2, a3⟩ := qamin_sp (v := fun k => qtn r.g Q.lf (r.f (Q.w k))) n
  rw [← hn] at a1 a2 a3
  generalize hK : qamin (fun k => qtn r.g Q.lf (r.f (Q.w k))) Q.m = K at *
  have hKm : K < Q.m := by omega
  have h120 := r_sch120 hW hM hQ hI hc hKm
  unfold X8_scheduled
  by_cases h1 : r.g 3 = 1
  · have ht : ∀ k, qtn r.g Q.lf (r.f (Q.w k)) = r.g (8 + r.f (Q.w k)) * 6 + r.f (Q.w k) := fun k => by unfold qtn; rw [if_neg (by omega), if_pos h1]
    simp only [ht] at a2 a3
    have hl : X8_scheduled_18L (nI 0, nI 10, nI 0) S = some (nI K, S) := by
      unfold X8_scheduled_18L
      have key : ∃ b S', lp (fun (a : Int32 × Int32 × Int32) (S : St) => X8_scheduled_18 a.1 a.2.1 a.2.2 S) (nI 0, nI 10, nI 0) S = some (b, S') ∧ (S' = S ∧ b = nI K) := by
        refine lp_cnt (body := fun (a : Int32 × Int32 × Int32) (S : St) => X8_scheduled_18 a.1 a.2.1 a.2.2 S) 6 (fun i a T => T = S ∧ ∃ k bt, a = (nI k, nI bt, nI i) ∧ bt ≤ 10 ∧ k < Q.m ∧ (((∀ j, j < Q.m → i ≤ r.f (Q.w j)) ∧ bt = 10) ∨ (r.f (Q.w k) < i ∧ bt = r.g (8 + r.f (Q.w k)) ∧ (∀ j, j < Q.m → r.f (Q.w j) < i → bt * 6 + r.f (Q.w k) ≤ r.g (8 + r.f (Q.w j)) * 6 + r.f (Q.w j)) ∧ (∀ j, j < k → r.f (Q.w j) ≠ r.f (Q.w k))))) (fun b T => T = S ∧ b = nI K) (a := (nI 0, nI 10, nI 0)) (S := S) ⟨rfl, 0, 10, rfl, by omega, hm, Or.inl ⟨fun j _ => Nat.zero_le _, rfl⟩⟩ ?_ ?_
        · rintro i a T hi ⟨rfl, k, bt, rfl, hbt, hk, hor⟩
          have hfo := r_firstOf hW hM hQ hI hc hi
          obtain ⟨f1, f2, f3⟩ := qfo_sp (r := r) (Q := Q) (fl := i)
          have hgi := hgp i hi
          have e129 : gi T 76 (129 + i) = nI (r.g (8 + i)) := by
            have := hM.2.2.2.2 (8 + i) (by omega) (by omega) (by omega)
            rw [show 121 + (8 + i) = 129 + i by omega] at this
            exact this
          show ∃ a' S', X8_scheduled_18 (nI k) (nI bt) (nI i) T = _ ∧ _
          unfold X8_scheduled_18
          by_cases hx : qfo r Q i < Q.m
          · rw [if_pos hx] at hfo
            have ff := f2 hx
            by_cases hb : bt ≤ r.g (8 + i)
            · simp (disch := omega) only [qlit, nI_add, pk_mul, qIX, qIN, qOB, qOL, qLE1, qLE0, qLT1, qLT0, qEQ1, qEQ0, qM0, qM1, qR, qN0, qMM, qNL1, qNL0, qNE1, qNE0, qB1, qB0, qOT, qOF, qGT, hfo, e129]
              refine ⟨_, _, rfl, rfl, k, bt, rfl, hbt, hk, ?_⟩
              rcases hor with ⟨o1, o2⟩ | ⟨o1, o2, o3, o4⟩
              · omega
              · refine Or.inr ⟨by omega, o2, fun j hj hji => ?_, o4⟩
                by_cases e : r.f (Q.w j) = i
                · rw [e]; omega
                · exact o3 j hj (by omega)
            · simp (disch := omega) only [qlit, nI_add, pk_mul, qIX, qIN, qOB, qOL, qLE1, qLE0, qLT1, qLT0, qEQ1, qEQ0, qM0, qM1, qR, qN0, qMM, qNL1, qNL0, qNE1, qNE0, qB1, qB0, qOT, qOF, qGT, hfo, e129]
              refine ⟨_, _, rfl, rfl, qfo r Q i, r.g (8 + i), rfl, by omega, hx, Or.inr ⟨by omega, by rw [ff], fun j hj hji => ?_, fun j hj => by rw [ff]; exact f3 j hj⟩⟩
              rw [ff]
              rcases hor with ⟨o1, o2⟩ | ⟨o1, o2, o3, o4⟩
              · have := o1 j hj
                rw [show r.f (Q.w j) = i by omega]
                exact Nat.le_refl _
              · by_cases e : r.f (Q.w j) = i
                · rw [e]; exact Nat.le_refl _
                · have := o3 j hj (by omega)
                  omega
          · rw [if_neg hx] at hfo
            have hno : ∀ j, j < Q.m → r.f (Q.w j) ≠ i := fun j hj => f3 j (by omega)
            simp (disch := omega) only [qlit, nI_add, pk_mul, qIX, qIN, qOB, qOL, qLE1, qLE0, qLT1, qLT0, qEQ1, qEQ0, qM0, qM1, qR, qN0, qMM, qNL1, qNL0, qNE1, qNE0, qB1, qB0, qOT, qOF, qGT, hfo]
            refine ⟨_, _, rfl, rfl, k, bt, rfl, hbt, hk, ?_⟩
            rcases hor with ⟨o1, o2⟩ | ⟨o1, o2, o3, o4⟩
            · exact Or.inl ⟨fun j hj => by have := o1 j hj; have := hno j hj; omega, o2⟩
            · exact Or.inr ⟨by omega, o2, fun j hj hji => o3 j hj (by have := hno j hj; omega), o4⟩
        · rintro a T ⟨rfl, k, bt, rfl, hbt, hk, hor⟩
          refine ⟨nI k, T, ?_, rfl, ?_⟩
          · show X8_scheduled_18 (nI k) (nI bt) (nI 6) T = _
            unfold X8_scheduled_18
            simp (disch := omega) only [qlit, nI_add, pk_mul, qIX, qIN, qOB, qOL, qLE1, qLE0, qLT1, qLT0, qEQ1, qEQ0, qM0, qM1, qR, qN0, qMM, qNL1, qNL0, qNE1, qNE0, qB1, qB0, qOT, qOF, qGT]
          · have hf6 : ∀ j, j < Q.m → r.f (Q.w j) < 6 := fun j hj => (b4 j hj).2.2.2.2.1
            rcases hor with ⟨o1, o2⟩ | ⟨o1, o2, o3, o4⟩
            · have := o1 0 hm; have := hf6 0 hm; omega
            · congr 1
              have x1 := o3 K hKm (hf6 K hKm)
              have x2 := a2 k (by omega)
              have g1 := hf6 k hk
              have g2 := hf6 K hKm
              have x3 : r.f (Q.w k) = r.f (Q.w K) := by omega
              rcases Nat.lt_trichotomy k K with h | h | h
              · have := a3 k h
                rw [x3] at this
                omega
              · exact h
              · exact absurd x3.symm (o4 K h)
      obtain ⟨b, S', e1, e2, e3⟩ := key
      rw [e1, e2, e3]
    simp (disch := omega) only [qlit, nI_add, pk_mul, qIX, qIN, qOB, qOL, qLE1, qLE0, qLT1, qLT0, qEQ1, qEQ0, qM0, qM1, qR, qN0, qMM, qNL1, qNL0, qNE1, qNE0, qB1, qB0, qOT, qOF, qGT, e124, hl, h120]
  · by_cases h2 : r.g 3 = 2
    · have ht : ∀ k, qtn r.g Q.lf (r.f (Q.w k)) = if Q.lf < r.f (Q.w k) then r.f (Q.w k) - Q.lf else r.f (Q.w k) + 6 - Q.lf := fun k => by unfold qtn; rw [if_neg (by omega), if_neg h1]
      simp only [ht] at a2 a3
      have hfK := (b4 K hKm).2.2.2.2.1
      generalize hd : (if Q.lf < r.f (Q.w K) then r.f (Q.w K) - Q.lf else r.f (Q.w K) + 6 - Q.lf) = d at *
      have hd1 : 1 ≤ d ∧ d ≤ 6 ∧ (Q.lf + d) % 6 = r.f (Q.w K) := by
        rw [← hd]; split <;> omega
      have hl : X8_scheduled_95L (nI ((Q.lf + 1) % 6)) S = some (nI (r.f (Q.w K)), S) := by
        unfold X8_scheduled_95L
        refine lp_same (body := fun (a : Int32) (S : St) => X8_scheduled_95 a S) (d - 1) (fun i => nI ((Q.lf + 1 + i) % 6)) (fun i hi => ?_) ?_
        · have hfo := r_firstOf hW hM hQ hI hc (fl := (Q.lf + 1 + i) % 6) (by omega)
          obtain ⟨f1, f2, f3⟩ := qfo_sp (r := r) (Q := Q) (fl := (Q.lf + 1 + i) % 6)
          rw [if_neg (fun h => by
            have h3 := f2 h
            have h4 := a2 _ (show qfo r Q ((Q.lf + 1 + i) % 6) ≤ n by omega)
            rw [h3] at h4
            split at h4 <;> omega)] at hfo
          unfold X8_scheduled_95
          simp (disch := omega) only [qlit, nI_add, pk_mul, qIX, qIN, qOB, qOL, qLE1, qLE0, qLT1, qLT0, qEQ1, qEQ0, qM0, qM1, qR, qN0, qMM, qNL1, qNL0, qNE1, qNE0, qB1, qB0, qOT, qOF, qGT, hfo, pk_rem]
          rw [show ((Q.lf + 1 + i) % 6 + 1) % 6 = (Q.lf + 1 + (i + 1)) % 6 by omega]
        · have hfo := r_firstOf hW hM hQ hI hc (fl := (Q.lf + 1 + (d - 1)) % 6) (by omega)
          obtain ⟨f1, f2, f3⟩ := qfo_sp (r := r) (Q := Q) (fl := (Q.lf + 1 + (d - 1)) % 6)
          have he : (Q.lf + 1 + (d - 1)) % 6 = r.f (Q.w K) := by rw [← hd1.2.2]; congr 1; omega
          rw [if_pos (by
            rcases Nat.lt_or_ge (qfo r Q ((Q.lf + 1 + (d - 1)) % 6)) Q.m with h | h
            · exact h
            · exact absurd he.symm (f3 K (by omega)))] at hfo
          unfold X8_scheduled_95
          simp (disch := omega) only [qlit, nI_add, pk_mul, qIX, qIN, qOB, qOL, qLE1, qLE0, qLT1, qLT0, qEQ1, qEQ0, qM0, qM1, qR, qN0, qMM, qNL1, qNL0, qNE1, qNE0, qB1, qB0, qOT, qOF, qGT, hfo]
          rw [he]
      have hfo := r_firstOf hW hM hQ hI hc hfK
      obtain ⟨f1, f2, f3⟩ := qfo_sp (r := r) (Q := Q) (fl := r.f (Q.w K))
      have hfe : qfo r Q (r.f (Q.w K)) = K := by
        rcases Nat.lt_trichotomy (qfo r Q (r.f (Q.w K))) K with h | h | h
        · have h3 := f2 (by omega)
          have h4 := a3 _ h
          rw [h3] at h4
          omega
        · exact h
        · exact absurd rfl (f3 K h)
      rw [hfe, if_pos hKm] at hfo
      simp (disch := omega) only [qlit, nI_add, pk_mul, qIX, qIN, qOB, qOL, qLE1, qLE0, qLT1, qLT0, qEQ1, qEQ0, qM0, qM1, qR, qN0, qMM, qNL1, qNL0, qNE1, qNE0, qB1, qB0, qOT, qOF, qGT, e124, hQ.2.2.1, pk_rem, hl, hfo, h120]
    · have ht : ∀ k, qtn r.g Q.lf (r.f (Q.w k)) = 0 := fun k => by unfold qtn; rw [if_pos (by omega)]
      simp only [ht] at a2 a3
      have hK0 : K = 0 := by
        rcases Nat.eq_zero_or_pos K with h | h
        · exact h
        · have := a3 0 h; omega
      subst hK0
      simp (disch := omega) only [qlit, nI_add, pk_mul, qIX, qIN, qOB, qOL, qLE1, qLE0, qLT1, qLT0, qEQ1, qEQ0, qM0, qM1, qR, qN0, qMM, qNL1, qNL0, qNE1, qNE0, qB1, qB0, qOT, qOF, qGT, e124, h120]
def qwl (r : Rd) (Q : Qt) : Qt := (Q.m, Q.w, Q.R, qlf r Q, Q.F, Q.dm, Q.D, Q.cn, Q.nc)
theorem r_chosen {r : Rd} {c π cur : Nat} {S : St} {Q : Qt} (hW : RW r) (hM : RM r c π S) (hQ : QR r S Q) (hI : QI r cur Q) (hc : cur ≤ r.n) (hm : 0 < Q.m) : ∃ S', X8_chosen S = some (nI (qch r Q), S') ∧ QR r S' (qwl r Q) ∧ Fr PRf S S' := by
  obtain ⟨b1, b2, b3, b4⟩ := q_bd hW hI hc
  have hsch := r_sched hW hM hQ hI hc hm
  obtain ⟨q1, q2, q3, q4, q5, q6, q7, q8, q9⟩ := hQ
  unfold X8_chosen X8_chosen_2L
  rw [qlit 0, lp_find (P := qbg r.z Q.w Q.R) (m := Q.m)]
  · rw [qOB]
    have hb : qfnd (qbg r.z Q.w Q.R) Q.m = qbp r Q := rfl
    rw [hb]
    by_cases h : qbp r Q < Q.m
    · rw [if_pos h]
      have e1 : qch r Q = qbp r Q := if_pos h
      have e2 : qlf r Q = Q.lf := if_pos h
      refine ⟨S, by rw [e1], ⟨q1, q2, ?_, q4, q5, q6, q7, q8, q9⟩, Fr.rf⟩
      show _ = nI (qlf r Q)
      rw [e2]; exact q3
    · rw [if_neg h]
      have e1 : qch r Q = qamin (fun k => qtn r.g Q.lf (r.f (Q.w k))) Q.m := if_neg h
      have e2 : qlf r Q = r.f (Q.w (qch r Q)) := if_neg h
      rw [← e1, ← e2] at hsch
      simp only [hsch, qOB]
      exact ⟨_, rfl, ⟨q1, q2, qG1 rfl rfl, q4, q5, q6, q7, q8, q9⟩, Fr.rf.si (by unfold PRf; omega)⟩
  · intro i hi hp
    obtain ⟨c1, c2, c3, c4, c5, c6⟩ := b4 i hi
    have hw := r_wh hW hM c1 (q9 i hi) c4
    rw [if_pos (by simpa [qbg] using hp)] at hw
    unfold X8_chosen_2
    simp (disch := omega) only [qlit, nI_add, pk_mul, qIX, qIN, qOB, qOL, qLE1, qLE0, qLT1, qLT0, qEQ1, qEQ0, qM0, qM1, qR, qN0, qMM, qNL1, qNL0, qNE1, qNE0, qB1, qB0, qOT, qOF, qGT, q1, q8 i hi, hw]
  · intro i hi hp
    obtain ⟨c1, c2, c3, c4, c5, c6⟩ := b4 i hi
    have hw := r_wh hW hM c1 (q9 i hi) c4
    rw [if_neg (by simpa [qbg] using hp)] at hw
    unfold X8_chosen_2
    simp (disch := omega) only [qlit, nI_add, pk_mul, qIX, qIN, qOB, qOL, qLE1, qLE0, qLT1, qLT0, qEQ1, qEQ0, qM0, qM1, qR, qN0, qMM, qNL1, qNL0, qNE1, qNE0, qB1, qB0, qOT, qOF, qGT, q1, q8 i hi, hw]
  · unfold X8_chosen_2
    simp (disch := omega) only [qlit, nI_add, pk_mul, qIX, qIN, qOB, qOL, qLE1, qLE0, qLT1, qLT0, qEQ1, qEQ0, qM0, qM1, qR, qN0, qMM, qNL1, qNL0, qNE1, qNE0, qB1, qB0, qOT, qOF, qGT, q1]
theorem r_serve1 {r : Rd} {c π cur x τ b s : Nat} {S : St} {Q : Qt} (hW : RW r) (hM : RM r c π S) (hQ : QR r S Q) (hI : QI r cur Q) (hc : cur ≤ r.n) (hm : 0 < Q.m) (hx : 1 ≤ x) (hx2 : x ≤ 100) (hs : s = min (Q.R (Q.w (qch r Q))) x) (hb : (b + s - 1) / r.g 1 = τ) :
    ∃ S', X8_serves_8 (nI τ) (nI x) S = some (.inl (nI (x - s)), S') ∧ QR r S' (qck r b s Q) ∧ Fr PRf S S' := by
  obtain ⟨b1, b2, b3, b4⟩ := q_bd hW hI hc
  obtain ⟨S1, e1, e2, e3⟩ := r_chosen hW hM hQ hI hc hm
  have hk := qch_lt (r := r) hm
  obtain ⟨c1, c2, c3, c4, c5, c6⟩ := b4 _ hk
  have hld := qck_ld (r := r) (b := b) (s := s) hI hm (by omega)
  have hgt : Q.R (Q.w (qch r Q)) ≤ qld Q := qsm_get (v := fun k => Q.R (Q.w k)) hk
  have hinj := hI.1
  obtain ⟨p1, p2, p3, p4, p5, p6, p7, p8, p9⟩ := e2
  have p1' : gi S1 75 10 = nI Q.m := p1
  have p2' : gi S1 75 12 = nI (qld Q) := p2
  have p8' : gi S1 81 (qch r Q) = nI (Q.w (qch r Q)) := p8 _ hk
  have p9' : gi S1 82 (Q.w (qch r Q)) = nI (Q.R (Q.w (qch r Q))) := p9 _ hk
  unfold X8_serves_8
  simp (disch := omega) only [qlit, nI_add, pk_mul, qIX, qIN, qOB, qOL, qLE1, qLE0, qLT1, qLT0, qEQ1, qEQ0, qM0, qM1, qR, qN0, qMM, qNL1, qNL0, qNE1, qNE0, qB1, qB0, qOT, qOF, qGT, hQ.1, e1, p8', p9']
  have h54 : ∃ S', X8_serves_54 (nI τ) (nI x) (nI (qch r Q)) (nI (Q.w (qch r Q))) (nI s) S1 = some (.inl (nI (x - s)), S') ∧ QR r S' (qck r b s Q) ∧ Fr PRf S S' := by
    unfold X8_serves_54
    simp (disch := omega) only [qlit, nI_add, pk_mul, qIX, qIN, qOB, qOL, qLE1, qLE0, qLT1, qLT0, qEQ1, qEQ0, qM0, qM1, qR, qN0, qMM, qNL1, qNL0, qNE1, qNE0, qB1, qB0, qOT, qOF, qGT, p9', qSUB, qG0, qG1, p2']
    by_cases hs2 : Q.R (Q.w (qch r Q)) = s
    · have h0 : Q.R (Q.w (qch r Q)) - s = 0 := by omega
      have hlv := r_leaves (S := si (si S1 82 (Q.w (qch r Q)) (nI (Q.R (Q.w (qch r Q)) - s))) 75 12 (nI (qld Q - s))) (m := Q.m) (l := qld Q - s) (k := qch r Q) (p := Q.w (qch r Q)) (x := 0) (by simp (disch := omega) only [qlit, nI_add, pk_mul, qIX, qIN, qOB, qOL, qLE1, qLE0, qLT1, qLT0, qEQ1, qEQ0, qM0, qM1, qR, qN0, qMM, qNL1, qNL0, qNE1, qNE0, qB1, qB0, qOT, qOF, qGT, qG0, p1']) (by simp (disch := omega) only [qlit, nI_add, pk_mul, qIX, qIN, qOB, qOL, qLE1, qLE0, qLT1, qLT0, qEQ1, qEQ0, qM0, qM1, qR, qN0, qMM, qNL1, qNL0, qNE1, qNE0, qB1, qB0, qOT, qOF, qGT, qG1]) (by simp (disch := omega) only [qlit, nI_add, pk_mul, qIX, qIN, qOB, qOL, qLE1, qLE0, qLT1, qLT0, qEQ1, qEQ0, qM0, qM1, qR, qN0, qMM, qNL1, qNL0, qNE1, qNE0, qB1, qB0, qOT, qOF, qGT, qG0, p8']) (by simp (disch := omega) only [qlit, nI_add, pk_mul, qIX, qIN, qOB, qOL, qLE1, qLE0, qLT1, qLT0, qEQ1, qEQ0, qM0, qM1, qR, qN0, qMM, qNL1, qNL0, qNE1, qNE0, qB1, qB0, qOT, qOF, qGT, qG0, qG1, h0]) hk b1 c2 (Nat.zero_le _) (by omega)
      simp (disch := omega) only [qlit, nI_add, pk_mul, qIX, qIN, qOB, qOL, qLE1, qLE0, qLT1, qLT0, qEQ1, qEQ0, qM0, qM1, qR, qN0, qMM, qNL1, qNL0, qNE1, qNE0, qB1, qB0, qOT, qOF, qGT, h0]
      rw [h0] at hlv
      simp (disch := omega) only [qlit, nI_add, pk_mul, qIX, qIN, qOB, qOL, qLE1, qLE0, qLT1, qLT0, qEQ1, qEQ0, qM0, qM1, qR, qN0, qMM, qNL1, qNL0, qNE1, qNE0, qB1, qB0, qOT, qOF, qGT, hlv]
      rw [qck, if_pos hs2, hb] at hld ⊢
      refine ⟨_, rfl, ⟨?_, ?_, ?_, ?_, ?_, fun y hy => ?_, fun j hj => ?_, fun i hi => ?_, fun i hi => ?_⟩, ?_⟩
      · simp (disch := omega) only [qlit, nI_add, pk_mul, qIX, qIN, qOB, qOL, qLE1, qLE0, qLT1, qLT0, qEQ1, qEQ0, qM0, qM1, qR, qN0, qMM, qNL1, qNL0, qNE1, qNE0, qB1, qB0, qOT, qOF, qGT, qG0, qG1, qC0]; rfl
      · simp (disch := omega) only [qlit, nI_add, pk_mul, qIX, qIN, qOB, qOL, qLE1, qLE0, qLT1, qLT0, qEQ1, qEQ0, qM0, qM1, qR, qN0, qMM, qNL1, qNL0, qNE1, qNE0, qB1, qB0, qOT, qOF, qGT, qG0, qG1, qC0]
        rw [← hld]
        congr 1
        omega
      · simp (disch := omega) only [qlit, nI_add, pk_mul, qIX, qIN, qOB, qOL, qLE1, qLE0, qLT1, qLT0, qEQ1, qEQ0, qM0, qM1, qR, qN0, qMM, qNL1, qNL0, qNE1, qNE0, qB1, qB0, qOT, qOF, qGT, qG0, qC0]; exact p3
      · simp (disch := omega) only [qlit, nI_add, pk_mul, qIX, qIN, qOB, qOL, qLE1, qLE0, qLT1, qLT0, qEQ1, qEQ0, qM0, qM1, qR, qN0, qMM, qNL1, qNL0, qNE1, qNE0, qB1, qB0, qOT, qOF, qGT, qG0, qC0]; exact p4
      · simp (disch := omega) only [qlit, nI_add, pk_mul, qIX, qIN, qOB, qOL, qLE1, qLE0, qLT1, qLT0, qEQ1, qEQ0, qM0, qM1, qR, qN0, qMM, qNL1, qNL0, qNE1, qNE0, qB1, qB0, qOT, qOF, qGT, qG0, qC0]; exact p5
      · show _ = qup Q.F (Q.w (qch r Q)) (nI τ) y
        by_cases e : y = Q.w (qch r Q)
        · subst e; simp (disch := omega) only [qlit, nI_add, pk_mul, qIX, qIN, qOB, qOL, qLE1, qLE0, qLT1, qLT0, qEQ1, qEQ0, qM0, qM1, qR, qN0, qMM, qNL1, qNL0, qNE1, qNE0, qB1, qB0, qOT, qOF, qGT, qG1, qup_s]
        · simp (disch := omega) only [qlit, nI_add, pk_mul, qIX, qIN, qOB, qOL, qLE1, qLE0, qLT1, qLT0, qEQ1, qEQ0, qM0, qM1, qR, qN0, qMM, qNL1, qNL0, qNE1, qNE0, qB1, qB0, qOT, qOF, qGT, qG0, qC0, qup_n e]; exact p6 y hy
      · simp (disch := omega) only [qlit, nI_add, pk_mul, qIX, qIN, qOB, qOL, qLE1, qLE0, qLT1, qLT0, qEQ1, qEQ0, qM0, qM1, qR, qN0, qMM, qNL1, qNL0, qNE1, qNE0, qB1, qB0, qOT, qOF, qGT, qG0, qC0]; exact p7 j hj
      · show _ = nI (qdel Q.w (qch r Q) i)
        have hi' : i < Q.m - 1 := hi
        unfold qdel
        by_cases e : i < qch r Q
        · rw [if_pos e]; simp (disch := omega) only [qlit, nI_add, pk_mul, qIX, qIN, qOB, qOL, qLE1, qLE0, qLT1, qLT0, qEQ1, qEQ0, qM0, qM1, qR, qN0, qMM, qNL1, qNL0, qNE1, qNE0, qB1, qB0, qOT, qOF, qGT, qG0, qC2]; exact p8 i (show i < Q.m by omega)
        · rw [if_neg e]; simp (disch := omega) only [qlit, nI_add, pk_mul, qIX, qIN, qOB, qOL, qLE1, qLE0, qLT1, qLT0, qEQ1, qEQ0, qM0, qM1, qR, qN0, qMM, qNL1, qNL0, qNE1, qNE0, qB1, qB0, qOT, qOF, qGT, qG0, qC1]
          rw [show qch r Q + 1 + (i - qch r Q) = i + 1 by omega]; exact p8 (i + 1) (show i + 1 < Q.m by omega)
      · show gi _ 82 (qdel Q.w (qch r Q) i) = nI (qup Q.R (Q.w (qch r Q)) 0 (qdel Q.w (qch r Q) i))
        have hi' : i < Q.m - 1 := hi
        have hne : qdel Q.w (qch r Q) i ≠ Q.w (qch r Q) := by
          rw [qdel_get]
          intro e
          have := hinj _ _ (by split <;> omega) hk e
          split at this <;> omega
        rw [qup_n hne]
        simp (disch := omega) only [qlit, nI_add, pk_mul, qIX, qIN, qOB, qOL, qLE1, qLE0, qLT1, qLT0, qEQ1, qEQ0, qM0, qM1, qR, qN0, qMM, qNL1, qNL0, qNE1, qNE0, qB1, qB0, qOT, qOF, qGT, qG0, qC0]
        rw [qdel_get]
        exact p9 _ (by show _ < Q.m; split <;> omega)
      · refine Fr.si ?_ (by unfold PRf; omega)
        refine Fr.sc ?_ (fun j => by unfold PRf; omega)
        exact (((e3.si (by unfold PRf; omega)).si (by unfold PRf; omega)).si (by unfold PRf; omega)).si (by unfold PRf; omega)
    · simp (disch := omega) only [qlit, nI_add, pk_mul, qIX, qIN, qOB, qOL, qLE1, qLE0, qLT1, qLT0, qEQ1, qEQ0, qM0, qM1, qR, qN0, qMM, qNL1, qNL0, qNE1, qNE0, qB1, qB0, qOT, qOF, qGT]
      rw [qck, if_neg hs2] at hld ⊢
      refine ⟨_, rfl, ⟨?_, ?_, ?_, ?_, ?_, fun y hy => ?_, fun j hj => ?_, fun i hi => ?_, fun i hi => ?_⟩, ?_⟩
      · simp (disch := omega) only [qlit, nI_add, pk_mul, qIX, qIN, qOB, qOL, qLE1, qLE0, qLT1, qLT0, qEQ1, qEQ0, qM0, qM1, qR, qN0, qMM, qNL1, qNL0, qNE1, qNE0, qB1, qB0, qOT, qOF, qGT, qG0]; exact p1
      · simp (disch := omega) only [qlit, nI_add, pk_mul, qIX, qIN, qOB, qOL, qLE1, qLE0, qLT1, qLT0, qEQ1, qEQ0, qM0, qM1, qR, qN0, qMM, qNL1, qNL0, qNE1, qNE0, qB1, qB0, qOT, qOF, qGT, qG1]
        rw [← hld]
        congr 1
        omega
      · simp (disch := omega) only [qlit, nI_add, pk_mul, qIX, qIN, qOB, qOL, qLE1, qLE0, qLT1, qLT0, qEQ1, qEQ0, qM0, qM1, qR, qN0, qMM, qNL1, qNL0, qNE1, qNE0, qB1, qB0, qOT, qOF, qGT, qG0]; exact p3
      · simp (disch := omega) only [qlit, nI_add, pk_mul, qIX, qIN, qOB, qOL, qLE1, qLE0, qLT1, qLT0, qEQ1, qEQ0, qM0, qM1, qR, qN0, qMM, qNL1, qNL0, qNE1, qNE0, qB1, qB0, qOT, qOF, qGT, qG0]; exact p4
      · simp (disch := omega) only [qlit, nI_add, pk_mul, qIX, qIN, qOB, qOL, qLE1, qLE0, qLT1, qLT0, qEQ1, qEQ0, qM0, qM1, qR, qN0, qMM, qNL1, qNL0, qNE1, qNE0, qB1, qB0, qOT, qOF, qGT, qG0]; exact p5
      · simp (disch := omega) only [qlit, nI_add, pk_mul, qIX, qIN, qOB, qOL, qLE1, qLE0, qLT1, qLT0, qEQ1, qEQ0, qM0, qM1, qR, qN0, qMM, qNL1, qNL0, qNE1, qNE0, qB1, qB0, qOT, qOF, qGT, qG0]; exact p6 y hy
      · simp (disch := omega) only [qlit, nI_add, pk_mul, qIX, qIN, qOB, qOL, qLE1, qLE0, qLT1, qLT0, qEQ1, qEQ0, qM0, qM1, qR, qN0, qMM, qNL1, qNL0, qNE1, qNE0, qB1, qB0, qOT, qOF, qGT, qG0]; exact p7 j hj
      · simp (disch := omega) only [qlit, nI_add, pk_mul, qIX, qIN, qOB, qOL, qLE1, qLE0, qLT1, qLT0, qEQ1, qEQ0, qM0, qM1, qR, qN0, qMM, qNL1, qNL0, qNE1, qNE0, qB1, qB0, qOT, qOF, qGT, qG0]; exact p8 i hi
      · show gi _ 82 (Q.w i) = nI (qup Q.R (Q.w (qch r Q)) (Q.R (Q.w (qch r Q)) - s) (Q.w i))
        have hi' : i < Q.m := hi
        by_cases e : i = qch r Q
        · subst e; simp (disch := omega) only [qlit, nI_add, pk_mul, qIX, qIN, qOB, qOL, qLE1, qLE0, qLT1, qLT0, qEQ1, qEQ0, qM0, qM1, qR, qN0, qMM, qNL1, qNL0, qNE1, qNE0, qB1, qB0, qOT, qOF, qGT, qG0, qG1, qup_s]
        · have hne : Q.w i ≠ Q.w (qch r Q) := fun h => e (hinj _ _ hi' hk h)
          simp (disch := omega) only [qlit, nI_add, pk_mul, qIX, qIN, qOB, qOL, qLE1, qLE0, qLT1, qLT0, qEQ1, qEQ0, qM0, qM1, qR, qN0, qMM, qNL1, qNL0, qNE1, qNE0, qB1, qB0, qOT, qOF, qGT, qG0, qup_n hne]
          exact p9 i hi
      · exact (e3.si (by unfold PRf; omega)).si (by unfold PRf; omega)
  by_cases hle : x ≤ Q.R (Q.w (qch r Q))
  · have : s = x := by omega
    subst this
    simp (disch := omega) only [qlit, nI_add, pk_mul, qIX, qIN, qOB, qOL, qLE1, qLE0, qLT1, qLT0, qEQ1, qEQ0, qM0, qM1, qR, qN0, qMM, qNL1, qNL0, qNE1, qNE0, qB1, qB0, qOT, qOF, qGT]
    exact h54
  · have : s = Q.R (Q.w (qch r Q)) := by omega
    rw [← this]
    simp (disch := omega) only [qlit, nI_add, pk_mul, qIX, qIN, qOB, qOL, qLE1, qLE0, qLT1, qLT0, qEQ1, qEQ0, qM0, qM1, qR, qN0, qMM, qNL1, qNL0, qNE1, qNE0, qB1, qB0, qOT, qOF, qGT]
    exact h54
theorem r_serveL {r : Rd} {c π cur τ : Nat} (hW : RW r) (hc : cur ≤ r.n) : ∀ (x b : Nat) (Q : Qt) (S : St), x ≤ 100 → b + x = (τ + 1) * r.g 1 → x ≤ r.g 1 → RM r c π S → QR r S Q → QI r cur Q →
    ∃ S', X8_serves_8L (nI τ) (nI x) S = some ((), S') ∧ QR r S' (qrun r b x Q) ∧ Fr PRf S S' := by
  intro x
  induction x using Nat.strongRecOn with
  | ind x ih =>
    intro b Q S hx hb hx1 hM hQ hI
    have hg1 := hW.2.2.2.2.1
    have hf : ∀ q, q < cur → r.f q < 6 := fun q hq => (hW.2.1 q (by omega)).2.1
    obtain ⟨b1, b2, b3, b4⟩ := q_bd hW hI hc
    by_cases h0 : x = 0
    · subst h0
      refine ⟨S, lp_end ?_, hQ, Fr.rf⟩
      show X8_serves_8 (nI τ) (nI 0) S = _
      unfold X8_serves_8
      exact if_pos (Int32.le_refl (nI 0))
    · by_cases hm : Q.m = 0
      · rw [qrun_0 _ _ _ hm]
        refine ⟨S, lp_end ?_, hQ, Fr.rf⟩
        show X8_serves_8 (nI τ) (nI x) S = _
        unfold X8_serves_8
        simp (disch := omega) only [qlit, nI_add, pk_mul, qIX, qIN, qOB, qOL, qLE1, qLE0, qLT1, qLT0, qEQ1, qEQ0, qM0, qM1, qR, qN0, qMM, qNL1, qNL0, qNE1, qNE0, qB1, qB0, qOT, qOF, qGT, hQ.1]
      · have hk := qch_lt (r := r) (Q := Q) (by omega)
        have hR := b4 _ hk
        have hbs : (b + min (Q.R (Q.w (qch r Q))) x - 1) / r.g 1 = τ := by
          rw [Nat.add_mul, Nat.one_mul] at hb
          rw [Nat.div_eq_iff (by omega)]
          omega
        obtain ⟨S1, e1, e2, e3⟩ := r_serve1 hW hM hQ hI hc (by omega) (by omega) hx rfl hbs
        generalize hs : min (Q.R (Q.w (qch r Q))) x = s at *
        have hs1 : 1 ≤ s ∧ s ≤ x ∧ s ≤ Q.R (Q.w (qch r Q)) := by omega
        have hI1 := qck_QI (b := b) hI (show 0 < Q.m by omega) hs1.1 hs1.2.2 hf
        obtain ⟨S2, e4, e5, e6⟩ := ih (x - s) (by omega) (b + s) (qck r b s Q) S1 (by omega) (by omega) (by omega) (hM.fr e3) e2 hI1
        refine ⟨S2, lp_go e1 e4, ?_, e3.tr e6⟩
        have := qrun_add (r := r) s (x - s) b Q
        rw [show s + (x - s) = x by omega, qrun_ck hf s b Q hI (by omega) hs1.1 hs1.2.2] at this
        rw [this]
        exact e5
theorem r_serves {r : Rd} {c π cur τ : Nat} {S : St} {Q : Qt} (hW : RW r) (hM : RM r c π S) (hQ : QR r S Q) (hI : QI r cur Q) (hc : cur ≤ r.n) : ∃ S', X8_serves (nI τ) S = some ((), S') ∧ QR r S' (qrun r (τ * r.g 1) (r.g 1) Q) ∧ Fr PRf S S' := by
  have hg1 := hW.2.2.2.2.1
  have e122 : gi S 76 122 = nI (r.g 1) := hM.2.2.2.2 1 (by omega) (by omega) (by omega)
  obtain ⟨S1, e1, e2, e3⟩ := r_serveL (c := c) (π := π) (τ := τ) hW hc (r.g 1) (τ * r.g 1) Q S (by omega) (by rw [Nat.add_mul, Nat.one_mul]) (Nat.le_refl _) hM hQ hI
  unfold X8_serves
  rw [e122, e1, qOB]
  exact ⟨S1, rfl, e2, e3⟩
