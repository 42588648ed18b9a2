/-! ===== ranks ===== -/
theorem qsm_le2 {v v' : Nat → Nat} : ∀ {m : Nat}, (∀ k, k < m → v k ≤ v' k) → qsm v m ≤ qsm v' m := by
  intro m
  induction m with
  | zero => intro _; exact Nat.le_refl _
  | succ m ih =>
    intro h
    have h1 := ih (fun k hk => h k (by omega))
    have h2 := h m (by omega)
    rw [qsm, qsm]
    omega
theorem qsm_lt2 {v v' : Nat → Nat} {j : Nat} : ∀ {m : Nat}, (∀ k, k < m → v k ≤ v' k) → j < m → v j < v' j → qsm v m < qsm v' m := by
  intro m
  induction m with
  | zero => intro _ h; omega
  | succ m ih =>
    intro h hj hlt
    have h2 := h m (by omega)
    rw [qsm, qsm]
    by_cases e : j = m
    · subst e
      have h1 := qsm_le2 (v := v) (v' := v') (m := j) (fun k hk => h k (by omega))
      omega
    · have h1 := ih (fun k hk => h k (by omega)) (by omega) hlt
      omega
theorem q_rank {A : Nat → Nat → Bool} (irr : ∀ a, A a a = false) (tr : ∀ a b c, A a b = true → A b c = true → A a c = true) (tot : ∀ a b, a ≠ b → A a b = true ∨ A b a = true) : ∀ n k, k < n → ∃ f, f < n ∧ qsm (fun o => if A f o = true then 1 else 0) n = k := by
  intro n
  induction n with
  | zero => intro k h; omega
  | succ n ih =>
    intro k hk
    have hj : qsm (fun o => if A n o = true then 1 else 0) n ≤ 1 * n := qsm_le (fun o _ => by show (if _ then _ else _) ≤ 1; split <;> omega)
    rcases Nat.lt_trichotomy k (qsm (fun o => if A n o = true then 1 else 0) n) with h | h | h
    · obtain ⟨f, hf, e⟩ := ih k (by omega)
      refine ⟨f, by omega, ?_⟩
      rw [qsm, e]
      by_cases hA : A f n = true
      · have := qsm_le2 (v := fun o => if A n o = true then 1 else 0) (v' := fun o => if A f o = true then 1 else 0) (m := n) (fun o _ => by
          show (if A n o = true then 1 else 0) ≤ (if A f o = true then 1 else 0)
          by_cases h1 : A n o = true
          · rw [if_pos h1, if_pos (tr f n o hA h1)]; exact Nat.le_refl _
          · rw [if_neg h1]; exact Nat.zero_le _)
        omega
      · rw [if_neg hA, Nat.add_zero]
    · exact ⟨n, by omega, by rw [qsm, irr, if_neg (by simp), h, Nat.add_zero]⟩
    · obtain ⟨f, hf, e⟩ := ih (k - 1) (by omega)
      refine ⟨f, by omega, ?_⟩
      rw [qsm, e]
      by_cases hA : A f n = true
      · rw [if_pos hA]; omega
      · have hB : A n f = true := (tot f n (by omega)).resolve_left hA
        have := qsm_lt2 (v := fun o => if A f o = true then 1 else 0) (v' := fun o => if A n o = true then 1 else 0) (j := f) (m := n) (fun o _ => by
          show (if A f o = true then 1 else 0) ≤ (if A n o = true then 1 else 0)
          by_cases h1 : A f o = true
          · rw [if_pos h1, if_pos (tr n f o hB h1)]; exact Nat.le_refl _
          · rw [if_neg h1]; exact Nat.zero_le _) hf (by
          show (if A f f = true then 1 else 0) < (if A n f = true then 1 else 0)
          rw [irr, if_neg (by simp), if_pos hB]; omega)
        omega
def qah (V : Nat → Int) (f o : Nat) : Bool := decide (V f < V o ∨ (V o = V f ∧ o < f))
def qrk (V : Nat → Int) (f : Nat) : Nat := qsm (fun o => if qah V f o = true then 1 else 0) 6
theorem qrk_ex {V : Nat → Int} {k : Nat} (hk : k < 6) : ∃ f, f < 6 ∧ qrk V f = k := by
  refine q_rank (A := qah V) (fun a => ?_) (fun a b c h1 h2 => ?_) (fun a b h => ?_) 6 k hk
  · simp [qah]
  · simp only [qah, decide_eq_true_eq] at h1 h2 ⊢
    omega
  · simp only [qah, decide_eq_true_eq]
    omega
theorem qrk_le {V : Nat → Int} {f : Nat} : qrk V f ≤ 6 := by
  have := qsm_le (v := fun o => if qah V f o = true then 1 else 0) (c := 1) (m := 6) (fun o _ => by show (if _ then _ else _) ≤ 1; split <;> omega)
  unfold qrk
  omega
def qrl (V : Nat → Int) (k n : Nat) : Nat := qlst (fun f => decide (qrk V f = k)) n
theorem qrl_pos {V : Nat → Int} {k : Nat} (hk : k < 6) : 0 < qrl V k 6 ∧ qrl V k 6 ≤ 6 := by
  obtain ⟨f, h1, h2⟩ := qrk_ex (V := V) hk
  have h3 := qlst_ex (P := fun f => decide (qrk V f = k)) h1 (by simp [h2])
  have h4 := (qlst_sp (P := fun f => decide (qrk V f = k)) 6).1
  unfold qrl
  omega
theorem q_cmp {a b : Int} (ha : -1413120000 ≤ a ∧ a ≤ 1413120000) (hb : -1413120000 ≤ b ∧ b ≤ 1413120000) : ((0 < lg_cmp (jL a - jL b) 0) ↔ b < a) ∧ ((lg_cmp (jL a - jL b) 0 = 0) ↔ a = b) := by
  have hT := jL_T (a := a - b) (by omega) (by omega)
  rw [jL_sub, lg_cmp_gt, lg_cmp_eq, Int64.lt_iff_toInt_lt, ← Int64.toInt_inj, hT, Int64.toInt_zero]
  omega
theorem r_ranked {W : Nat → Nat} {k : Nat} {S : St} (hw : ∀ s, s < 64 → gi S 86 s = nI (W s)) (hb : ∀ s, s < 64 → W s ≤ 184000) (hk : k < 6) : X8_ranked_30L (nI k) (nI 0, nI 0) S = some (nI (qrl (qV W (qo 1)) k 6 - 1), S) := by
  have hbd : ∀ f, f < 6 → -1413120000 ≤ qV W (qo 1) f ∧ qV W (qo 1) f ≤ 1413120000 := fun f hf => qV_bd hb hf (Nat.le_refl _)
  have hin : ∀ x2 f, f < 6 → X8_ranked_42L (nI k) x2 (nI f) (nI 0, nI 0) S = some (nI (qrk (qV W (qo 1)) f), S) := by
    intro x2 f hf
    unfold X8_ranked_42L
    refine lp_same (body := fun (a : Int32 × Int32) (S : St) => X8_ranked_42 (nI k) x2 (nI f) a.1 a.2 S) 6 (fun i => (nI (qsm (fun o => if qah (qV W (qo 1)) f o = true then 1 else 0) i), nI i)) (fun i hi => ?_) ?_
    · obtain ⟨c1, c2⟩ := q_cmp (hbd i hi) (hbd f hf)
      show X8_ranked_42 (nI k) x2 (nI f) (nI (qsm (fun o => if qah (qV W (qo 1)) f o = true then 1 else 0) i)) (nI i) S = _
      rw [qsm]
      generalize qsm (fun o => if qah (qV W (qo 1)) f o = true then 1 else 0) i = X
      have hc1 := r_contr (y := 1) hw hb hi (by omega)
      have hc2 := r_contr (y := 1) hw hb hf (by omega)
      unfold X8_ranked_42 X8_ranked_87
      have z64 : (0 : Int64) = 0 := rfl
      by_cases h1 : qV W (qo 1) f < qV W (qo 1) i
      · have d1 : ∀ (x y : Option (((Int32 × Int32) ⊕ Int32) × St)), oi (nI 0 < lg_cmp (jL (qV W (qo 1) i) - jL (qV W (qo 1) f)) 0) x y = x := fun x y => if_pos (c1.mpr h1)
        rw [if_pos (by simp [qah, h1])]
        simp (disch := omega) only [qlj, nI_add, pk_mul, qIX, qIN, qOB, qOL, qLE1, qLE0, qLT1, qLT0, qEQ1, qEQ0, qM0, qM1, qR, qN0, qMM, qNL1, qNL0, qNE1, qNE0, qB1, qB0, qOT, qOF, qGT, hc1, hc2, d1]
      · have d1 : ∀ (x y : Option (((Int32 × Int32) ⊕ Int32) × St)), oi (nI 0 < lg_cmp (jL (qV W (qo 1) i) - jL (qV W (qo 1) f)) 0) x y = y := fun x y => if_neg (fun h => h1 (c1.mp h))
        by_cases h2 : qV W (qo 1) i = qV W (qo 1) f
        · have d2 : ∀ (x y : Option (((Int32 × Int32) ⊕ Int32) × St)), oi (lg_cmp (jL (qV W (qo 1) i) - jL (qV W (qo 1) f)) 0 = nI 0) x y = x := fun x y => if_pos (c2.mpr h2)
          by_cases h3 : i < f
          · rw [if_pos (by simp only [qah, decide_eq_true_eq]; omega)]
            simp (disch := omega) only [qlj, nI_add, pk_mul, qIX, qIN, qOB, qOL, qLE1, qLE0, qLT1, qLT0, qEQ1, qEQ0, qM0, qM1, qR, qN0, qMM, qNL1, qNL0, qNE1, qNE0, qB1, qB0, qOT, qOF, qGT, hc1, hc2, d1, d2]
          · rw [if_neg (by simp only [qah, decide_eq_true_eq]; omega)]
            simp (disch := omega) only [qlj, nI_add, pk_mul, qIX, qIN, qOB, qOL, qLE1, qLE0, qLT1, qLT0, qEQ1, qEQ0, qM0, qM1, qR, qN0, qMM, qNL1, qNL0, qNE1, qNE0, qB1, qB0, qOT, qOF, qGT, hc1, hc2, d1, d2]
        · have d2 : ∀ (x y : Option (((Int32 × Int32) ⊕ Int32) × St)), oi (lg_cmp (jL (qV W (qo 1) i) - jL (qV W (qo 1) f)) 0 = nI 0) x y = y := fun x y => if_neg (fun h => h2 (c2.mp h))
          rw [if_neg (by simp only [qah, decide_eq_true_eq]; omega)]
          simp (disch := omega) only [qlj, nI_add, pk_mul, qIX, qIN, qOB, qOL, qLE1, qLE0, qLT1, qLT0, qEQ1, qEQ0, qM0, qM1, qR, qN0, qMM, qNL1, qNL0, qNE1, qNE0, qB1, qB0, qOT, qOF, qGT, hc1, hc2, d1, d2]
    · show X8_ranked_42 (nI k) x2 (nI f) _ (nI 6) S = _
      unfold X8_ranked_42
      simp (disch := omega) only [qlj, nI_add, pk_mul, qIX, qIN, qOB, qOL, qLE1, qLE0, qLT1, qLT0, qEQ1, qEQ0, qM0, qM1, qR, qN0, qMM, qNL1, qNL0, qNE1, qNE0, qB1, qB0, qOT, qOF, qGT]
      rfl
  unfold X8_ranked_30L
  refine lp_same (body := fun (a : Int32 × Int32) (S : St) => X8_ranked_30 (nI k) a.1 a.2 S) 6 (fun i => (nI (qrl (qV W (qo 1)) k i - 1), nI i)) (fun i hi => ?_) ?_
  · have hr := qrk_le (V := qV W (qo 1)) (f := i)
    show X8_ranked_30 (nI k) (nI (qrl (qV W (qo 1)) k i - 1)) (nI i) S = _
    rw [show qrl (qV W (qo 1)) k (i + 1) = if decide (qrk (qV W (qo 1)) i = k) = true then i + 1 else qrl (qV W (qo 1)) k i from rfl]
    unfold X8_ranked_30
    by_cases h : qrk (qV W (qo 1)) i = k
    · rw [if_pos (by simp [h])]
      simp (disch := omega) only [qlj, nI_add, pk_mul, qIX, qIN, qOB, qOL, qLE1, qLE0, qLT1, qLT0, qEQ1, qEQ0, qM0, qM1, qR, qN0, qMM, qNL1, qNL0, qNE1, qNE0, qB1, qB0, qOT, qOF, qGT, hin _ i hi]
      rfl
    · rw [if_neg (by simp [h])]
      simp (disch := omega) only [qlj, nI_add, pk_mul, qIX, qIN, qOB, qOL, qLE1, qLE0, qLT1, qLT0, qEQ1, qEQ0, qM0, qM1, qR, qN0, qMM, qNL1, qNL0, qNE1, qNE0, qB1, qB0, qOT, qOF, qGT, hin _ i hi]
  · show X8_ranked_30 (nI k) _ (nI 6) S = _
    unfold X8_ranked_30
    simp (disch := omega) only [qlj, nI_add, pk_mul, qIX, qIN, qOB, qOL, qLE1, qLE0, qLT1, qLT0, qEQ1, qEQ0, qM0, qM1, qR, qN0, qMM, qNL1, qNL0, qNE1, qNE0, qB1, qB0, qOT, qOF, qGT]
theorem c_ranked {W : Nat → Nat} {k : Nat} {S : St} (hw : ∀ s, s < 64 → gi S 72 s = nI (W s)) (hb : ∀ s, s < 64 → W s ≤ 184000) (hk : k < 6) : ∃ S1 S', X7_ranked_11L (nI k) (nI 0) S = some ((), S1) ∧ X7_ranked_38L (nI k) (-nI 1, nI 0) S1 = some (nI (qrl (qV W (qo 1)) k 6 - 1), S') ∧ Fr (fun a _ => a = 73) S S' := by
  have hbd : ∀ f, f < 6 → -1413120000 ≤ qV W (qo 1) f ∧ qV W (qo 1) f ≤ 1413120000 := fun f hf => qV_bd hb hf (Nat.le_refl _)
  have h11 : ∃ b S1, X7_ranked_11L (nI k) (nI 0) S = some (b, S1) ∧ ((∀ f, f < 6 → gi S1 73 f = jI (qV W (qo 1) f)) ∧ Fr (fun a _ => a = 73) S S1) := by
    unfold X7_ranked_11L
    refine lp_cnt (body := fun (a : Int32) (S : St) => X7_ranked_11 (nI k) a S) 6 (fun i a T => a = nI i ∧ (∀ f, f < i → gi T 73 f = jI (qV W (qo 1) f)) ∧ Fr (fun a _ => a = 73) S T) _ ⟨rfl, fun s hs => absurd hs (Nat.not_lt_zero _), Fr.rf⟩ ?_ ?_
    · rintro i a T hi ⟨rfl, h1, h2⟩
      have ho := c_orders (S := T) (W := W) (fun s hs => by rw [h2.1 72 s (by omega)]; exact hw s hs) hi
      show ∃ a' S', X7_ranked_11 (nI k) (nI i) T = _ ∧ _
      unfold X7_ranked_11
      simp (disch := omega) only [qlj, nI_add, pk_mul, qIX, qIN, qOB, qOL, qLE1, qLE0, qLT1, qLT0, qEQ1, qEQ0, qM0, qM1, qR, qN0, qMM, qNL1, qNL0, qNE1, qNE0, qB1, qB0, qOT, qOF, qGT, ho]
      refine ⟨_, _, rfl, rfl, fun s hs => ?_, h2.si rfl⟩
      by_cases h : s = i
      · subst h; exact qG1 rfl rfl
      · rw [qG0 (by omega)]; exact h1 s (by omega)
    · rintro a T ⟨rfl, h1, h2⟩
      refine ⟨(), T, ?_, h1, h2⟩
      show X7_ranked_11 (nI k) (nI 6) T = _
      unfold X7_ranked_11
      simp (disch := omega) only [qlj, nI_add, pk_mul, qIX, qIN, qOB, qOL, qLE1, qLE0, qLT1, qLT0, qEQ1, qEQ0, qM0, qM1, qR, qN0, qMM, qNL1, qNL0, qNE1, qNE0, qB1, qB0, qOT, qOF, qGT]
  obtain ⟨b, S1, e1, e2, e3⟩ := h11
  have hin : ∀ f, f < 6 → X7_rankByBlames (nI f) S1 = some (nI (qrk (qV W (qo 1)) f), S1) := by
    intro f hf
    have hl : X7_rankByBlames_4L (nI f) (nI 0, nI 0) S1 = some (nI (qrk (qV W (qo 1)) f), S1) := by
      unfold X7_rankByBlames_4L
      refine lp_same (body := fun (a : Int32 × Int32) (S : St) => X7_rankByBlames_4 (nI f) a.1 a.2 S) 6 (fun i => (nI (qsm (fun o => if qah (qV W (qo 1)) f o = true then 1 else 0) i), nI i)) (fun i hi => ?_) ?_
      · have t1 := jI_T (a := qV W (qo 1) i) (by have := hbd i hi; omega) (by have := hbd i hi; omega)
        have t2 := jI_T (a := qV W (qo 1) f) (by have := hbd f hf; omega) (by have := hbd f hf; omega)
        have hle : jI (qV W (qo 1) i) ≤ jI (qV W (qo 1) f) ↔ qV W (qo 1) i ≤ qV W (qo 1) f := by rw [Int32.le_iff_toInt_le, t1, t2]
        have hlt : jI (qV W (qo 1) i) < jI (qV W (qo 1) f) ↔ qV W (qo 1) i < qV W (qo 1) f := by rw [Int32.lt_iff_toInt_lt, t1, t2]
        show X7_rankByBlames_4 (nI f) (nI (qsm (fun o => if qah (qV W (qo 1)) f o = true then 1 else 0) i)) (nI i) S1 = _
        rw [qsm]
        generalize qsm (fun o => if qah (qV W (qo 1)) f o = true then 1 else 0) i = X
        unfold X7_rankByBlames_4 X7_rankByBlames_58
        have q10 : ∀ (x y : Option (((Int32 × Int32) ⊕ Int32) × St)), oi (nI 1 = nI 0) x y = y := fun x y => if_neg (by decide)
        by_cases hfi : f ≤ i
        · by_cases h : qV W (qo 1) i ≤ qV W (qo 1) f
          · have d : ∀ (x y : Option (((Int32 × Int32) ⊕ Int32) × St)), oi (jI (qV W (qo 1) i) ≤ jI (qV W (qo 1) f)) x y = x := fun x y => if_pos (hle.mpr h)
            rw [if_neg (by simp only [qah, decide_eq_true_eq]; omega)]
            simp (disch := omega) only [qlj, nI_add, pk_mul, qIX, qIN, qOB, qOL, qLE1, qLE0, qLT1, qLT0, qEQ1, qEQ0, qM0, qM1, qR, qN0, qMM, qNL1, qNL0, qNE1, qNE0, qB1, qB0, qOT, qOF, qGT, e2 i hi, e2 f hf, d]
            rfl
          · have d : ∀ (x y : Option (((Int32 × Int32) ⊕ Int32) × St)), oi (jI (qV W (qo 1) i) ≤ jI (qV W (qo 1) f)) x y = y := fun x y => if_neg (fun hh => h (hle.mp hh))
            rw [if_pos (by simp only [qah, decide_eq_true_eq]; omega)]
            simp (disch := omega) only [qlj, nI_add, pk_mul, qIX, qIN, qOB, qOL, qLE1, qLE0, qLT1, qLT0, qEQ1, qEQ0, qM0, qM1, qR, qN0, qMM, qNL1, qNL0, qNE1, qNE0, qB1, qB0, qOT, qOF, qGT, e2 i hi, e2 f hf, d, q10]
        · by_cases h : qV W (qo 1) i < qV W (qo 1) f
          · have d : ∀ (x y : Option (((Int32 × Int32) ⊕ Int32) × St)), oi (jI (qV W (qo 1) i) < jI (qV W (qo 1) f)) x y = x := fun x y => if_pos (hlt.mpr h)
            rw [if_neg (by simp only [qah, decide_eq_true_eq]; omega)]
            simp (disch := omega) only [qlj, nI_add, pk_mul, qIX, qIN, qOB, qOL, qLE1, qLE0, qLT1, qLT0, qEQ1, qEQ0, qM0, qM1, qR, qN0, qMM, qNL1, qNL0, qNE1, qNE0, qB1, qB0, qOT, qOF, qGT, e2 i hi, e2 f hf, d]
            rfl
          · have d : ∀ (x y : Option (((Int32 × Int32) ⊕ Int32) × St)), oi (jI (qV W (qo 1) i) < jI (qV W (qo 1) f)) x y = y := fun x y => if_neg (fun hh => h (hlt.mp hh))
            rw [if_pos (by simp only [qah, decide_eq_true_eq]; omega)]
            simp (disch := omega) only [qlj, nI_add, pk_mul, qIX, qIN, qOB, qOL, qLE1, qLE0, qLT1, qLT0, qEQ1, qEQ0, qM0, qM1, qR, qN0, qMM, qNL1, qNL0, qNE1, qNE0, qB1, qB0, qOT, qOF, qGT, e2 i hi, e2 f hf, d, q10]
      · show X7_rankByBlames_4 (nI f) _ (nI 6) S1 = _
        unfold X7_rankByBlames_4
        simp (disch := omega) only [qlj, nI_add, pk_mul, qIX, qIN, qOB, qOL, qLE1, qLE0, qLT1, qLT0, qEQ1, qEQ0, qM0, qM1, qR, qN0, qMM, qNL1, qNL0, qNE1, qNE0, qB1, qB0, qOT, qOF, qGT]
        rfl
    unfold X7_rankByBlames
    simp (disch := omega) only [qlj, nI_add, pk_mul, qIX, qIN, qOB, qOL, qLE1, qLE0, qLT1, qLT0, qEQ1, qEQ0, qM0, qM1, qR, qN0, qMM, qNL1, qNL0, qNE1, qNE0, qB1, qB0, qOT, qOF, qGT, hl]
  have hfin : X7_ranked_38L (nI k) (-nI 1, nI 0) S1 = some (qix (qrl (qV W (qo 1)) k 6), S1) := by
    unfold X7_ranked_38L
    refine lp_same (body := fun (a : Int32 × Int32) (S : St) => X7_ranked_38 (nI k) a.1 a.2 S) 6 (fun i => (qix (qrl (qV W (qo 1)) k i), nI i)) (fun i hi => ?_) ?_
    · have hr := qrk_le (V := qV W (qo 1)) (f := i)
      show X7_ranked_38 (nI k) (qix (qrl (qV W (qo 1)) k i)) (nI i) S1 = _
      rw [show qrl (qV W (qo 1)) k (i + 1) = if decide (qrk (qV W (qo 1)) i = k) = true then i + 1 else qrl (qV W (qo 1)) k i from rfl]
      unfold X7_ranked_38
      by_cases h : qrk (qV W (qo 1)) i = k
      · rw [if_pos (by simp [h])]
        simp (disch := omega) only [qlj, nI_add, pk_mul, qIX, qIN, qOB, qOL, qLE1, qLE0, qLT1, qLT0, qEQ1, qEQ0, qM0, qM1, qR, qN0, qMM, qNL1, qNL0, qNE1, qNE0, qB1, qB0, qOT, qOF, qGT, hin i hi]
        rw [qix, if_pos (by omega)]
        rfl
      · rw [if_neg (by simp [h])]
        simp (disch := omega) only [qlj, nI_add, pk_mul, qIX, qIN, qOB, qOL, qLE1, qLE0, qLT1, qLT0, qEQ1, qEQ0, qM0, qM1, qR, qN0, qMM, qNL1, qNL0, qNE1, qNE0, qB1, qB0, qOT, qOF, qGT, hin i hi]
    · show X7_ranked_38 (nI k) _ (nI 6) S1 = _
      unfold X7_ranked_38
      simp (disch := omega) only [qlj, nI_add, pk_mul, qIX, qIN, qOB, qOL, qLE1, qLE0, qLT1, qLT0, qEQ1, qEQ0, qM0, qM1, qR, qN0, qMM, qNL1, qNL0, qNE1, qNE0, qB1, qB0, qOT, qOF, qGT]
  have hp := qrl_pos (V := qV W (qo 1)) hk
  rw [qix, if_pos hp.1] at hfin
  exact ⟨S1, S1, e1, hfin, e3⟩
