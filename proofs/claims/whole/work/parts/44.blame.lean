/-! ===== contributions, fractions ===== -/
theorem q64 (n : Nat) : (OfNat.ofNat n : Int64) = lN n := (rfl)
def qfac : Nat → Nat
  | 0 => 1
  | n + 1 => (n + 1) * qfac n
def qord (b : Nat) : Nat := qfac b * qfac (5 - b)
theorem r_orders {b : Nat} {S : St} (hb : b ≤ 5) : X8_orders (nI b) S = some (nI (qord b), S) := by
  have h1 : X8_orders_4L (nI b) (nI 1, nI 2) S = some (nI (qfac b), S) := by
    unfold X8_orders_4L
    have h := lp_same (body := fun (a : Int32 × Int32) (S : St) => X8_orders_4 (nI b) a.1 a.2 S) (b := nI (qfac b)) (S := S) (T' := S) (b - 1) (fun i => (nI (qfac (1 + i)), nI (2 + i))) (fun i hi => ?_) ?_
    · exact h
    · show X8_orders_4 (nI b) (nI (qfac (1 + i))) (nI (2 + i)) S = _
      unfold X8_orders_4
      simp (disch := omega) only [qlj, nI_add, pk_mul, qIX, qIN, qOB, qOL, qLE1, qLE0, qLT1, qLT0, qEQ1, qEQ0, qM0, qM1, qR, qN0, qMM, qNL1, qNL0, qNE1, qNE0, qB1, qB0, qOT, qOF, qGT]
      rw [show 1 + (i + 1) = (1 + i) + 1 by omega, qfac, Nat.mul_comm, show 1 + i + 1 = 2 + i by omega, Nat.add_assoc]
    · show X8_orders_4 (nI b) (nI (qfac (1 + (b - 1)))) (nI (2 + (b - 1))) S = _
      unfold X8_orders_4
      simp (disch := omega) only [qlj, nI_add, pk_mul, qIX, qIN, qOB, qOL, qLE1, qLE0, qLT1, qLT0, qEQ1, qEQ0, qM0, qM1, qR, qN0, qMM, qNL1, qNL0, qNE1, qNE0, qB1, qB0, qOT, qOF, qGT]
      rcases Nat.eq_zero_or_pos b with h | h
      · subst h; rfl
      · rw [show 1 + (b - 1) = b by omega]
  have h2 : ∀ m, X8_orders_21L (nI b) (nI m, nI 2) S = some (nI (m * qfac (5 - b)), S) := by
    intro m
    unfold X8_orders_21L
    have h := lp_same (body := fun (a : Int32 × Int32) (S : St) => X8_orders_21 (nI b) a.1 a.2 S) (b := nI (m * qfac (5 - b))) (S := S) (T' := S) (5 - b - 1) (fun i => (nI (m * qfac (1 + i)), nI (2 + i))) (fun i hi => ?_) ?_
    · have e0 : m * qfac (1 + 0) = m := by show m * (1 * 1) = m; omega
      rw [e0] at h
      exact h
    · show X8_orders_21 (nI b) (nI (m * qfac (1 + i))) (nI (2 + i)) S = _
      unfold X8_orders_21
      simp (disch := omega) only [qlj, nI_add, pk_mul, qIX, qIN, qOB, qOL, qLE1, qLE0, qLT1, qLT0, qEQ1, qEQ0, qM0, qM1, qR, qN0, qMM, qNL1, qNL0, qNE1, qNE0, qB1, qB0, qOT, qOF, qGT, qSUB]
      rw [show 1 + (i + 1) = (1 + i) + 1 by omega, qfac, show 1 + i + 1 = 2 + i by omega, Nat.mul_assoc, Nat.mul_comm (qfac (1 + i)), Nat.add_assoc]
    · show X8_orders_21 (nI b) (nI (m * qfac (1 + (5 - b - 1)))) (nI (2 + (5 - b - 1))) S = _
      unfold X8_orders_21
      simp (disch := omega) only [qlj, nI_add, pk_mul, qIX, qIN, qOB, qOL, qLE1, qLE0, qLT1, qLT0, qEQ1, qEQ0, qM0, qM1, qR, qN0, qMM, qNL1, qNL0, qNE1, qNE0, qB1, qB0, qOT, qOF, qGT, qSUB]
      rcases Nat.eq_zero_or_pos (5 - b) with h | h
      · rw [h]; rfl
      · rw [show 1 + (5 - b - 1) = 5 - b by omega]
  unfold X8_orders
  simp (disch := omega) only [qlj, nI_add, pk_mul, qIX, qIN, qOB, qOL, qLE1, qLE0, qLT1, qLT0, qEQ1, qEQ0, qM0, qM1, qR, qN0, qMM, qNL1, qNL0, qNE1, qNE0, qB1, qB0, qOT, qOF, qGT, h1, h2]
  rfl
theorem c_ordF : ∀ b, b ≤ 5 → ordF b = nI (qord b) ∧ qord b ≤ 120 := by
  intro b hb
  have : b = 0 ∨ b = 1 ∨ b = 2 ∨ b = 3 ∨ b = 4 ∨ b = 5 := by omega
  rcases this with rfl | rfl | rfl | rfl | rfl | rfl <;> decide
theorem q_pc5 : ∀ s, s < 64 → ∀ f, f < 6 → s / 2 ^ f % 2 = 0 → qpc s ≤ 5 := by decide +kernel
theorem q_pc6 : ∀ s, s < 64 → qpc s ≤ 6 := by decide +kernel
theorem q_and0 : ∀ s, s < 64 → ∀ f, f < 6 → (s &&& 2 ^ f = 0 ↔ s / 2 ^ f % 2 = 0) := by decide +kernel
def qct (W o : Nat → Nat) (f s : Nat) : Int := if s / 2 ^ f % 2 = 0 then ((W (s ||| 2 ^ f) : Int) - W s) * o s else 0
def qV (W o : Nat → Nat) (f : Nat) : Int := qsI (qct W o f) 64
def qo (y s : Nat) : Nat := if y = 0 then 1 else qord (qpc s)
theorem qct_bd {W : Nat → Nat} {f s y : Nat} (hb : ∀ s, s < 64 → W s ≤ 184000) (hf : f < 6) (hs : s < 64) : -22080000 ≤ qct W (qo y) f s ∧ qct W (qo y) f s ≤ 22080000 := by
  unfold qct
  split
  · rename_i h
    have h1 := hb s hs
    have h2 := hb (s ||| 2 ^ f) (q_or64 hs hf)
    have h3 : qo y s ≤ 120 := by
      unfold qo
      split
      · omega
      · exact (c_ordF _ (q_pc5 s hs f hf h)).2
    have h4 : -(184000 : Int) ≤ (W (s ||| 2 ^ f) : Int) - W s ∧ (W (s ||| 2 ^ f) : Int) - W s ≤ 184000 := by omega
    generalize (W (s ||| 2 ^ f) : Int) - W s = D at h4
    have h5 : (0 : Int) ≤ qo y s ∧ (qo y s : Int) ≤ 120 := by omega
    generalize (qo y s : Int) = O at h5
    have h6 : D * O ≤ 184000 * O := Int.mul_le_mul_of_nonneg_right h4.2 h5.1
    have h7 : (-184000) * O ≤ D * O := Int.mul_le_mul_of_nonneg_right h4.1 h5.1
    omega
  · omega
theorem qV_bd {W : Nat → Nat} {f y i : Nat} (hb : ∀ s, s < 64 → W s ≤ 184000) (hf : f < 6) (hi : i ≤ 64) : -1413120000 ≤ qsI (qct W (qo y) f) i ∧ qsI (qct W (qo y) f) i ≤ 1413120000 := by
  have := qsI_bd (v := qct W (qo y) f) (c := 22080000) (m := i) (fun k hk => qct_bd hb hf (by omega))
  omega
theorem q_dW {a b : Nat} (ha : a ≤ 184000) (hb : b ≤ 184000) : (nI a - nI b).toInt64 = jL ((a : Int) - b) := by
  rw [jI_n, jI_n, jI_sub, jI_l (by omega) (by omega)]
theorem r_contr {W : Nat → Nat} {f y : Nat} {S : St} (hw : ∀ s, s < 64 → gi S 86 s = nI (W s)) (hb : ∀ s, s < 64 → W s ≤ 184000) (hf : f < 6) (hy : y ≤ 1) : X8_contributions (nI f) (nI y) S = some (jL (qV W (qo y) f), S) := by
  have hl : X8_contributions_5L (nI f) (nI y) (jL 0, nI 0) S = some (jL (qV W (qo y) f), S) := by
    unfold X8_contributions_5L
    refine lp_same (body := fun (a : Int64 × Int32) (S : St) => X8_contributions_5 (nI f) (nI y) a.1 a.2 S) 64 (fun i => (jL (qsI (qct W (qo y) f) i), nI i)) (fun i hi => ?_) ?_
    · have h64 := q_or64 hi hf
      have hp64 := q_p64 hf
      have hm := Nat.mod_lt (i / 2 ^ f) (show 0 < 2 by omega)
      show X8_contributions_5 (nI f) (nI y) (jL (qsI (qct W (qo y) f) i)) (nI i) S = _
      rw [qsI]
      unfold X8_contributions_5 X8_contributions_58
      by_cases h : i / 2 ^ f % 2 = 0
      · have h5 := q_pc5 i hi f hf h
        have ho := c_ordF _ h5
        have hq : qct W (qo y) f i = ((W (i ||| 2 ^ f) : Int) - W i) * qo y i := if_pos h
        have hd := q_dW (hb _ h64) (hb _ hi)
        rw [hq]
        by_cases h0 : y = 0
        · have e1 : qo y i = 1 := if_pos h0
          have e2 : (nI 1).toInt64 = jL 1 := jI_l (a := 1) (by omega) (by omega)
          rw [e1]
          simp (disch := omega) only [qlj, nI_add, pk_mul, qIX, qIN, qOB, qOL, qLE1, qLE0, qLT1, qLT0, qEQ1, qEQ0, qM0, qM1, qR, qN0, qMM, qNL1, qNL0, qNE1, qNE0, qB1, qB0, qOT, qOF, qGT, q_bit hi hf, h, q_shl hf, q_or, hw _ h64, hw _ hi, hd, e2, jL_mul, jL_add]
          rfl
        · have e1 : qo y i = qord (qpc i) := if_neg h0
          have e2 : (nI (qord (qpc i))).toInt64 = jL (qord (qpc i)) := by rw [jI_n]; exact jI_l (by omega) (by omega)
          rw [e1]
          simp (disch := omega) only [qlj, nI_add, pk_mul, qIX, qIN, qOB, qOL, qLE1, qLE0, qLT1, qLT0, qEQ1, qEQ0, qM0, qM1, qR, qN0, qMM, qNL1, qNL0, qNE1, qNE0, qB1, qB0, qOT, qOF, qGT, q_bit hi hf, h, q_shl hf, q_or, hw _ h64, hw _ hi, hd, r_size hi, r_orders h5, e2, jL_mul, jL_add]
      · have hq : qct W (qo y) f i = 0 := if_neg h
        rw [hq, Int.add_zero]
        simp (disch := omega) only [qlj, nI_add, pk_mul, qIX, qIN, qOB, qOL, qLE1, qLE0, qLT1, qLT0, qEQ1, qEQ0, qM0, qM1, qR, qN0, qMM, qNL1, qNL0, qNE1, qNE0, qB1, qB0, qOT, qOF, qGT, q_bit hi hf]
    · show X8_contributions_5 (nI f) (nI y) _ (nI 64) S = _
      unfold X8_contributions_5
      simp (disch := omega) only [qlj, nI_add, pk_mul, qIX, qIN, qOB, qOL, qLE1, qLE0, qLT1, qLT0, qEQ1, qEQ0, qM0, qM1, qR, qN0, qMM, qNL1, qNL0, qNE1, qNE0, qB1, qB0, qOT, qOF, qGT]
      rfl
  unfold X8_contributions
  have e0 : (0 : Int64) = jL 0 := rfl
  rw [e0]
  simp (disch := omega) only [qlj, nI_add, pk_mul, qIX, qIN, qOB, qOL, qLE1, qLE0, qLT1, qLT0, qEQ1, qEQ0, qM0, qM1, qR, qN0, qMM, qNL1, qNL0, qNE1, qNE0, qB1, qB0, qOT, qOF, qGT, hl]
theorem c_ctTo {W : Nat → Nat} {f s : Nat} {S : St} (hw : ∀ s, s < 64 → gi S 72 s = nI (W s)) (hf : f < 6) (hs : s < 64) : X7_contributionTo (nI s) (nI f) S = some (jI ((W (s ||| 2 ^ f) : Int) - W s), S) := by
  have h64 := q_or64 hs hf
  have hp64 := q_p64 hf
  unfold X7_contributionTo
  simp (disch := omega) only [qlj, nI_add, pk_mul, qIX, qIN, qOB, qOL, qLE1, qLE0, qLT1, qLT0, qEQ1, qEQ0, qM0, qM1, qR, qN0, qMM, qNL1, qNL0, qNE1, qNE0, qB1, qB0, qOT, qOF, qGT, q_shl hf, q_or, hw _ h64, hw _ hs]
  rw [jI_n, jI_n, jI_sub]
theorem c_orders {W : Nat → Nat} {f : Nat} {S : St} (hw : ∀ s, s < 64 → gi S 72 s = nI (W s)) (hf : f < 6) : X7_sumOverOrders (nI f) S = some (jI (qV W (qo 1) f), S) := by
  have hl : X7_sumOverOrders_4L (nI f) (jI 0, nI 0) S = some (jI (qV W (qo 1) f), S) := by
    unfold X7_sumOverOrders_4L
    refine lp_same (body := fun (a : Int32 × Int32) (S : St) => X7_sumOverOrders_4 (nI f) a.1 a.2 S) 64 (fun i => (jI (qsI (qct W (qo 1) f) i), nI i)) (fun i hi => ?_) ?_
    · have hm := Nat.mod_lt (i / 2 ^ f) (show 0 < 2 by omega)
      show X7_sumOverOrders_4 (nI f) (jI (qsI (qct W (qo 1) f) i)) (nI i) S = _
      rw [qsI]
      unfold X7_sumOverOrders_4
      by_cases h : i / 2 ^ f % 2 = 0
      · have h5 := q_pc5 i hi f hf h
        have ho := c_ordF _ h5
        have hq : qct W (qo 1) f i = ((W (i ||| 2 ^ f) : Int) - W i) * qord (qpc i) := if_pos h
        rw [hq]
        simp (disch := omega) only [qlj, nI_add, pk_mul, qIX, qIN, qOB, qOL, qLE1, qLE0, qLT1, qLT0, qEQ1, qEQ0, qM0, qM1, qR, qN0, qMM, qNL1, qNL0, qNE1, qNE0, qB1, qB0, qOT, qOF, qGT, c_contains hi hf, h, c_bitCount hi, c_ctTo hw hf hi, ho.1]
        rw [jI_n (qord (qpc i)), jI_mul, jI_add, Int.mul_comm]
      · have hq : qct W (qo 1) f i = 0 := if_neg h
        rw [hq, Int.add_zero]
        simp (disch := omega) only [qlj, nI_add, pk_mul, qIX, qIN, qOB, qOL, qLE1, qLE0, qLT1, qLT0, qEQ1, qEQ0, qM0, qM1, qR, qN0, qMM, qNL1, qNL0, qNE1, qNE0, qB1, qB0, qOT, qOF, qGT, c_contains hi hf]
    · show X7_sumOverOrders_4 (nI f) _ (nI 64) S = _
      unfold X7_sumOverOrders_4
      simp (disch := omega) only [qlj, nI_add, pk_mul, qIX, qIN, qOB, qOL, qLE1, qLE0, qLT1, qLT0, qEQ1, qEQ0, qM0, qM1, qR, qN0, qMM, qNL1, qNL0, qNE1, qNE0, qB1, qB0, qOT, qOF, qGT]
      rfl
  unfold X7_sumOverOrders
  simp (disch := omega) only [qlj, nI_add, pk_mul, qIX, qIN, qOB, qOL, qLE1, qLE0, qLT1, qLT0, qEQ1, qEQ0, qM0, qM1, qR, qN0, qMM, qNL1, qNL0, qNE1, qNE0, qB1, qB0, qOT, qOF, qGT, show ((nI 0, nI 0) : Int32 × Int32) = (jI 0, nI 0) from rfl, hl]
theorem c_sets {W : Nat → Nat} {f : Nat} {S : St} (hw : ∀ s, s < 64 → gi S 72 s = nI (W s)) (hf : f < 6) : X7_sumOverSets (nI f) S = some (jI (qV W (qo 0) f), S) := by
  have hl : X7_sumOverSets_4L (nI f) (jI 0, nI 0) S = some (jI (qV W (qo 0) f), S) := by
    unfold X7_sumOverSets_4L
    refine lp_same (body := fun (a : Int32 × Int32) (S : St) => X7_sumOverSets_4 (nI f) a.1 a.2 S) 64 (fun i => (jI (qsI (qct W (qo 0) f) i), nI i)) (fun i hi => ?_) ?_
    · have hm := Nat.mod_lt (i / 2 ^ f) (show 0 < 2 by omega)
      show X7_sumOverSets_4 (nI f) (jI (qsI (qct W (qo 0) f) i)) (nI i) S = _
      rw [qsI]
      unfold X7_sumOverSets_4
      by_cases h : i / 2 ^ f % 2 = 0
      · have hq : qct W (qo 0) f i = ((W (i ||| 2 ^ f) : Int) - W i) * 1 := if_pos h
        rw [hq, Int.mul_one]
        simp (disch := omega) only [qlj, nI_add, pk_mul, qIX, qIN, qOB, qOL, qLE1, qLE0, qLT1, qLT0, qEQ1, qEQ0, qM0, qM1, qR, qN0, qMM, qNL1, qNL0, qNE1, qNE0, qB1, qB0, qOT, qOF, qGT, c_contains hi hf, h, c_ctTo hw hf hi]
        rw [jI_add]
      · have hq : qct W (qo 0) f i = 0 := if_neg h
        rw [hq, Int.add_zero]
        simp (disch := omega) only [qlj, nI_add, pk_mul, qIX, qIN, qOB, qOL, qLE1, qLE0, qLT1, qLT0, qEQ1, qEQ0, qM0, qM1, qR, qN0, qMM, qNL1, qNL0, qNE1, qNE0, qB1, qB0, qOT, qOF, qGT, c_contains hi hf]
    · show X7_sumOverSets_4 (nI f) _ (nI 64) S = _
      unfold X7_sumOverSets_4
      simp (disch := omega) only [qlj, nI_add, pk_mul, qIX, qIN, qOB, qOL, qLE1, qLE0, qLT1, qLT0, qEQ1, qEQ0, qM0, qM1, qR, qN0, qMM, qNL1, qNL0, qNE1, qNE0, qB1, qB0, qOT, qOF, qGT]
      rfl
  unfold X7_sumOverSets
  simp (disch := omega) only [qlj, nI_add, pk_mul, qIX, qIN, qOB, qOL, qLE1, qLE0, qLT1, qLT0, qEQ1, qEQ0, qM0, qM1, qR, qN0, qMM, qNL1, qNL0, qNE1, qNE0, qB1, qB0, qOT, qOF, qGT, show ((nI 0, nI 0) : Int32 × Int32) = (jI 0, nI 0) from rfl, hl]
def qu (W : Nat → Nat) (a b s : Nat) : Int := if s / 2 ^ a % 2 = 0 ∧ s / 2 ^ b % 2 = 0 then (W (s ||| 2 ^ a ||| 2 ^ b) : Int) - W (s ||| 2 ^ a) - W (s ||| 2 ^ b) + W s else 0
def qU (W : Nat → Nat) (a b : Nat) : Int := qsI (qu W a b) 64
theorem qU_bd {W : Nat → Nat} {a b : Nat} (hb : ∀ s, s < 64 → W s ≤ 184000) (ha : a < 6) (hb6 : b < 6) : -1413120000 ≤ qU W a b ∧ qU W a b ≤ 1413120000 := by
  have := qsI_bd (v := qu W a b) (c := 400000) (m := 64) (fun k hk => by
    unfold qu
    split
    · have h1 := hb k hk
      have h2 := hb (k ||| 2 ^ a) (q_or64 hk ha)
      have h3 := hb (k ||| 2 ^ b) (q_or64 hk hb6)
      have h4 := hb (k ||| 2 ^ a ||| 2 ^ b) (q_or64 (q_or64 hk ha) hb6)
      omega
    · omega)
  unfold qU
  omega
theorem r_inter {W : Nat → Nat} {a b : Nat} {x3 : Int32} {S : St} (hw : ∀ s, s < 64 → gi S 86 s = nI (W s)) (hb : ∀ s, s < 64 → W s ≤ 184000) (ha : a < 6) (hb6 : b < 6) : X8_interaction_67L x3 (nI (2 ^ a)) (nI (2 ^ b)) (jL 0, nI 0) S = some (jL (qU W a b), S) := by
  unfold X8_interaction_67L
  refine lp_same (body := fun (y : Int64 × Int32) (S : St) => X8_interaction_67 x3 (nI (2 ^ a)) (nI (2 ^ b)) y.1 y.2 S) 64 (fun i => (jL (qsI (qu W a b) i), nI i)) (fun i hi => ?_) ?_
  · have ha64 := q_p64 ha
    have hb64 := q_p64 hb6
    have h1 := q_or64 hi ha
    have h2 := q_or64 hi hb6
    have h3 := q_or64 h1 hb6
    have w0 := hb i hi
    have w1 := hb _ h1
    have w2 := hb _ h2
    have w3 := hb _ h3
    have c1 := q_and0 i hi a ha
    have c2 := q_and0 i hi b hb6
    have d1 : i &&& 2 ^ a ≤ i := Nat.and_le_left
    have d2 : i &&& 2 ^ b ≤ i := Nat.and_le_left
    show X8_interaction_67 x3 (nI (2 ^ a)) (nI (2 ^ b)) (jL (qsI (qu W a b) i)) (nI i) S = _
    rw [qsI]
    unfold X8_interaction_67
    by_cases h : i / 2 ^ a % 2 = 0 ∧ i / 2 ^ b % 2 = 0
    · have hq : qu W a b i = (W (i ||| 2 ^ a ||| 2 ^ b) : Int) - W (i ||| 2 ^ a) - W (i ||| 2 ^ b) + W i := if_pos h
      have e1 := c1.mpr h.1
      have e2 := c2.mpr h.2
      have ht : (nI (W (i ||| 2 ^ a ||| 2 ^ b)) - nI (W (i ||| 2 ^ a)) - nI (W (i ||| 2 ^ b)) + nI (W i)).toInt64 = jL ((W (i ||| 2 ^ a ||| 2 ^ b) : Int) - W (i ||| 2 ^ a) - W (i ||| 2 ^ b) + W i) := by
        rw [jI_n, jI_n, jI_n, jI_n, jI_sub, jI_sub, jI_add, jI_l (by omega) (by omega)]
      rw [hq]
      simp (disch := omega) only [qlj, nI_add, pk_mul, qIX, qIN, qOB, qOL, qLE1, qLE0, qLT1, qLT0, qEQ1, qEQ0, qM0, qM1, qR, qN0, qMM, qNL1, qNL0, qNE1, qNE0, qB1, qB0, qOT, qOF, qGT, q_and, e1, e2, q_or, hw _ h1, hw _ h2, hw _ h3, hw _ hi, ht, jL_add]
    · have hq : qu W a b i = 0 := if_neg h
      rw [hq, Int.add_zero]
      by_cases h4 : i / 2 ^ a % 2 = 0
      · have e1 := c1.mpr h4
        have e2 : i &&& 2 ^ b ≠ 0 := fun e => h ⟨h4, c2.mp e⟩
        simp (disch := omega) only [qlj, nI_add, pk_mul, qIX, qIN, qOB, qOL, qLE1, qLE0, qLT1, qLT0, qEQ1, qEQ0, qM0, qM1, qR, qN0, qMM, qNL1, qNL0, qNE1, qNE0, qB1, qB0, qOT, qOF, qGT, q_and, e1]
      · have e1 : i &&& 2 ^ a ≠ 0 := fun e => h4 (c1.mp e)
        simp (disch := omega) only [qlj, nI_add, pk_mul, qIX, qIN, qOB, qOL, qLE1, qLE0, qLT1, qLT0, qEQ1, qEQ0, qM0, qM1, qR, qN0, qMM, qNL1, qNL0, qNE1, qNE0, qB1, qB0, qOT, qOF, qGT, q_and]
  · show X8_interaction_67 x3 (nI (2 ^ a)) (nI (2 ^ b)) _ (nI 64) S = _
    unfold X8_interaction_67
    simp (disch := omega) only [qlj, nI_add, pk_mul, qIX, qIN, qOB, qOL, qLE1, qLE0, qLT1, qLT0, qEQ1, qEQ0, qM0, qM1, qR, qN0, qMM, qNL1, qNL0, qNE1, qNE0, qB1, qB0, qOT, qOF, qGT]
    rfl
theorem c_inter {W : Nat → Nat} {a b : Nat} {S : St} (hw : ∀ s, s < 64 → gi S 72 s = nI (W s)) (ha : a < 6) (hb6 : b < 6) : X7_sumOfInteractions (nI a) (nI b) S = some (jI (qU W a b), S) := by
  have hl : X7_sumOfInteractions_5L (nI a) (nI b) (jI 0, nI 0) S = some (jI (qU W a b), S) := by
    unfold X7_sumOfInteractions_5L
    refine lp_same (body := fun (y : Int32 × Int32) (S : St) => X7_sumOfInteractions_5 (nI a) (nI b) y.1 y.2 S) 64 (fun i => (jI (qsI (qu W a b) i), nI i)) (fun i hi => ?_) ?_
    · have hb64 := q_p64 hb6
      have h2 := q_or64 hi hb6
      have m1 := Nat.mod_lt (i / 2 ^ a) (show 0 < 2 by omega)
      have m2 := Nat.mod_lt (i / 2 ^ b) (show 0 < 2 by omega)
      show X7_sumOfInteractions_5 (nI a) (nI b) (jI (qsI (qu W a b) i)) (nI i) S = _
      rw [qsI]
      unfold X7_sumOfInteractions_5
      by_cases h4 : i / 2 ^ a % 2 = 0
      · by_cases h5 : i / 2 ^ b % 2 = 0
        · have hq : qu W a b i = (W (i ||| 2 ^ a ||| 2 ^ b) : Int) - W (i ||| 2 ^ a) - W (i ||| 2 ^ b) + W i := if_pos ⟨h4, h5⟩
          rw [hq]
          simp (disch := omega) only [qlj, nI_add, pk_mul, qIX, qIN, qOB, qOL, qLE1, qLE0, qLT1, qLT0, qEQ1, qEQ0, qM0, qM1, qR, qN0, qMM, qNL1, qNL0, qNE1, qNE0, qB1, qB0, qOT, qOF, qGT, c_contains hi ha, c_contains hi hb6, h4, h5, q_shl hb6, q_or, c_ctTo hw ha h2, c_ctTo hw ha hi]
          rw [jI_sub, jI_add, show i ||| 2 ^ b ||| 2 ^ a = i ||| 2 ^ a ||| 2 ^ b by rw [Nat.or_assoc, Nat.or_assoc, Nat.or_comm (2 ^ b)]]
          have : (W (i ||| 2 ^ a ||| 2 ^ b) : Int) - W (i ||| 2 ^ b) - ((W (i ||| 2 ^ a) : Int) - W i) = (W (i ||| 2 ^ a ||| 2 ^ b) : Int) - W (i ||| 2 ^ a) - W (i ||| 2 ^ b) + W i := by omega
          rw [this]
        · have hq : qu W a b i = 0 := if_neg (fun h => h5 h.2)
          rw [hq, Int.add_zero]
          simp (disch := omega) only [qlj, nI_add, pk_mul, qIX, qIN, qOB, qOL, qLE1, qLE0, qLT1, qLT0, qEQ1, qEQ0, qM0, qM1, qR, qN0, qMM, qNL1, qNL0, qNE1, qNE0, qB1, qB0, qOT, qOF, qGT, c_contains hi ha, c_contains hi hb6, h4]
      · have hq : qu W a b i = 0 := if_neg (fun h => h4 h.1)
        rw [hq, Int.add_zero]
        simp (disch := omega) only [qlj, nI_add, pk_mul, qIX, qIN, qOB, qOL, qLE1, qLE0, qLT1, qLT0, qEQ1, qEQ0, qM0, qM1, qR, qN0, qMM, qNL1, qNL0, qNE1, qNE0, qB1, qB0, qOT, qOF, qGT, c_contains hi ha]
    · show X7_sumOfInteractions_5 (nI a) (nI b) _ (nI 64) S = _
      unfold X7_sumOfInteractions_5
      simp (disch := omega) only [qlj, nI_add, pk_mul, qIX, qIN, qOB, qOL, qLE1, qLE0, qLT1, qLT0, qEQ1, qEQ0, qM0, qM1, qR, qN0, qMM, qNL1, qNL0, qNE1, qNE0, qB1, qB0, qOT, qOF, qGT]
      rfl
  unfold X7_sumOfInteractions
  simp (disch := omega) only [qlj, nI_add, pk_mul, qIX, qIN, qOB, qOL, qLE1, qLE0, qLT1, qLT0, qEQ1, qEQ0, qM0, qM1, qR, qN0, qMM, qNL1, qNL0, qNE1, qNE0, qB1, qB0, qOT, qOF, qGT, show ((nI 0, nI 0) : Int32 × Int32) = (jI 0, nI 0) from rfl, hl]
/-! ===== fractions ===== -/
theorem r_gcd {x0 x2 : Int64} {x4 : Int32} {S : St} : ∀ (a b : Nat), a < 2147483648 → b < 2147483648 → X8_partOf_17L x0 x2 x4 (lN a, lN b) S = some (lN (Nat.gcd a b), S) := by
  intro a
  induction a using Nat.strongRecOn with
  | ind a ih =>
    intro b ha hb
    unfold X8_partOf_17L
    by_cases h : a = 0
    · subst h
      refine lp_end ?_
      show X8_partOf_17 x0 x2 x4 (lN 0) (lN b) S = _
      unfold X8_partOf_17
      rw [Nat.gcd_zero_left]
      exact if_pos ((lg_cmp_eq _ _).mpr rfl)
    · have hlt := Nat.mod_lt b (show 0 < a by omega)
      have h0 : ¬ lN a = lN 0 := fun e => h ((pk_lEQ (show a < 2 ^ 63 by omega) (show 0 < 2 ^ 63 by omega)).mp e)
      have hgo := ih (b % a) hlt a (by omega) ha
      rw [Nat.gcd_rec]
      refine lp_go ?_ hgo
      show X8_partOf_17 x0 x2 x4 (lN a) (lN b) S = _
      unfold X8_partOf_17
      have h1 : ¬ lg_cmp (lN a) (0 : Int64) = 0 := fun e => h0 ((lg_cmp_eq _ _).mp e)
      rw [show ∀ (x y : Option (((Int64 × Int64) ⊕ Int64) × St)), oi (lg_cmp (lN a) (0 : Int64) = 0) x y = y from fun x y => if_neg h1, qOG (show ¬ lN a = 0 from h0), pk_lRem (show b < 2 ^ 63 by omega) (by omega) (show a < 2 ^ 63 by omega)]
theorem q_ldiv {V : Int} {g : Nat} (h1 : -1413120000 ≤ V) (h2 : V ≤ 1413120000) (hg : g ≤ 1000) : jL V / lN g = jL (V.tdiv g) := by
  rw [jL_n]
  exact (Int64.ofInt_tdiv (a := V) (b := (g : Int)) (by rw [Int64.toInt_minValue]; omega) (by rw [Int64.toInt_maxValue]; omega) (by rw [Int64.toInt_minValue]; omega) (by rw [Int64.toInt_maxValue]; omega)).symm
theorem q_idiv {V : Int} {g : Nat} (h1 : -1413120000 ≤ V) (h2 : V ≤ 1413120000) (hg : g ≤ 1000) : jI V / nI g = jI (V.tdiv g) := by
  rw [jI_n]
  exact (Int32.ofInt_tdiv (a := V) (b := (g : Int)) (by rw [Int32.toInt_minValue]; omega) (by rw [Int32.toInt_maxValue]; omega) (by rw [Int32.toInt_minValue]; omega) (by rw [Int32.toInt_maxValue]; omega)).symm
def qpt (V : Int) (d y : Nat) : Int32 := if y = 0 then jI (V.tdiv (Nat.gcd V.natAbs d)) else nI (d / Nat.gcd V.natAbs d)
theorem q_gcd {V : Int} {d : Nat} (hd : 1 ≤ d) : 1 ≤ Nat.gcd V.natAbs d ∧ Nat.gcd V.natAbs d ≤ d := ⟨Nat.gcd_pos_of_pos_right _ hd, Nat.gcd_le_right _ hd⟩
theorem r_part {V : Int} {d y : Nat} {S : St} (h1 : -1413120000 ≤ V) (h2 : V ≤ 1413120000) (hd : 1 ≤ d) (hd2 : d ≤ 720) (hy : y ≤ 1) : X8_partOf (jL V) (lN d) (nI y) S = some (qpt V d y, S) := by
  obtain ⟨g1, g2⟩ := q_gcd (V := V) hd
  have h12 : ∀ a : Nat, a = V.natAbs → X8_partOf_12 (jL V) (lN d) (nI y) (lN a) S = some (qpt V d y, S) := by
    intro a ha
    unfold X8_partOf_12
    rw [r_gcd a d (by omega) (by omega), qOB, ha]
    have hne : ¬ lN (Nat.gcd V.natAbs d) = 0 := fun e => by
      have := (pk_lEQ (show Nat.gcd V.natAbs d < 2 ^ 63 by omega) (show 0 < 2 ^ 63 by omega)).mp e
      omega
    rw [qOG hne, qOG hne]
    unfold qpt
    by_cases h0 : y = 0
    · rw [if_pos h0]
      simp (disch := omega) only [qlj, nI_add, pk_mul, qIX, qIN, qOB, qOL, qLE1, qLE0, qLT1, qLT0, qEQ1, qEQ0, qM0, qM1, qR, qN0, qMM, qNL1, qNL0, qNE1, qNE0, qB1, qB0, qOT, qOF, qGT]
      rw [q_ldiv h1 h2 (by omega), jL_i]
    · rw [if_neg h0]
      simp (disch := omega) only [qlj, nI_add, pk_mul, qIX, qIN, qOB, qOL, qLE1, qLE0, qLT1, qLT0, qEQ1, qEQ0, qM0, qM1, qR, qN0, qMM, qNL1, qNL0, qNE1, qNE0, qB1, qB0, qOT, qOF, qGT]
      rw [pk_lDiv (show d < 2 ^ 63 by omega) (by omega) (show Nat.gcd V.natAbs d < 2 ^ 63 by omega), lN_i]
  have hT := jL_T (a := V) (by omega) (by omega)
  unfold X8_partOf
  have hc : (0 ≤ lg_cmp (jL V) 0) ↔ 0 ≤ V := by
    rw [lg_cmp_ge, Int64.le_iff_toInt_le, hT, Int64.toInt_zero]
  by_cases h0 : 0 ≤ V
  · rw [show ∀ (x z : Option (Int32 × St)), oi (0 ≤ lg_cmp (jL V) (0 : Int64)) x z = x from fun x z => if_pos (hc.mpr h0)]
    have := h12 V.natAbs rfl
    rw [jL_n V.natAbs, show ((V.natAbs : Nat) : Int) = V by omega] at this
    exact this
  · rw [show ∀ (x z : Option (Int32 × St)), oi (0 ≤ lg_cmp (jL V) (0 : Int64)) x z = z from fun x z => if_neg (fun h => h0 (hc.mp h))]
    have := h12 V.natAbs rfl
    rw [jL_n V.natAbs, show ((V.natAbs : Nat) : Int) = -V by omega] at this
    rw [show -jL V = jL (-V) from (Int64.ofInt_neg V).symm]
    exact this
theorem c_gcd {S : St} : ∀ (n g l i : Nat), l < 2 ^ n → i + 2 * n ≤ 63 → g < 2147483648 → l < 2147483648 → X7_commonDivisor_7L (nI g, nI l, nI i) S = some (nI (Nat.gcd g l), S) := by
  have stop : ∀ (g i : Nat), i ≤ 64 → X7_commonDivisor_7L (nI g, nI 0, nI i) S = some (nI g, S) := by
    intro g i hi
    unfold X7_commonDivisor_7L
    refine lp_end ?_
    show X7_commonDivisor_7 (nI g) (nI 0) (nI i) S = _
    unfold X7_commonDivisor_7
    by_cases h : 64 ≤ i
    · simp (disch := omega) only [qlj, nI_add, pk_mul, qIX, qIN, qOB, qOL, qLE1, qLE0, qLT1, qLT0, qEQ1, qEQ0, qM0, qM1, qR, qN0, qMM, qNL1, qNL0, qNE1, qNE0, qB1, qB0, qOT, qOF, qGT]
    · simp (disch := omega) only [qlj, nI_add, pk_mul, qIX, qIN, qOB, qOL, qLE1, qLE0, qLT1, qLT0, qEQ1, qEQ0, qM0, qM1, qR, qN0, qMM, qNL1, qNL0, qNE1, qNE0, qB1, qB0, qOT, qOF, qGT]
  have step : ∀ (g l i : Nat) (r : Int32 × St), 0 < l → i < 64 → g < 2147483648 → l < 2147483648 → X7_commonDivisor_7L (nI l, nI (g % l), nI (i + 1)) S = some r → X7_commonDivisor_7L (nI g, nI l, nI i) S = some r := by
    intro g l i r hl hi hg hl2 h
    unfold X7_commonDivisor_7L at h ⊢
    refine lp_go ?_ h
    show X7_commonDivisor_7 (nI g) (nI l) (nI i) S = _
    unfold X7_commonDivisor_7
    simp (disch := omega) only [qlj, nI_add, pk_mul, qIX, qIN, qOB, qOL, qLE1, qLE0, qLT1, qLT0, qEQ1, qEQ0, qM0, qM1, qR, qN0, qMM, qNL1, qNL0, qNE1, qNE0, qB1, qB0, qOT, qOF, qGT, qNZ, pk_rem]
  intro n
  induction n with
  | zero =>
    intro g l i hl hi hg hl2
    have : l = 0 := by
      rw [Nat.pow_zero] at hl; omega
    subst this
    rw [Nat.gcd_zero_right]
    exact stop g i (by omega)
  | succ n ih =>
    intro g l i hl hi hg hl2
    rcases Nat.eq_zero_or_pos l with h | h
    · subst h
      rw [Nat.gcd_zero_right]
      exact stop g i (by omega)
    · have m1 := Nat.mod_lt g h
      refine step g l i _ h (by omega) hg hl2 ?_
      rcases Nat.eq_zero_or_pos (g % l) with h3 | h3
      · have e1 : Nat.gcd g l = l := by rw [Nat.gcd_comm, Nat.gcd_rec, h3, Nat.gcd_zero_left]
        rw [h3, e1]
        exact stop l (i + 1) (by omega)
      · have m2 := Nat.mod_lt l h3
        refine step l (g % l) (i + 1) _ h3 (by omega) hl2 (by omega) ?_
        have e1 : Nat.gcd g l = Nat.gcd (g % l) (l % (g % l)) := by
          rw [Nat.gcd_comm, Nat.gcd_rec, Nat.gcd_rec, Nat.gcd_comm]
        rw [e1]
        have hh : 2 * (l % (g % l)) < l := by
          rcases Nat.lt_or_ge l (2 * (g % l)) with h4 | h4
          · have := Nat.mod_eq_sub_mod (a := l) (b := g % l) (by omega)
            rw [Nat.mod_eq_of_lt (show l - g % l < g % l by omega)] at this
            omega
          · omega
        rw [Nat.pow_succ] at hl
        exact ih (g % l) (l % (g % l)) (i + 1 + 1) (by omega) (by omega) (by omega) (by omega)
theorem c_part {V : Int} {d y : Nat} {S : St} (h1 : -1413120000 ≤ V) (h2 : V ≤ 1413120000) (hd : 1 ≤ d) (hd2 : d ≤ 720) (hy : y ≤ 1) : X7_partOfFraction (jI V) (nI d) (nI y) S = some (qpt V d y, S) := by
  obtain ⟨g1, g2⟩ := q_gcd (V := V) hd
  have hT := jI_T (a := V) (by omega) (by omega)
  have habs : (if 0 ≤ jI V then jI V else 0 - jI V) = nI V.natAbs := by
    by_cases h : 0 ≤ V
    · rw [if_pos (by rw [Int32.le_iff_toInt_le, hT, Int32.toInt_zero]; exact h), jI_n, show ((V.natAbs : Nat) : Int) = V by omega]
    · rw [if_neg (by rw [Int32.le_iff_toInt_le, hT, Int32.toInt_zero]; exact h), jI_n, show ((V.natAbs : Nat) : Int) = 0 - V by omega]
      exact jI_sub (a := 0)
  have hg : X7_commonDivisor (nI V.natAbs) (nI d) S = some (nI (Nat.gcd V.natAbs d), S) := by
    unfold X7_commonDivisor
    simp (disch := omega) only [qlj, nI_add, pk_mul, qIX, qIN, qOB, qOL, qLE1, qLE0, qLT1, qLT0, qEQ1, qEQ0, qM0, qM1, qR, qN0, qMM, qNL1, qNL0, qNE1, qNE0, qB1, qB0, qOT, qOF, qGT, c_gcd 10 V.natAbs d 0 (show d < 2 ^ 10 by omega) (by omega) (by omega) (by omega)]
  unfold X7_partOfFraction X7_partOfFraction_18
  rw [habs, hg, qOB]
  unfold qpt
  by_cases h0 : y = 0
  · rw [if_pos h0]
    have hq : X7_quotient (jI V) (nI (Nat.gcd V.natAbs d)) S = some (jI (V.tdiv (Nat.gcd V.natAbs d)), S) := by
      unfold X7_quotient
      simp (disch := omega) only [qlj, nI_add, pk_mul, qIX, qIN, qOB, qOL, qLE1, qLE0, qLT1, qLT0, qEQ1, qEQ0, qM0, qM1, qR, qN0, qMM, qNL1, qNL0, qNE1, qNE0, qB1, qB0, qOT, qOF, qGT, qNZ]
      rw [q_idiv h1 h2 (by omega)]
    simp (disch := omega) only [qlj, nI_add, pk_mul, qIX, qIN, qOB, qOL, qLE1, qLE0, qLT1, qLT0, qEQ1, qEQ0, qM0, qM1, qR, qN0, qMM, qNL1, qNL0, qNE1, qNE0, qB1, qB0, qOT, qOF, qGT, hq]
  · rw [if_neg h0]
    simp (disch := omega) only [qlj, nI_add, pk_mul, qIX, qIN, qOB, qOL, qLE1, qLE0, qLT1, qLT0, qEQ1, qEQ0, qM0, qM1, qR, qN0, qMM, qNL1, qNL0, qNE1, qNE0, qB1, qB0, qOT, qOF, qGT, c_quot]
