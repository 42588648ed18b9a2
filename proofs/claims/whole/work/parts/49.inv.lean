/-! ===== the invariant of a run ===== -/
def RCa (a : Nat) (r : Rd) (S : St) : Prop := gi S a 0 = nI r.n ∧ (∀ p, p < r.n → gi S (a + 1) p = nI (r.t p) ∧ gi S (a + 2) p = nI (r.f p) ∧ gi S (a + 3) p = nI (r.z p)) ∧ (∀ j, j < 14 → gi S (a + 4) j = nI (r.g j))
def RMa (k o : Nat) (r : Rd) (S : St) : Prop := gi S k o = nI r.n ∧ (∀ p, p < r.n → gi S k (o + (1 + 3 * p + 0)) = nI (r.t p) ∧ gi S k (o + (1 + 3 * p + 1)) = nI (r.f p) ∧ gi S k (o + (1 + 3 * p + 2)) = nI (r.z p)) ∧ (∀ j, j < 14 → gi S k (o + (121 + j)) = nI (r.g j))
def HI (n nw : Nat) (S : St) : Prop := n ≤ 8 ∧ nw < 8 ∧ gi S 6 1 = nI n ∧ gi S 6 2 = nI nw ∧ gi S 75 2 = nI n ∧ ∀ j, j < n → ∃ r, RW r ∧ RCa (8 + 5 * ((nw + 8 - j) % 8)) r S ∧ RMa 77 (135 * (n - 1 - j)) r S
def LT (S : St) : Prop := (gi S 49 0 = nI 0 ∧ gi S 75 15 = nI 0 ∧ gi S 75 20 = nI 0) ∨ (gi S 49 0 = nI 1 ∧ gi S 75 15 = nI 1 ∧ ∃ n dm T mc mt ml g, n ≤ 40 ∧ gi S 49 1 = nI n ∧ gi S 75 16 = nI n ∧ dm ≤ 40 ∧ gi S 49 3 = nI dm ∧ gi S 75 18 = nI dm ∧ (∀ p, p < n → gi S 50 p = gi S 83 p) ∧ (∀ j, j < dm → gi S 51 j = gi S 84 j) ∧ T ≤ 4700 ∧ gi S 75 20 = nI T ∧ gi S 49 5 = nI g ∧ g ≤ 100 ∧ MK 48 mc mt ml S ∧ (∀ τ, τ < T → gi S 85 τ = nI (qmk mt ml g mc τ)) ∧ (∀ τ, T ≤ τ → qmk mt ml g mc τ = 0))
def TX (S : St) : Prop := ∃ (L : Nat) (ch : Nat → Nat), L ≤ 120 ∧ gi S 68 1 = nI L ∧ gi S 75 27 = nI L ∧ ∀ k, k < L → gi S 69 k = nI (ch k) ∧ gi S 88 k = nI (ch k) ∧ 32 ≤ ch k ∧ ch k ≤ 126
def Inv (S : St) : Prop := (∃ r, RW r ∧ RC r S ∧ RM r (r.g 0) (r.g 2) S) ∧ (∃ n nw, HI n nw S) ∧ LT S ∧ TX S
/-- what the questions change -/
def PQ (a b : Nat) : Prop := (58 ≤ a ∧ a ≤ 67) ∨ (72 ≤ a ∧ a ≤ 74) ∨ (a = 75 ∧ (b = 3 ∨ (6 ≤ b ∧ b ≤ 14) ∨ b = 25)) ∨ (78 ≤ a ∧ a ≤ 82) ∨ a = 86 ∨ a = 87
def FQ (S T : St) : Prop := ∀ a b, ¬ PQ a b → gi T a b = gi S a b
theorem FQ.rf {S : St} : FQ S S := fun _ _ _ => rfl
theorem FQ.tr {S T U : St} (h : FQ S T) (h2 : FQ T U) : FQ S U := fun a b hp => (h2 a b hp).trans (h a b hp)
theorem FQ.fr {P : Nat → Nat → Prop} {S T : St} (h : Fr P S T) (hp : ∀ a b, P a b → PQ a b) : FQ S T := fun a b hn => h.1 a b (fun hh => hn (hp a b hh))
theorem FQ.frL {P : Nat → Nat → Prop} {S T : St} (h : FrL P S T) (hp : ∀ a b, P a b → PQ a b) : FQ S T := fun a b hn => h.1 a b (fun hh => hn (hp a b hh))
theorem FQ.sl {S T : St} {k j : Nat} {v : Int64} (h : FQ S T) : FQ S (sl T k j v) := h
theorem FQ.s3 {S T : St} {v : Int32} (h : FQ S T) : FQ S (si T 75 3 v) := fun a b hn => by
  rw [qG0 (by unfold PQ at hn; omega)]; exact h a b hn
theorem Inv.fq {S T : St} (h : Inv S) (e : FQ S T) : Inv T := by
  obtain ⟨⟨r, hW, hR, hM⟩, ⟨n, nw, h1, h2, h3, h4, h5, h6⟩, hL, L, ch, t1, t2, t3, t4⟩ := h
  refine ⟨⟨r, hW, hR.cg (fun a b x y => e a b (by unfold PQ; omega)), hM.cg (fun b => e 76 b (by unfold PQ; omega))⟩, ⟨n, nw, h1, h2, ?_, ?_, ?_, fun j hj => ?_⟩, ?_, L, ch, t1, ?_, ?_, fun k hk => ?_⟩
  · rw [e _ _ (by unfold PQ; omega)]; exact h3
  · rw [e _ _ (by unfold PQ; omega)]; exact h4
  · rw [e _ _ (by unfold PQ; omega)]; exact h5
  · obtain ⟨q, q1, ⟨q2, q3, q4⟩, ⟨q5, q6, q7⟩⟩ := h6 j hj
    have hm := Nat.mod_lt (nw + 8 - j) (show 0 < 8 by omega)
    refine ⟨q, q1, ⟨?_, fun p hp => ?_, fun i hi => ?_⟩, ⟨?_, fun p hp => ?_, fun i hi => ?_⟩⟩
    · rw [e _ _ (by unfold PQ; omega)]; exact q2
    · rw [e _ _ (by unfold PQ; omega), e _ _ (by unfold PQ; omega), e _ _ (by unfold PQ; omega)]; exact q3 p hp
    · rw [e _ _ (by unfold PQ; omega)]; exact q4 i hi
    · rw [e _ _ (by unfold PQ; omega)]; exact q5
    · rw [e _ _ (by unfold PQ; omega), e _ _ (by unfold PQ; omega), e _ _ (by unfold PQ; omega)]; exact q6 p hp
    · rw [e _ _ (by unfold PQ; omega)]; exact q7 i hi
  · rcases hL with ⟨l1, l2, l3⟩ | ⟨l1, l2, n', dm, T', mc, mt, ml, g, k1, k2, k3, k4, k5, k6, k7, k8, k9, k10, k11, k12, k13, k14, k15⟩
    · refine Or.inl ⟨?_, ?_, ?_⟩
      · rw [e _ _ (by unfold PQ; omega)]; exact l1
      · rw [e _ _ (by unfold PQ; omega)]; exact l2
      · rw [e _ _ (by unfold PQ; omega)]; exact l3
    · refine Or.inr ⟨?_, ?_, n', dm, T', mc, mt, ml, g, k1, ?_, ?_, k4, ?_, ?_, fun p hp => ?_, fun j hj => ?_, k9, ?_, ?_, k12, k13.cg (fun a b hab => e a b (by unfold PQ; omega)), fun τ hτ => ?_, k15⟩
      · rw [e _ _ (by unfold PQ; omega)]; exact l1
      · rw [e _ _ (by unfold PQ; omega)]; exact l2
      · rw [e _ _ (by unfold PQ; omega)]; exact k2
      · rw [e _ _ (by unfold PQ; omega)]; exact k3
      · rw [e _ _ (by unfold PQ; omega)]; exact k5
      · rw [e _ _ (by unfold PQ; omega)]; exact k6
      · rw [e _ _ (by unfold PQ; omega), e 83 p (by unfold PQ; omega)]; exact k7 p hp
      · rw [e _ _ (by unfold PQ; omega), e 84 j (by unfold PQ; omega)]; exact k8 j hj
      · rw [e _ _ (by unfold PQ; omega)]; exact k10
      · rw [e _ _ (by unfold PQ; omega)]; exact k11
      · rw [e _ _ (by unfold PQ; omega)]; exact k14 τ hτ
  · rw [e _ _ (by unfold PQ; omega)]; exact t2
  · rw [e _ _ (by unfold PQ; omega)]; exact t3
  · rw [e _ _ (by unfold PQ; omega), e 88 k (by unfold PQ; omega)]; exact t4 k hk
/-! ===== one turn of the law ===== -/
theorem ls_ok {A : Option ((Int32 ⊕ Nat) × St)} {g : Nat → St → Option (Int32 × St)} {X : St → Option (Int32 × St)} {v : Int32} {S1 S2 : St} (h1 : A = some (.inl v, S1)) (h2 : X (sl S1 90 0 v.toInt64) = some (v, S2)) (h3 : gi S2 75 3 = nI 0) (h4 : gl S2 90 0 = v.toInt64) : ob (ow A (fun v S2 => ol (sl S2 90 0 v.toInt64) (fun T => some ((0 : Int32), T))) g) (fun k1 S1 => ob (X S1) (fun r2 S2 => ob (X8_thrown S2) (fun r3 S3 => og (r3 = k1) (oi (k1 = 0) (og (lg_cmp (gl S3 90 0) r2.toInt64 = 0) (some S3)) (some S3))))) = some S2 := by
  rw [h1, qOWV, qOL, qOB, h2, qOB]
  unfold X8_thrown
  rw [qOB, h3, h4, qOG (show nI 0 = (0 : Int32) from rfl), show ∀ (x y : Option St), oi ((0 : Int32) = 0) x y = x from fun x y => if_pos rfl, qOG ((lg_cmp_eq _ _).mpr rfl)]
theorem ls_no {A : Option ((Int32 ⊕ Nat) × St)} {g : Nat → St → Option (Int32 × St)} {f : Int32 → St → Option (Int32 × St)} {X : St → Option (Int32 × St)} {e k : Nat} {r2 : Int32} {S1 S2 : St} (h1 : A = some (.inr e, S1)) (hg : g e S1 = some (nI k, S1)) (h2 : X S1 = some (r2, S2)) (h3 : gi S2 75 3 = nI k) (hk : 1 ≤ k) (hk2 : k ≤ 3) : ob (ow A f g) (fun k1 S1 => ob (X S1) (fun r2 S2 => ob (X8_thrown S2) (fun r3 S3 => og (r3 = k1) (oi (k1 = 0) (og (lg_cmp (gl S3 90 0) r2.toInt64 = 0) (some S3)) (some S3))))) = some S2 := by
  rw [h1, qOWE, hg, qOB, h2, qOB]
  unfold X8_thrown
  rw [qOB, h3, qOG rfl]
  exact if_neg (nI_ne0 (show 0 < k by omega) (show k < 2 ^ 31 by omega))
theorem f_ref {k : Nat} {S : St} (hk : k ≤ 3) : X8_refuses (nI k) S = some (if k = 0 then nI 0 else nI 1, si S 75 3 (nI k)) := by
  unfold X8_refuses
  by_cases h : k = 0
  · rw [if_pos h]; simp (disch := omega) only [qlj, nI_add, pk_mul, qIX, qIN, qOB, qOL, qLE1, qLE0, qLT1, qLT0, qEQ1, qEQ0, qM0, qM1, qR, qN0, qMM, qNL1, qNL0, qNE1, qNE0, qB1, qB0, qOT, qOF, qGT]
  · rw [if_neg h]; simp (disch := omega) only [qlj, nI_add, pk_mul, qIX, qIN, qOB, qOL, qLE1, qLE0, qLT1, qLT0, qEQ1, qEQ0, qM0, qM1, qR, qN0, qMM, qNL1, qNL0, qNE1, qNE0, qB1, qB0, qOT, qOF, qGT]
theorem Fr.gl {P : Nat → Nat → Prop} {S T : St} (h : Fr P S T) {a b : Nat} : gl T a b = gl S a b := by
  show T.2.1 a b = S.2.1 a b
  rw [h.2]
theorem f_in (x : Int32) {lo hi : Nat} (hl : lo ≤ hi) (hh : hi < 2147483647) : (∃ j, lo ≤ j ∧ j ≤ hi ∧ x = nI j ∧ ∀ S, X8_in x (nI lo) (nI hi) S = some (nI 1, S)) ∨ ((x < nI lo ∨ nI hi < x) ∧ ∀ S, X8_in x (nI lo) (nI hi) S = some (nI 0, S)) := by
  by_cases h1 : x < nI lo
  · exact Or.inr ⟨Or.inl h1, fun S => by unfold X8_in; exact if_pos h1⟩
  · by_cases h2 : nI hi < x
    · exact Or.inr ⟨Or.inr h2, fun S => by
        unfold X8_in
        rw [show ∀ (a b : Option (Int32 × St)), oi (x < nI lo) a b = b from fun a b => if_neg h1]
        exact if_pos h2⟩
    · have h3 : ¬ x < 0 := by
        intro h
        apply h1
        rw [Int32.lt_iff_toInt_lt] at h ⊢
        rw [nI_toInt (show lo < 2 ^ 31 by omega)]
        rw [Int32.toInt_zero] at h
        omega
      obtain ⟨j, hj, rfl⟩ := nI_of h3
      have hj' : j < 2147483648 := hj
      have a1 : lo ≤ j := by
        rcases Nat.lt_or_ge j lo with h | h
        · exact absurd (nI_lt h (show lo < 2 ^ 31 by omega)) h1
        · exact h
      have a2 : j ≤ hi := by
        rcases Nat.lt_or_ge hi j with h | h
        · exact absurd (nI_lt h hj) h2
        · exact h
      refine Or.inl ⟨j, a1, a2, rfl, fun S => ?_⟩
      unfold X8_in
      simp (disch := omega) only [qlj, nI_add, pk_mul, qIX, qIN, qOB, qOL, qLE1, qLE0, qLT1, qLT0, qEQ1, qEQ0, qM0, qM1, qR, qN0, qMM, qNL1, qNL0, qNE1, qNE0, qB1, qB0, qOT, qOF, qGT]
theorem f_flow (x : Int32) : (∃ j, j < 6 ∧ x = nI j ∧ (∀ S, X8_isFlow x S = some (nI 1, S)) ∧ (∀ S, X7_isFlow x S = some (nI 1, S)) ∧ ∀ S, X7_requireFlow x S = some (.inl (), S)) ∨ ((∀ S, X8_isFlow x S = some (nI 0, S)) ∧ (∀ S, X7_isFlow x S = some (nI 0, S)) ∧ ∀ S, X7_requireFlow x S = some (.inr 0, S)) := by
  have q10 : ∀ (S : St) (x y : Option ((Unit ⊕ Nat) × St)), oi (nI 1 = nI 0) x y = y := fun S x y => if_neg (by decide)
  rcases f_in x (lo := 0) (hi := 5) (by omega) (by omega) with ⟨j, h1, h2, rfl, h4⟩ | ⟨h1, h4⟩
  · have h7 : ∀ S, X7_isFlow (nI j) S = some (nI 1, S) := fun S => by unfold X7_isFlow; simp (disch := omega) only [qlj, nI_add, pk_mul, qIX, qIN, qOB, qOL, qLE1, qLE0, qLT1, qLT0, qEQ1, qEQ0, qM0, qM1, qR, qN0, qMM, qNL1, qNL0, qNE1, qNE0, qB1, qB0, qOT, qOF, qGT]
    refine Or.inl ⟨j, by omega, rfl, fun S => ?_, h7, fun S => ?_⟩
    · unfold X8_isFlow; simp (disch := omega) only [qlj, nI_add, pk_mul, qIX, qIN, qOB, qOL, qLE1, qLE0, qLT1, qLT0, qEQ1, qEQ0, qM0, qM1, qR, qN0, qMM, qNL1, qNL0, qNE1, qNE0, qB1, qB0, qOT, qOF, qGT, h4]
    · unfold X7_requireFlow; simp (disch := omega) only [qlj, nI_add, pk_mul, qIX, qIN, qOB, qOL, qLE1, qLE0, qLT1, qLT0, qEQ1, qEQ0, qM0, qM1, qR, qN0, qMM, qNL1, qNL0, qNE1, qNE0, qB1, qB0, qOT, qOF, qGT, h7, q10 S]
  · have h7 : ∀ S, X7_isFlow x S = some (nI 0, S) := fun S => by
      unfold X7_isFlow
      rcases h1 with h | h
      · exact if_pos h
      · by_cases h0 : x < 0
        · exact if_pos h0
        · rw [show ∀ (a b : Option (Int32 × St)), oi (x < 0) a b = b from fun a b => if_neg h0]
          refine if_pos ?_
          rw [Int32.lt_iff_toInt_lt, nI_toInt (show 5 < 2 ^ 31 by omega)] at h
          show nI 6 ≤ x
          rw [Int32.le_iff_toInt_le, nI_toInt (show 6 < 2 ^ 31 by omega)]
          omega
    refine Or.inr ⟨fun S => ?_, h7, fun S => ?_⟩
    · unfold X8_isFlow; simp (disch := omega) only [qlj, nI_add, pk_mul, qIX, qIN, qOB, qOL, qLE1, qLE0, qLT1, qLT0, qEQ1, qEQ0, qM0, qM1, qR, qN0, qMM, qNL1, qNL0, qNE1, qNE0, qB1, qB0, qOT, qOF, qGT, h4]
    · unfold X7_requireFlow; simp (disch := omega) only [qlj, nI_add, pk_mul, qIX, qIN, qOB, qOL, qLE1, qLE0, qLT1, qLT0, qEQ1, qEQ0, qM0, qM1, qR, qN0, qMM, qNL1, qNL0, qNE1, qNE0, qB1, qB0, qOT, qOF, qGT, h7]
theorem f_set (x : Int32) : (∃ s, s < 64 ∧ x = nI s ∧ (∀ S, X8_in x (nI 0) (nI 63) S = some (nI 1, S)) ∧ ∀ S, X7_requireSet x S = some (.inl (), S)) ∨ ((∀ S, X8_in x (nI 0) (nI 63) S = some (nI 0, S)) ∧ ∀ S, X7_requireSet x S = some (.inr 1, S)) := by
  rcases f_in x (lo := 0) (hi := 63) (by omega) (by omega) with ⟨j, h1, h2, rfl, h4⟩ | ⟨h1, h4⟩
  · refine Or.inl ⟨j, by omega, rfl, h4, fun S => ?_⟩
    unfold X7_requireSet; simp (disch := omega) only [qlj, nI_add, pk_mul, qIX, qIN, qOB, qOL, qLE1, qLE0, qLT1, qLT0, qEQ1, qEQ0, qM0, qM1, qR, qN0, qMM, qNL1, qNL0, qNE1, qNE0, qB1, qB0, qOT, qOF, qGT]
  · refine Or.inr ⟨h4, fun S => ?_⟩
    unfold X7_requireSet X7_requireSet_10
    by_cases h0 : x < 0
    · exact if_pos h0
    · rw [show ∀ (a b : Option ((Unit ⊕ Nat) × St)), oi (x < 0) a b = b from fun a b => if_neg h0]
      rcases h1 with h | h
      · exact absurd h h0
      · refine if_neg ?_
        show ¬ x ≤ nI 63
        rw [Int32.not_le]; exact h
theorem f_part (x : Int32) : (∃ y, y ≤ 1 ∧ x = nI y ∧ (∀ S, X8_in x (nI 0) (nI 1) S = some (nI 1, S)) ∧ ∀ S, X7_requirePart x S = some (.inl (), S)) ∨ ((∀ S, X8_in x (nI 0) (nI 1) S = some (nI 0, S)) ∧ ∀ S, X7_requirePart x S = some (.inr 1, S)) := by
  rcases f_in x (lo := 0) (hi := 1) (by omega) (by omega) with ⟨j, h1, h2, rfl, h4⟩ | ⟨h1, h4⟩
  · refine Or.inl ⟨j, h2, rfl, h4, fun S => ?_⟩
    unfold X7_requirePart
    by_cases h : j = 0
    · subst h; exact if_pos rfl
    · have : j = 1 := by omega
      subst this
      rw [show ∀ (a b : Option ((Unit ⊕ Nat) × St)), oi (nI 1 = 0) a b = b from fun a b => if_neg (by decide)]
      exact if_pos rfl
  · refine Or.inr ⟨h4, fun S => ?_⟩
    have h0 : ¬ x = nI 0 := by
      rintro rfl
      rcases h1 with h | h
      · exact absurd h (by decide)
      · exact absurd h (by decide)
    have h01 : ¬ x = nI 1 := by
      rintro rfl
      rcases h1 with h | h
      · exact absurd h (by decide)
      · exact absurd h (by decide)
    unfold X7_requirePart
    rw [show ∀ (a b : Option ((Unit ⊕ Nat) × St)), oi (x = 0) a b = b from fun a b => if_neg h0]
    exact if_neg h01
theorem f_pkt (x : Int32) {n : Nat} (hn : n ≤ 40) : (∃ p, p < n ∧ x = nI p ∧ (∀ S, gi S 76 0 = nI n → X8_isPacket x S = some (nI 1, S)) ∧ ∀ S, gi S 1 0 = nI n → X7_requirePacket x S = some (.inl (), S)) ∨ ((∀ S, gi S 76 0 = nI n → X8_isPacket x S = some (nI 0, S)) ∧ ∀ S, gi S 1 0 = nI n → X7_requirePacket x S = some (.inr 0, S)) := by
  rcases pk_ix x (n := n) (show n < 2 ^ 31 by omega) with h | h | ⟨p, hp, rfl⟩
  · refine Or.inr ⟨fun S hS => ?_, fun S hS => ?_⟩
    · unfold X8_isPacket X8_in
      rw [show ∀ (a b : Option (Int32 × St)), oi (x < (0 : Int32)) a b = a from fun a b => if_pos h]
      simp (disch := omega) only [qlj, nI_add, pk_mul, qIX, qIN, qOB, qOL, qLE1, qLE0, qLT1, qLT0, qEQ1, qEQ0, qM0, qM1, qR, qN0, qMM, qNL1, qNL0, qNE1, qNE0, qB1, qB0, qOT, qOF, qGT]
    · unfold X7_requirePacket X7_requirePacket_15
      exact if_pos h
  · have hT : (n : Int) ≤ x.toInt := by
      rw [Int32.le_iff_toInt_le, nI_toInt (show n < 2 ^ 31 by omega)] at h
      exact h
    have h0 : ¬ x < 0 := by
      rw [Int32.lt_iff_toInt_lt, Int32.toInt_zero]; omega
    refine Or.inr ⟨fun S hS => ?_, fun S hS => ?_⟩
    · unfold X8_isPacket X8_in
      rw [show ∀ (a b : Option (Int32 × St)), oi (x < (0 : Int32)) a b = b from fun a b => if_neg h0]
      have hlt : gi S 76 0 - 1 < x := by
        rw [hS, Int32.lt_iff_toInt_lt, show nI n - (1 : Int32) = nI n - nI 1 from rfl, pk_sub_toInt (show n < 2 ^ 30 by omega) (show 1 < 2 ^ 30 by omega)]
        omega
      rw [show ∀ (a b : Option (Int32 × St)), oi (gi S 76 0 - (1 : Int32) < x) a b = a from fun a b => if_pos hlt]
      simp (disch := omega) only [qlj, nI_add, pk_mul, qIX, qIN, qOB, qOL, qLE1, qLE0, qLT1, qLT0, qEQ1, qEQ0, qM0, qM1, qR, qN0, qMM, qNL1, qNL0, qNE1, qNE0, qB1, qB0, qOT, qOF, qGT]
    · unfold X7_requirePacket X7_requirePacket_15
      rw [show ∀ (a b : Option ((Unit ⊕ Nat) × St)), oi (x < 0) a b = b from fun a b => if_neg h0, hS]
      refine if_neg ?_
      rw [Int32.not_lt]; exact h
  · refine Or.inl ⟨p, hp, rfl, fun S hS => ?_, fun S hS => ?_⟩
    · unfold X8_isPacket X8_in
      simp (disch := omega) only [qlj, nI_add, pk_mul, qIX, qIN, qOB, qOL, qLE1, qLE0, qLT1, qLT0, qEQ1, qEQ0, qM0, qM1, qR, qN0, qMM, qNL1, qNL0, qNE1, qNE0, qB1, qB0, qOT, qOF, qGT, hS, qSUB]
    · unfold X7_requirePacket X7_requirePacket_15
      simp (disch := omega) only [qlj, nI_add, pk_mul, qIX, qIN, qOB, qOL, qLE1, qLE0, qLT1, qLT0, qEQ1, qEQ0, qM0, qM1, qR, qN0, qMM, qNL1, qNL0, qNE1, qNE0, qB1, qB0, qOT, qOF, qGT, hS]
