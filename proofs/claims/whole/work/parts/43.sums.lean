/-! ===== sets as bits; the worths of all sets ===== -/
theorem q_and {a b : Nat} (ha : a < 4294967296) (hb : b < 4294967296) : nI a &&& nI b = nI (a &&& b) := by
  have h : a &&& b < 4294967296 := Nat.and_lt_two_pow (n := 32) a hb
  rw [← Int32.toBitVec_inj, Int32.toBitVec_and]
  apply BitVec.eq_of_toNat_eq
  rw [BitVec.toNat_and, pk_tn ha, pk_tn hb, pk_tn h]
theorem q_or {a b : Nat} (ha : a < 4294967296) (hb : b < 4294967296) : nI a ||| nI b = nI (a ||| b) := by
  have h : a ||| b < 4294967296 := Nat.or_lt_two_pow (n := 32) ha hb
  rw [← Int32.toBitVec_inj, Int32.toBitVec_or]
  apply BitVec.eq_of_toNat_eq
  rw [BitVec.toNat_or, pk_tn ha, pk_tn hb, pk_tn h]
theorem q_shl {f : Nat} (hf : f < 6) : nI 1 <<< (nI f &&& nI 31) = nI (2 ^ f) := by
  have hp : 2 ^ f < 64 := Nat.pow_lt_pow_right (by omega) hf
  have := pk_shlN (n := 1) (nI f &&& nI 31) f (by
    have : f = 0 ∨ f = 1 ∨ f = 2 ∨ f = 3 ∨ f = 4 ∨ f = 5 := by omega
    rcases this with rfl | rfl | rfl | rfl | rfl | rfl <;> decide) (by rw [Nat.one_mul]; omega)
  rw [Nat.one_mul] at this
  exact this
theorem q_or64 {s f : Nat} (hs : s < 64) (hf : f < 6) : s ||| 2 ^ f < 64 := Nat.or_lt_two_pow (n := 6) hs (Nat.pow_lt_pow_right (by omega) hf)
theorem q_p64 {f : Nat} (hf : f < 6) : 2 ^ f < 64 := Nat.pow_lt_pow_right (by omega) hf
theorem qw_set {r : Rd} {c π s s' v : Nat} (h : ∀ p, p < r.n → s / 2 ^ r.f p % 2 = s' / 2 ^ r.f p % 2) : qw r c π s v = qw r c π s' v := by
  unfold qw
  rw [qpl_set h r.n (Nat.le_refl _)]
theorem r_weigh {r : Rd} {c π v : Nat} {S : St} (hW : RW r) (hM : RM r c π S) (hc2 : c ≤ 1000) (hpi : π ≤ 4) : ∃ S', X8_weighsAll (qvi v) S = some ((), S') ∧ (∀ s, s < 64 → gi S' 86 s = nI (qw r c π s v)) ∧ Fr (fun a b => PRw a b ∨ a = 86) S S' := by
  have hl : ∃ b S', X8_weighsAll_2L (qvi v) (nI 0) S = some (b, S') ∧ ((∀ s, s < 64 → gi S' 86 s = nI (qw r c π s v)) ∧ Fr (fun a b => PRw a b ∨ a = 86) S S') := by
    unfold X8_weighsAll_2L
    refine lp_cnt (body := fun (a : Int32) (S : St) => X8_weighsAll_2 (qvi v) a S) 64 (fun i a T => a = nI i ∧ (∀ s, s < i → gi T 86 s = nI (qw r c π s v)) ∧ Fr (fun a b => PRw a b ∨ a = 86) S T) _ ⟨rfl, fun s hs => absurd hs (Nat.not_lt_zero _), Fr.rf⟩ ?_ ?_
    · rintro i a T hi ⟨rfl, h1, h2⟩
      have hMT : RM r c π T := hM.cg (fun b => h2.1 76 b (by unfold PRw; omega))
      obtain ⟨T1, e1, e2⟩ := r_worthOf (v := v) hW hMT hc2 hpi hi
      show ∃ a' S', X8_weighsAll_2 (qvi v) (nI i) T = _ ∧ _
      unfold X8_weighsAll_2
      simp (disch := omega) only [qlj, nI_add, pk_mul, qIX, qIN, qOB, qOL, qLE1, qLE0, qLT1, qLT0, qEQ1, qEQ0, qM0, qM1, qR, qN0, qMM, qNL1, qNL0, qNE1, qNE0, qB1, qB0, qOT, qOF, qGT, e1]
      refine ⟨_, _, rfl, rfl, fun s hs => ?_, (h2.tr (e2.mono (fun a b h => Or.inl h))).si (Or.inr rfl)⟩
      by_cases h : s = i
      · subst h; exact qG1 rfl rfl
      · rw [qG0 (by omega), e2.1 86 s (by unfold PRw; omega)]; exact h1 s (by omega)
    · rintro a T ⟨rfl, h1, h2⟩
      refine ⟨(), T, ?_, h1, h2⟩
      show X8_weighsAll_2 (qvi v) (nI 64) T = _
      unfold X8_weighsAll_2
      simp (disch := omega) only [qlj, nI_add, pk_mul, qIX, qIN, qOB, qOL, qLE1, qLE0, qLT1, qLT0, qEQ1, qEQ0, qM0, qM1, qR, qN0, qMM, qNL1, qNL0, qNE1, qNE0, qB1, qB0, qOT, qOF, qGT]
  obtain ⟨b, S1, e1, e2, e3⟩ := hl
  unfold X8_weighsAll
  simp (disch := omega) only [qlj, nI_add, pk_mul, qIX, qIN, qOB, qOL, qLE1, qLE0, qLT1, qLT0, qEQ1, qEQ0, qM0, qM1, qR, qN0, qMM, qNL1, qNL0, qNE1, qNE0, qB1, qB0, qOT, qOF, qGT, e1]
  exact ⟨S1, rfl, e2, e3⟩
def qfs (f : Nat → Nat) : Nat → Nat
  | 0 => 0
  | p + 1 => qfs f p ||| 2 ^ f p
theorem qfs_lt {f : Nat → Nat} : ∀ {n : Nat}, (∀ p, p < n → f p < 6) → qfs f n < 64 := by
  intro n
  induction n with
  | zero => intro _; show 0 < 64; omega
  | succ n ih => intro h; exact q_or64 (ih (fun p hp => h p (by omega))) (h n (by omega))
theorem qfs_bit {f : Nat → Nat} {p : Nat} : ∀ {n : Nat}, p < n → (qfs f n).testBit (f p) = true := by
  intro n
  induction n with
  | zero => intro h; omega
  | succ n ih =>
    intro h
    rw [qfs, Nat.testBit_or]
    by_cases e : p = n
    · subst e; rw [Nat.testBit_two_pow_self, Bool.or_true]
    · rw [ih (by omega), Bool.true_or]
theorem c_flowSet {r : Rd} {S : St} (hW : RW r) (hR : RC r S) : X4_flowSet 1 S = some (nI (qfs r.f r.n), S) := by
  have hn := hW.1
  have hl : X4_flowSet_4L 1 (nI 0, nI 0) S = some (nI (qfs r.f r.n), S) := by
    unfold X4_flowSet_4L
    refine lp_same (body := fun (a : Int32 × Int32) (S : St) => X4_flowSet_4 1 a.1 a.2 S) r.n (fun i => (nI (qfs r.f i), nI i)) (fun i hi => ?_) ?_
    · have hz := hW.2.1 i hi
      have mf : gi S (1 + 2) i = nI (r.f i) := (hR.2.1 i hi).2.1
      have h1 := qfs_lt (f := r.f) (n := i) (fun p hp => (hW.2.1 p (by omega)).2.1)
      have h2 := q_p64 hz.2.1
      show X4_flowSet_4 1 (nI (qfs r.f i)) (nI i) S = _
      unfold X4_flowSet_4
      simp (disch := omega) only [qlj, nI_add, pk_mul, qIX, qIN, qOB, qOL, qLE1, qLE0, qLT1, qLT0, qEQ1, qEQ0, qM0, qM1, qR, qN0, qMM, qNL1, qNL0, qNE1, qNE0, qB1, qB0, qOT, qOF, qGT, hR.1, mf, q_shl hz.2.1, q_or]
      rfl
    · show X4_flowSet_4 1 (nI (qfs r.f r.n)) (nI r.n) S = _
      unfold X4_flowSet_4
      simp (disch := omega) only [qlj, nI_add, pk_mul, qIX, qIN, qOB, qOL, qLE1, qLE0, qLT1, qLT0, qEQ1, qEQ0, qM0, qM1, qR, qN0, qMM, qNL1, qNL0, qNE1, qNE0, qB1, qB0, qOT, qOF, qGT, hR.1]
  unfold X4_flowSet
  simp (disch := omega) only [qlj, nI_add, pk_mul, qIX, qIN, qOB, qOL, qLE1, qLE0, qLT1, qLT0, qEQ1, qEQ0, qM0, qM1, qR, qN0, qMM, qNL1, qNL0, qNE1, qNE0, qB1, qB0, qOT, qOF, qGT, hl]
theorem c_fill {r : Rd} {v : Nat} {S : St} (hW : RW r) (hR : RC r S) : ∃ S', X7_fillWorths (qvi v) S = some ((), S') ∧ (∀ s, s < 64 → gi S' 72 s = nI (qw r (r.g 0) (r.g 2) s v)) ∧ Fr (fun a b => PCw 58 a b ∨ a = 72) S S' := by
  have hP := qfs_lt (f := r.f) (n := r.n) (fun p hp => (hW.2.1 p hp).2.1)
  have hl : ∃ b S', X7_fillWorths_10L (qvi v) (nI (qfs r.f r.n)) (nI 0) S = some (b, S') ∧ ((∀ s, s < 64 → gi S' 72 s = nI (qw r (r.g 0) (r.g 2) s v)) ∧ Fr (fun a b => PCw 58 a b ∨ a = 72) S S') := by
    unfold X7_fillWorths_10L
    refine lp_cnt (body := fun (a : Int32) (S : St) => X7_fillWorths_10 (qvi v) (nI (qfs r.f r.n)) a S) 64 (fun i a T => a = nI i ∧ (∀ s, s < i → gi T 72 s = nI (qw r (r.g 0) (r.g 2) s v)) ∧ Fr (fun a b => PCw 58 a b ∨ a = 72) S T) _ ⟨rfl, fun s hs => absurd hs (Nat.not_lt_zero _), Fr.rf⟩ ?_ ?_
    · rintro i a T hi ⟨rfl, h1, h2⟩
      have hRT : RC r T := hR.cg (fun a b h3 h4 => h2.1 a b (by unfold PCw; omega))
      have hle : i &&& qfs r.f r.n ≤ i := Nat.and_le_left
      have hw : qw r (r.g 0) (r.g 2) i v = qw r (r.g 0) (r.g 2) (i &&& qfs r.f r.n) v := by
        refine qw_set (fun p hp => ?_)
        have e1 := Nat.testBit_eq_decide_div_mod_eq (x := i) (i := r.f p)
        have e2 := Nat.testBit_eq_decide_div_mod_eq (x := i &&& qfs r.f r.n) (i := r.f p)
        rw [Nat.testBit_and, qfs_bit hp, Bool.and_true, e1] at e2
        have h3 : i / 2 ^ r.f p % 2 < 2 := Nat.mod_lt _ (by omega)
        have h4 : (i &&& qfs r.f r.n) / 2 ^ r.f p % 2 < 2 := Nat.mod_lt _ (by omega)
        have e3 : (i / 2 ^ r.f p % 2 = 1) ↔ ((i &&& qfs r.f r.n) / 2 ^ r.f p % 2 = 1) := decide_eq_decide.mp e2
        omega
      show ∃ a' S', X7_fillWorths_10 (qvi v) (nI (qfs r.f r.n)) (nI i) T = _ ∧ _
      unfold X7_fillWorths_10
      by_cases he : i &&& qfs r.f r.n = i
      · obtain ⟨T1, e1, e2⟩ := c_worthOf (s := i) (v := v) hW hRT hi
        simp (disch := omega) only [qlj, nI_add, pk_mul, qIX, qIN, qOB, qOL, qLE1, qLE0, qLT1, qLT0, qEQ1, qEQ0, qM0, qM1, qR, qN0, qMM, qNL1, qNL0, qNE1, qNE0, qB1, qB0, qOT, qOF, qGT, q_and, e1, he]
        refine ⟨_, _, rfl, rfl, fun s hs => ?_, (h2.tr (e2.mono (fun a b h => Or.inl h))).si (Or.inr rfl)⟩
        by_cases h : s = i
        · subst h; exact qG1 rfl rfl
        · rw [qG0 (by omega), e2.1 72 s (by unfold PCw; omega)]; exact h1 s (by omega)
      · have h3 := h1 (i &&& qfs r.f r.n) (by omega)
        simp (disch := omega) only [qlj, nI_add, pk_mul, qIX, qIN, qOB, qOL, qLE1, qLE0, qLT1, qLT0, qEQ1, qEQ0, qM0, qM1, qR, qN0, qMM, qNL1, qNL0, qNE1, qNE0, qB1, qB0, qOT, qOF, qGT, q_and, h3]
        refine ⟨_, _, rfl, rfl, fun s hs => ?_, h2.si (Or.inr rfl)⟩
        by_cases h : s = i
        · subst h; rw [qG1 rfl rfl, hw]
        · rw [qG0 (by omega)]; exact h1 s (by omega)
    · rintro a T ⟨rfl, h1, h2⟩
      refine ⟨(), T, ?_, h1, h2⟩
      show X7_fillWorths_10 (qvi v) (nI (qfs r.f r.n)) (nI 64) T = _
      unfold X7_fillWorths_10
      simp (disch := omega) only [qlj, nI_add, pk_mul, qIX, qIN, qOB, qOL, qLE1, qLE0, qLT1, qLT0, qEQ1, qEQ0, qM0, qM1, qR, qN0, qMM, qNL1, qNL0, qNE1, qNE0, qB1, qB0, qOT, qOF, qGT]
  obtain ⟨b, S1, e1, e2, e3⟩ := hl
  unfold X7_fillWorths
  simp (disch := omega) only [qlj, nI_add, pk_mul, qIX, qIN, qOB, qOL, qLE1, qLE0, qLT1, qLT0, qEQ1, qEQ0, qM0, qM1, qR, qN0, qMM, qNL1, qNL0, qNE1, qNE0, qB1, qB0, qOT, qOF, qGT, c_flowSet hW hR, e1]
  exact ⟨S1, rfl, e2, e3⟩
/-! ===== sums of contributions ===== -/
def jI (v : Int) : Int32 := Int32.ofInt v
def jL (v : Int) : Int64 := Int64.ofInt v
theorem jI_n (n : Nat) : nI n = jI n := Int32.ofInt_eq_ofNat.symm
theorem jL_n (n : Nat) : lN n = jL n := Int64.ofInt_eq_ofNat.symm
theorem jI_add {a b : Int} : jI a + jI b = jI (a + b) := (Int32.ofInt_add a b).symm
theorem jI_sub {a b : Int} : jI a - jI b = jI (a - b) := (Int32.ofInt_sub a b).symm
theorem jI_mul {a b : Int} : jI a * jI b = jI (a * b) := (Int32.ofInt_mul a b).symm
theorem jL_add {a b : Int} : jL a + jL b = jL (a + b) := (Int64.ofInt_add a b).symm
theorem jL_sub {a b : Int} : jL a - jL b = jL (a - b) := (Int64.ofInt_sub a b).symm
theorem jL_mul {a b : Int} : jL a * jL b = jL (a * b) := (Int64.ofInt_mul a b).symm
theorem jI_l {a : Int} (h1 : -2147483648 ≤ a) (h2 : a ≤ 2147483647) : (jI a).toInt64 = jL a := Int32.toInt64_ofInt (by rw [Int32.toInt_minValue]; omega) (by rw [Int32.toInt_maxValue]; omega)
theorem jL_i {a : Int} : (jL a).toInt32 = jI a := Int64.toInt32_ofInt
theorem jI_T {a : Int} (h1 : -2147483648 ≤ a) (h2 : a ≤ 2147483647) : (jI a).toInt = a := Int32.toInt_ofInt_of_le (by omega) (by omega)
theorem jL_T {a : Int} (h1 : -9223372036854775808 ≤ a) (h2 : a ≤ 9223372036854775807) : (jL a).toInt = a := Int64.toInt_ofInt_of_le (by omega) (by omega)
def qsI (v : Nat → Int) : Nat → Int
  | 0 => 0
  | m + 1 => qsI v m + v m
theorem qsI_bd {v : Nat → Int} {c : Int} : ∀ {m : Nat}, (∀ k, k < m → -c ≤ v k ∧ v k ≤ c) → -(c * m) ≤ qsI v m ∧ qsI v m ≤ c * m := by
  intro m
  induction m with
  | zero => intro _; show -(c * 0) ≤ 0 ∧ 0 ≤ c * 0; omega
  | succ m ih =>
    intro h
    have h1 := ih (fun k hk => h k (by omega))
    have h2 := h m (by omega)
    rw [qsI, Int.natCast_succ, Int.mul_add, Int.mul_one]
    omega
def qpc (s : Nat) : Nat := qsm (fun j => s / 2 ^ j % 2) 6
theorem r_size {s : Nat} {S : St} (hs : s < 64) : X8_size (nI s) S = some (nI (qpc s), S) := by
  have hl : X8_size_4L (nI s) (nI 0, nI 0) S = some (nI (qpc s), S) := by
    unfold X8_size_4L
    refine lp_same (body := fun (a : Int32 × Int32) (S : St) => X8_size_4 (nI s) a.1 a.2 S) 6 (fun i => (nI (qsm (fun j => s / 2 ^ j % 2) i), nI i)) (fun i hi => ?_) ?_
    · show X8_size_4 (nI s) (nI (qsm (fun j => s / 2 ^ j % 2) i)) (nI i) S = _
      unfold X8_size_4
      simp (disch := omega) only [qlj, nI_add, pk_mul, qIX, qIN, qOB, qOL, qLE1, qLE0, qLT1, qLT0, qEQ1, qEQ0, qM0, qM1, qR, qN0, qMM, qNL1, qNL0, qNE1, qNE0, qB1, qB0, qOT, qOF, qGT, q_bit hs hi]
      rfl
    · show X8_size_4 (nI s) _ (nI 6) S = _
      unfold X8_size_4
      simp (disch := omega) only [qlj, nI_add, pk_mul, qIX, qIN, qOB, qOL, qLE1, qLE0, qLT1, qLT0, qEQ1, qEQ0, qM0, qM1, qR, qN0, qMM, qNL1, qNL0, qNE1, qNE0, qB1, qB0, qOT, qOF, qGT]
      rfl
  unfold X8_size
  simp (disch := omega) only [qlj, nI_add, pk_mul, qIX, qIN, qOB, qOL, qLE1, qLE0, qLT1, qLT0, qEQ1, qEQ0, qM0, qM1, qR, qN0, qMM, qNL1, qNL0, qNE1, qNE0, qB1, qB0, qOT, qOF, qGT, hl]
theorem c_bc : ∃ e : Int32 → Int32, (∀ x S, J6_bitCount_0f7a4 x S = some (e x, S)) ∧ ∀ s, s < 64 → e (nI s) = nI (qpc s) := by
  refine ⟨fun x => (J6_bitCount_0f7a4 x ((fun _ _ => 0, fun _ _ => 0, fun _ _ => none) : St)).elim 0 (fun q => q.1), fun x S => rfl, ?_⟩
  decide +kernel
theorem c_bitCount {s : Nat} {S : St} (hs : s < 64) : J6_bitCount_0f7a4 (nI s) S = some (nI (qpc s), S) := by
  obtain ⟨e, h1, h2⟩ := c_bc
  rw [h1, h2 s hs]
