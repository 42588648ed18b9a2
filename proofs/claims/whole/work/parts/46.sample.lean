/-! ===== drawn orders ===== -/
theorem q_ltn {n : Nat} (h : n < 2 ^ 64) : (lN n).toBitVec.toNat = n := by
  show (BitVec.ofNat 64 n).toNat = n
  rw [BitVec.toNat_ofNat, Nat.mod_eq_of_lt h]
theorem q_andL {a : Nat} (ha : a < 2 ^ 63) : lN a &&& lN 2147483647 = lN (a % 2147483648) := by
  have h : a % 2147483648 < 2147483648 := Nat.mod_lt _ (by omega)
  refine Int64.toBitVec_inj.mp (BitVec.eq_of_toNat_eq ?_)
  rw [Int64.toBitVec_and, BitVec.toNat_and, q_ltn (by omega), q_ltn (by omega), q_ltn (by omega)]
  exact Nat.and_two_pow_sub_one_eq_mod a 31
theorem q_shrL {a : Nat} (ha : a < 2147483648) : lN a >>> ((nI 16).toInt64 &&& lN 63) = lN (a / 65536) := by
  have hd : a / 65536 ≤ a := Nat.div_le_self _ _
  apply Int64.toInt_inj.mp
  have e : (lN a >>> ((nI 16).toInt64 &&& lN 63)).toInt = (lN a).toInt >>> 16 := by
    have h16 : (((nI 16).toInt64 &&& lN 63).toBitVec.smod 64).toNat = 16 := by decide +kernel
    rw [← h16]
    exact BitVec.toInt_sshiftRight ..
  rw [e, Int.shiftRight_eq_div_pow, pk_lT (by omega), pk_lT (by omega)]
  rfl
def qlc (x : Nat) : Nat := (1103515245 * x + 12345) % 2147483648
def qswp (o : Nat → Nat) (a b j : Nat) : Nat := if j = b then o a else if j = a then o b else o j
def qshf : Nat → Nat → (Nat → Nat) → Nat × (Nat → Nat)
  | 0, x, o => (x, o)
  | k + 1, x, o => qshf k (qlc x) (qswp o (k + 1) (qlc x / 65536 % (k + 2)))
def qpm (o : Nat → Nat) : Prop := (∀ j, j < 6 → o j < 6) ∧ ∀ f, f < 6 → ∃ j, j < 6 ∧ o j = f
theorem qpm_swp {o : Nat → Nat} {a b : Nat} (h : qpm o) (ha : a < 6) (hb : b < 6) : qpm (qswp o a b) := by
  refine ⟨fun j hj => ?_, fun f hf => ?_⟩
  · unfold qswp
    split
    · exact h.1 a ha
    · split
      · exact h.1 b hb
      · exact h.1 j hj
  · obtain ⟨j, hj, e⟩ := h.2 f hf
    by_cases h1 : j = a
    · exact ⟨b, hb, by unfold qswp; rw [if_pos rfl, ← h1]; exact e⟩
    · by_cases h2 : j = b
      · by_cases h3 : a = b
        · exact absurd (h2.trans h3.symm) h1
        · exact ⟨a, ha, by unfold qswp; rw [if_neg h3, if_pos rfl, ← h2]; exact e⟩
      · exact ⟨j, hj, by unfold qswp; rw [if_neg h2, if_neg h1]; exact e⟩
theorem qlc_lt (x : Nat) : qlc x < 2147483648 := Nat.mod_lt _ (by omega)
theorem qshf_ok : ∀ (k x : Nat) (o : Nat → Nat), k ≤ 5 → x < 2147483648 → qpm o → (qshf k x o).1 < 2147483648 ∧ qpm (qshf k x o).2 := by
  intro k
  induction k with
  | zero => intro x o _ hx ho; exact ⟨hx, ho⟩
  | succ k ih =>
    intro x o hk hx ho
    have := Nat.mod_lt (qlc x / 65536) (show 0 < k + 2 by omega)
    exact ih _ _ (by omega) (qlc_lt x) (qpm_swp ho (by omega) (by omega))
def FrL (P : Nat → Nat → Prop) (S S' : St) : Prop := (∀ a b, ¬ P a b → gi S' a b = gi S a b) ∧ S'.2.2 = S.2.2 ∧ ∀ b, gl S' 90 b = gl S 90 b
theorem FrL.rf {P : Nat → Nat → Prop} {S : St} : FrL P S S := ⟨fun _ _ _ => rfl, rfl, fun _ => rfl⟩
theorem FrL.tr {P : Nat → Nat → Prop} {S T U : St} (h : FrL P S T) (h2 : FrL P T U) : FrL P S U := ⟨fun a b hp => (h2.1 a b hp).trans (h.1 a b hp), h2.2.1.trans h.2.1, fun b => (h2.2.2 b).trans (h.2.2 b)⟩
theorem FrL.mono {P Q : Nat → Nat → Prop} {S T : St} (h : FrL P S T) (hq : ∀ a b, P a b → Q a b) : FrL Q S T := ⟨fun a b hp => h.1 a b (fun hh => hp (hq a b hh)), h.2⟩
theorem Fr.L {P : Nat → Nat → Prop} {S T : St} (h : Fr P S T) : FrL P S T := ⟨h.1, by rw [h.2], fun b => by show T.2.1 90 b = S.2.1 90 b; rw [h.2]⟩
theorem qGL {S : St} {k j : Nat} {v : Int64} : gl (sl S k j v) k j = v := by rw [gl_sl, if_pos ⟨rfl, rfl⟩]
theorem qGS {S : St} {k j a b : Nat} {v : Int32} : gl (si S k j v) a b = gl S a b := rfl
theorem qIL {S : St} {k j a b : Nat} {v : Int64} : gi (sl S k j v) a b = gi S a b := rfl
theorem q_si2 {S : St} {c k b : Nat} {o : Nat → Nat} (h : ∀ j, j < 6 → gi S c j = nI (o j)) (hk : k < 6) (hb : b < 6) : ∀ j, j < 6 → gi (si (si S c k (nI (o b))) c b (nI (o k))) c j = nI (qswp o k b j) := by
  intro j hj
  unfold qswp
  by_cases h1 : j = b
  · rw [if_pos h1, qG1 rfl h1]
  · rw [if_neg h1, qG0 (by omega)]
    by_cases h2 : j = k
    · rw [if_pos h2, qG1 rfl h2]
    · rw [if_neg h2, qG0 (by omega)]; exact h j hj
theorem r_shufL : ∀ (k x : Nat) (o : Nat → Nat) (S : St), k ≤ 5 → x < 2147483648 → gl S 75 24 = lN x → (∀ j, j < 6 → gi S 87 j = nI (o j)) → ∃ S', X8_shuffles_23L (nI k) S = some ((), S') ∧ gl S' 75 24 = lN (qshf k x o).1 ∧ (∀ j, j < 6 → gi S' 87 j = nI ((qshf k x o).2 j)) ∧ FrL (fun a _ => a = 87) S S' := by
  intro k
  induction k with
  | zero =>
    intro x o S _ hx hg ho
    refine ⟨S, lp_end ?_, hg, ho, FrL.rf⟩
    show X8_shuffles_23 (nI 0) S = _
    unfold X8_shuffles_23
    exact if_pos (Int32.le_refl (nI 0))
  | succ k ih =>
    intro x o S hk hx hg ho
    have hq := qlc_lt x
    have hd : qlc x / 65536 ≤ qlc x := Nat.div_le_self _ _
    have hm := Nat.mod_lt (qlc x / 65536) (show 0 < k + 2 by omega)
    have hE : lN (1103515245 * x + 12345) - lN (1103515245 * x + 12345) / lN 2147483648 * lN 2147483648 = lN (qlc x) := pk_lRem (show 1103515245 * x + 12345 < 2 ^ 63 by omega) (by omega) (by omega)
    have hD : lN (qlc x) / lN 65536 = lN (qlc x / 65536) := pk_lDiv (by omega) (by omega) (by omega)
    have hK : (nI (k + 1 + 1)).toInt64 = lN (k + 2) := nI_l (show k + 2 < 2 ^ 31 by omega)
    have hR : lN (qlc x / 65536) - lN (qlc x / 65536) / lN (k + 2) * lN (k + 2) = lN (qlc x / 65536 % (k + 2)) := pk_lRem (by omega) (by omega) (by omega)
    have hne : ¬ lN (k + 2) = lN 0 := fun e => by
      have := (pk_lEQ (show k + 2 < 2 ^ 63 by omega) (show 0 < 2 ^ 63 by omega)).mp e
      omega
    have hog : ∀ (x : Option ((Int32 ⊕ Unit) × St)), og (¬ lN (k + 2) = lN 0) x = x := fun x => if_pos hne
    have hstep : X8_shuffles_23 (nI (k + 1)) S = some (.inl (nI k), si (si (sl S 75 24 (lN (qlc x))) 87 (k + 1) (nI (o (qlc x / 65536 % (k + 2))))) 87 (qlc x / 65536 % (k + 2)) (nI (o (k + 1)))) := by
      unfold X8_shuffles_23
      simp only [q64]
      simp (disch := omega) only [qlj, nI_add, pk_mul, qIX, qIN, qOB, qOL, qLE1, qLE0, qLT1, qLT0, qEQ1, qEQ0, qM0, qM1, qR, qN0, qMM, qNL1, qNL0, qNE1, qNE0, qB1, qB0, qOT, qOF, qGT, hg, lN_mul, lN_add, hE, qGL, hD, hK, hR, lN_i, hog, qIL, ho (k + 1) (by omega), ho (qlc x / 65536 % (k + 2)) (by omega), qM]
      rw [show k + 1 - 1 = k by omega]
    obtain ⟨S', e1, e2, e3, e4⟩ := ih (qlc x) (qswp o (k + 1) (qlc x / 65536 % (k + 2))) _ (by omega) hq (by rw [qGS, qGS, qGL]) (q_si2 (S := sl S 75 24 (lN (qlc x))) (fun j hj => by rw [qIL]; exact ho j hj) (show k + 1 < 6 by omega) (show qlc x / 65536 % (k + 2) < 6 by omega))
    have hF : FrL (fun a _ => a = 87) S (si (si (sl S 75 24 (lN (qlc x))) 87 (k + 1) (nI (o (qlc x / 65536 % (k + 2))))) 87 (qlc x / 65536 % (k + 2)) (nI (o (k + 1)))) := by
      refine ⟨fun a b h => ?_, rfl, fun _ => rfl⟩
      have h' : a ≠ 87 := h
      rw [qG0 (Or.inl h'), qG0 (Or.inl h'), qIL]
    exact ⟨S', lp_go hstep e1, e2, e3, hF.tr e4⟩
theorem r_shuf {x : Nat} {S : St} (hx : x < 2147483648) (hg : gl S 75 24 = lN x) : ∃ S', X8_shuffles S = some ((), S') ∧ gl S' 75 24 = lN (qshf 5 x id).1 ∧ (∀ j, j < 6 → gi S' 87 j = nI ((qshf 5 x id).2 j)) ∧ FrL (fun a _ => a = 87) S S' := by
  have h2 : ∃ b S1, X8_shuffles_2L (nI 0) S = some (b, S1) ∧ ((∀ j, j < 6 → gi S1 87 j = nI j) ∧ Fr (fun a _ => a = 87) S S1) := by
    unfold X8_shuffles_2L
    refine lp_cnt (body := fun (a : Int32) (S : St) => X8_shuffles_2 a S) 6 (fun i a T => a = nI i ∧ (∀ j, j < i → gi T 87 j = nI j) ∧ Fr (fun a _ => a = 87) S T) _ ⟨rfl, fun s hs => absurd hs (Nat.not_lt_zero _), Fr.rf⟩ ?_ ?_
    · rintro i a T hi ⟨rfl, h1, h2⟩
      show ∃ a' S', X8_shuffles_2 (nI i) T = _ ∧ _
      unfold X8_shuffles_2
      simp (disch := omega) only [qlj, nI_add, pk_mul, qIX, qIN, qOB, qOL, qLE1, qLE0, qLT1, qLT0, qEQ1, qEQ0, qM0, qM1, qR, qN0, qMM, qNL1, qNL0, qNE1, qNE0, qB1, qB0, qOT, qOF, qGT]
      refine ⟨_, _, rfl, rfl, fun s hs => ?_, h2.si rfl⟩
      by_cases h : s = i
      · subst h; exact qG1 rfl rfl
      · rw [qG0 (by omega)]; exact h1 s (by omega)
    · rintro a T ⟨rfl, h1, h2⟩
      refine ⟨(), T, ?_, h1, h2⟩
      show X8_shuffles_2 (nI 6) T = _
      unfold X8_shuffles_2
      simp (disch := omega) only [qlj, nI_add, pk_mul, qIX, qIN, qOB, qOL, qLE1, qLE0, qLT1, qLT0, qEQ1, qEQ0, qM0, qM1, qR, qN0, qMM, qNL1, qNL0, qNE1, qNE0, qB1, qB0, qOT, qOF, qGT]
  obtain ⟨b, S1, e1, e2, e3⟩ := h2
  have hg1 : gl S1 75 24 = lN x := by
    have : gl S1 75 24 = gl S 75 24 := by show S1.2.1 75 24 = S.2.1 75 24; rw [e3.2]
    rw [this, hg]
  obtain ⟨S2, f1, f2, f3, f4⟩ := r_shufL 5 x id S1 (by omega) hx hg1 e2
  unfold X8_shuffles
  simp (disch := omega) only [qlj, nI_add, pk_mul, qIX, qIN, qOB, qOL, qLE1, qLE0, qLT1, qLT0, qEQ1, qEQ0, qM0, qM1, qR, qN0, qMM, qNL1, qNL0, qNE1, qNE0, qB1, qB0, qOT, qOF, qGT, e1, f1]
  exact ⟨S2, rfl, f2, f3, e3.L.tr f4⟩
theorem c_drawL : ∀ (k x : Nat) (o : Nat → Nat) (S : St), k ≤ 5 → x < 2147483648 → (∀ j, j < 6 → gi S 74 j = nI (o j)) → ∃ S', X7_drawOrder_26L (lN x, nI k) S = some (lN (qshf k x o).1, S') ∧ (∀ j, j < 6 → gi S' 74 j = nI ((qshf k x o).2 j)) ∧ Fr (fun a _ => a = 74) S S' := by
  intro k
  induction k with
  | zero =>
    intro x o S _ hx ho
    refine ⟨S, lp_end ?_, ho, Fr.rf⟩
    show X7_drawOrder_26 (lN x) (nI 0) S = _
    unfold X7_drawOrder_26
    simp (disch := omega) only [qlj, nI_add, pk_mul, qIX, qIN, qOB, qOL, qLE1, qLE0, qLT1, qLT0, qEQ1, qEQ0, qM0, qM1, qR, qN0, qMM, qNL1, qNL0, qNE1, qNE0, qB1, qB0, qOT, qOF, qGT]
    rfl
  | succ k ih =>
    intro x o S hk hx ho
    have hq := qlc_lt x
    have hd : qlc x / 65536 ≤ qlc x := Nat.div_le_self _ _
    have hm := Nat.mod_lt (qlc x / 65536) (show 0 < k + 2 by omega)
    have hE : lN (1103515245 * x + 12345) &&& lN 2147483647 = lN (qlc x) := q_andL (show 1103515245 * x + 12345 < 2 ^ 63 by omega)
    have hstep : X7_drawOrder_26 (lN x) (nI (k + 1)) S = some (.inl (lN (qlc x), nI k), si (si S 74 (k + 1) (nI (o (qlc x / 65536 % (k + 2))))) 74 (qlc x / 65536 % (k + 2)) (nI (o (k + 1)))) := by
      unfold X7_drawOrder_26
      simp only [q64]
      simp (disch := omega) only [qlj, nI_add, pk_mul, qIX, qIN, qOB, qOL, qLE1, qLE0, qLT1, qLT0, qEQ1, qEQ0, qM0, qM1, qR, qN0, qMM, qNL1, qNL0, qNE1, qNE0, qB1, qB0, qOT, qOF, qGT, lN_mul, lN_add, hE, q_shrL hq, lN_i, qNZ, show nI (k + 1 + 1) = nI (k + 2) from rfl, pk_rem, ho (k + 1) (by omega), ho (qlc x / 65536 % (k + 2)) (by omega), qM]
      rw [show k + 1 - 1 = k by omega]
    obtain ⟨S', e1, e3, e4⟩ := ih (qlc x) (qswp o (k + 1) (qlc x / 65536 % (k + 2))) _ (by omega) hq (q_si2 (S := S) ho (show k + 1 < 6 by omega) (show qlc x / 65536 % (k + 2) < 6 by omega))
    have hF : Fr (fun a _ => a = 74) S (si (si S 74 (k + 1) (nI (o (qlc x / 65536 % (k + 2))))) 74 (qlc x / 65536 % (k + 2)) (nI (o (k + 1)))) := by
      refine Fr.si (Fr.si Fr.rf ?_) ?_ <;> rfl
    exact ⟨S', lp_go hstep e1, e3, hF.tr e4⟩
theorem c_draw {x : Nat} {S : St} (hx : x < 2147483648) : ∃ S', X7_drawOrder (lN x) S = some (lN (qshf 5 x id).1, S') ∧ (∀ j, j < 6 → gi S' 74 j = nI ((qshf 5 x id).2 j)) ∧ Fr (fun a _ => a = 74) S S' := by
  have h2 : ∃ b S1, X7_drawOrder_2L (lN x) (nI 0) S = some (b, S1) ∧ ((∀ j, j < 6 → gi S1 74 j = nI j) ∧ Fr (fun a _ => a = 74) S S1) := by
    unfold X7_drawOrder_2L
    refine lp_cnt (body := fun (a : Int32) (S : St) => X7_drawOrder_2 (lN x) a S) 6 (fun i a T => a = nI i ∧ (∀ j, j < i → gi T 74 j = nI j) ∧ Fr (fun a _ => a = 74) S T) _ ⟨rfl, fun s hs => absurd hs (Nat.not_lt_zero _), Fr.rf⟩ ?_ ?_
    · rintro i a T hi ⟨rfl, h1, h2⟩
      show ∃ a' S', X7_drawOrder_2 (lN x) (nI i) T = _ ∧ _
      unfold X7_drawOrder_2
      simp (disch := omega) only [qlj, nI_add, pk_mul, qIX, qIN, qOB, qOL, qLE1, qLE0, qLT1, qLT0, qEQ1, qEQ0, qM0, qM1, qR, qN0, qMM, qNL1, qNL0, qNE1, qNE0, qB1, qB0, qOT, qOF, qGT]
      refine ⟨_, _, rfl, rfl, fun s hs => ?_, h2.si rfl⟩
      by_cases h : s = i
      · subst h; exact qG1 rfl rfl
      · rw [qG0 (by omega)]; exact h1 s (by omega)
    · rintro a T ⟨rfl, h1, h2⟩
      refine ⟨(), T, ?_, h1, h2⟩
      show X7_drawOrder_2 (lN x) (nI 6) T = _
      unfold X7_drawOrder_2
      simp (disch := omega) only [qlj, nI_add, pk_mul, qIX, qIN, qOB, qOL, qLE1, qLE0, qLT1, qLT0, qEQ1, qEQ0, qM0, qM1, qR, qN0, qMM, qNL1, qNL0, qNE1, qNE0, qB1, qB0, qOT, qOF, qGT]
  obtain ⟨b, S1, e1, e2, e3⟩ := h2
  obtain ⟨S2, f1, f3, f4⟩ := c_drawL 5 x id S1 (by omega) hx e2
  unfold X7_drawOrder
  simp (disch := omega) only [qlj, nI_add, pk_mul, qIX, qIN, qOB, qOL, qLE1, qLE0, qLT1, qLT0, qEQ1, qEQ0, qM0, qM1, qR, qN0, qMM, qNL1, qNL0, qNE1, qNE0, qB1, qB0, qOT, qOF, qGT, e1, f1]
  exact ⟨S2, rfl, f3, e3.tr f4⟩
def qbf (o : Nat → Nat) (f : Nat) : Nat := qfs o (qfnd (fun k => decide (o k = f)) 6)
theorem qbf_ok {o : Nat → Nat} {f : Nat} (h : qpm o) (hf : f < 6) : qfnd (fun k => decide (o k = f)) 6 < 6 ∧ qbf o f < 64 := by
  obtain ⟨j, hj, e⟩ := h.2 f hf
  have h1 := qfnd_ex (P := fun k => decide (o k = f)) hj (by simp [e])
  exact ⟨by omega, qfs_lt (fun p hp => h.1 p (by omega))⟩
theorem r_before {o : Nat → Nat} {f : Nat} {x2 x4 x5 : Int32} {S : St} (ho : ∀ j, j < 6 → gi S 87 j = nI (o j)) (h : qpm o) (hf : f < 6) : X8_sampled_72L (nI f) x2 x4 x5 (nI 0, nI 0) S = some (nI (qbf o f), S) := by
  obtain ⟨h1, h2⟩ := qbf_ok h hf
  obtain ⟨a, b, c⟩ := qfnd_sp (P := fun k => decide (o k = f)) 6
  unfold X8_sampled_72L
  refine lp_same (body := fun (a : Int32 × Int32) (S : St) => X8_sampled_72 (nI f) x2 x4 x5 a.1 a.2 S) (qfnd (fun k => decide (o k = f)) 6) (fun i => (nI (qfs o i), nI i)) (fun i hi => ?_) ?_
  · have hi6 : i < 6 := by omega
    have hoi := h.1 i hi6
    have hne : o i ≠ f := by simpa using c i hi
    have h3 := qfs_lt (f := o) (n := i) (fun p hp => h.1 p (by omega))
    have h4 := q_p64 hoi
    show X8_sampled_72 (nI f) x2 x4 x5 (nI (qfs o i)) (nI i) S = _
    unfold X8_sampled_72
    simp (disch := omega) only [qlj, nI_add, pk_mul, qIX, qIN, qOB, qOL, qLE1, qLE0, qLT1, qLT0, qEQ1, qEQ0, qM0, qM1, qR, qN0, qMM, qNL1, qNL0, qNE1, qNE0, qB1, qB0, qOT, qOF, qGT, ho i hi6, q_shl hoi, q_or]
    rfl
  · have he : o (qfnd (fun k => decide (o k = f)) 6) = f := by simpa using b h1
    have hoi := ho _ h1
    rw [he] at hoi
    show X8_sampled_72 (nI f) x2 x4 x5 _ (nI (qfnd (fun k => decide (o k = f)) 6)) S = _
    unfold X8_sampled_72
    simp (disch := omega) only [qlj, nI_add, pk_mul, qIX, qIN, qOB, qOL, qLE1, qLE0, qLT1, qLT0, qEQ1, qEQ0, qM0, qM1, qR, qN0, qMM, qNL1, qNL0, qNE1, qNE0, qB1, qB0, qOT, qOF, qGT, hoi]
    rfl
theorem c_before {o : Nat → Nat} {f : Nat} {S : St} (ho : ∀ j, j < 6 → gi S 74 j = nI (o j)) (h : qpm o) (hf : f < 6) : X7_flowsBefore (nI f) S = some (nI (qbf o f), S) := by
  obtain ⟨h1, h2⟩ := qbf_ok h hf
  obtain ⟨a, b, c⟩ := qfnd_sp (P := fun k => decide (o k = f)) 6
  have hl : X7_flowsBefore_4L (nI f) (nI 0, nI 0) S = some (nI (qbf o f), S) := by
    unfold X7_flowsBefore_4L
    refine lp_same (body := fun (a : Int32 × Int32) (S : St) => X7_flowsBefore_4 (nI f) a.1 a.2 S) (qfnd (fun k => decide (o k = f)) 6) (fun i => (nI (qfs o i), nI i)) (fun i hi => ?_) ?_
    · have hi6 : i < 6 := by omega
      have hoi := h.1 i hi6
      have hne : o i ≠ f := by simpa using c i hi
      have h3 := qfs_lt (f := o) (n := i) (fun p hp => h.1 p (by omega))
      have h4 := q_p64 hoi
      show X7_flowsBefore_4 (nI f) (nI (qfs o i)) (nI i) S = _
      unfold X7_flowsBefore_4
      simp (disch := omega) only [qlj, nI_add, pk_mul, qIX, qIN, qOB, qOL, qLE1, qLE0, qLT1, qLT0, qEQ1, qEQ0, qM0, qM1, qR, qN0, qMM, qNL1, qNL0, qNE1, qNE0, qB1, qB0, qOT, qOF, qGT, ho i hi6, q_shl hoi, q_or]
      rfl
    · have he : o (qfnd (fun k => decide (o k = f)) 6) = f := by simpa using b h1
      have hoi := ho _ h1
      rw [he] at hoi
      show X7_flowsBefore_4 (nI f) _ (nI (qfnd (fun k => decide (o k = f)) 6)) S = _
      unfold X7_flowsBefore_4
      simp (disch := omega) only [qlj, nI_add, pk_mul, qIX, qIN, qOB, qOL, qLE1, qLE0, qLT1, qLT0, qEQ1, qEQ0, qM0, qM1, qR, qN0, qMM, qNL1, qNL0, qNE1, qNE0, qB1, qB0, qOT, qOF, qGT, hoi]
      rfl
  unfold X7_flowsBefore
  simp (disch := omega) only [qlj, nI_add, pk_mul, qIX, qIN, qOB, qOL, qLE1, qLE0, qLT1, qLT0, qEQ1, qEQ0, qM0, qM1, qR, qN0, qMM, qNL1, qNL0, qNE1, qNE0, qB1, qB0, qOT, qOF, qGT, hl]
def qsa (W : Nat → Nat) (f x0 : Nat) : Nat → Nat × Int32
  | 0 => (x0, nI 0)
  | n + 1 => ((qshf 5 (qsa W f x0 n).1 id).1, (qsa W f x0 n).2 + (nI (W (qbf (qshf 5 (qsa W f x0 n).1 id).2 f ||| 2 ^ f)) - nI (W (qbf (qshf 5 (qsa W f x0 n).1 id).2 f))))
theorem qpm_id : qpm id := ⟨fun j hj => hj, fun f hf => ⟨f, hf, rfl⟩⟩
theorem qsa_lt {W : Nat → Nat} {f x0 : Nat} (h : x0 < 2147483648) : ∀ n, (qsa W f x0 n).1 < 2147483648 := by
  intro n
  induction n with
  | zero => exact h
  | succ n ih => exact (qshf_ok 5 _ id (by omega) ih qpm_id).1
theorem r_sample {W : Nat → Nat} {f x0 n : Nat} {S : St} (hw : ∀ s, s < 64 → gi S 86 s = nI (W s)) (hf : f < 6) (hx : x0 < 2147483648) (hn : n ≤ 100) (hg : gl S 75 24 = lN x0) : ∃ S', X8_sampled_56L (nI f) (nI n) (nI 0, nI 0) S = some ((qsa W f x0 n).2, S') ∧ FrL (fun a _ => a = 87) S S' := by
  have key : ∃ b S', X8_sampled_56L (nI f) (nI n) (nI 0, nI 0) S = some (b, S') ∧ (b = (qsa W f x0 n).2 ∧ FrL (fun a _ => a = 87) S S') := by
    unfold X8_sampled_56L
    refine lp_cnt (body := fun (a : Int32 × Int32) (S : St) => X8_sampled_56 (nI f) (nI n) a.1 a.2 S) n (fun i a T => a = ((qsa W f x0 i).2, nI i) ∧ gl T 75 24 = lN (qsa W f x0 i).1 ∧ FrL (fun a _ => a = 87) S T) _ ⟨rfl, hg, FrL.rf⟩ ?_ ?_
    · rintro i a T hi ⟨rfl, h1, h2⟩
      have hxi := qsa_lt (W := W) (f := f) hx i
      obtain ⟨T1, e1, e2, e3, e4⟩ := r_shuf hxi h1
      have hpm := (qshf_ok 5 _ id (by omega) hxi qpm_id).2
      have hbf := qbf_ok hpm hf
      have hb := r_before (x2 := nI n) (x4 := (qsa W f x0 i).2) (x5 := nI i) e3 hpm hf
      have h64 := q_or64 hbf.2 hf
      have hp64 := q_p64 hf
      have g : ∀ s, s < 64 → gi T1 86 s = nI (W s) := fun s hs => by rw [e4.1 86 s (by omega), h2.1 86 s (by omega)]; exact hw s hs
      show ∃ a' S', X8_sampled_56 (nI f) (nI n) (qsa W f x0 i).2 (nI i) T = _ ∧ _
      unfold X8_sampled_56
      have hb2 := hbf.2
      simp (disch := omega) only [qlj, nI_add, pk_mul, qIX, qIN, qOB, qOL, qLE1, qLE0, qLT1, qLT0, qEQ1, qEQ0, qM0, qM1, qR, qN0, qMM, qNL1, qNL0, qNE1, qNE0, qB1, qB0, qOT, qOF, qGT, e1, hb, q_shl hf, q_or, g _ h64, g _ hbf.2]
      exact ⟨_, T1, rfl, rfl, e2, h2.tr e4⟩
    · rintro a T ⟨rfl, h1, h2⟩
      refine ⟨_, T, ?_, rfl, h2⟩
      show X8_sampled_56 (nI f) (nI n) _ (nI n) T = _
      unfold X8_sampled_56
      simp (disch := omega) only [qlj, nI_add, pk_mul, qIX, qIN, qOB, qOL, qLE1, qLE0, qLT1, qLT0, qEQ1, qEQ0, qM0, qM1, qR, qN0, qMM, qNL1, qNL0, qNE1, qNE0, qB1, qB0, qOT, qOF, qGT]
  obtain ⟨b, S', e1, e2, e3⟩ := key
  exact ⟨S', by rw [e1, e2], e3⟩
theorem c_sample {W : Nat → Nat} {f x0 n : Nat} {S : St} (hw : ∀ s, s < 64 → gi S 72 s = nI (W s)) (hf : f < 6) (hx : x0 < 2147483648) (hn : n ≤ 100) : ∃ S', X7_sampled_44L (nI f) (nI n) (lN x0, nI 0, nI 0) S = some ((qsa W f x0 n).2, S') ∧ Fr (fun a _ => a = 74) S S' := by
  have key : ∃ b S', X7_sampled_44L (nI f) (nI n) (lN x0, nI 0, nI 0) S = some (b, S') ∧ (b = (qsa W f x0 n).2 ∧ Fr (fun a _ => a = 74) S S') := by
    unfold X7_sampled_44L
    refine lp_cnt (body := fun (a : Int64 × Int32 × Int32) (S : St) => X7_sampled_44 (nI f) (nI n) a.1 a.2.1 a.2.2 S) n (fun i a T => a = (lN (qsa W f x0 i).1, (qsa W f x0 i).2, nI i) ∧ Fr (fun a _ => a = 74) S T) _ ⟨rfl, Fr.rf⟩ ?_ ?_
    · rintro i a T hi ⟨rfl, h2⟩
      have hxi := qsa_lt (W := W) (f := f) hx i
      obtain ⟨T1, e1, e3, e4⟩ := c_draw (S := T) hxi
      have hpm := (qshf_ok 5 _ id (by omega) hxi qpm_id).2
      have hbf := qbf_ok hpm hf
      have hb := c_before e3 hpm hf
      have h64 := q_or64 hbf.2 hf
      have hp64 := q_p64 hf
      have g : ∀ s, s < 64 → gi T1 72 s = nI (W s) := fun s hs => by rw [e4.1 72 s (by omega), h2.1 72 s (by omega)]; exact hw s hs
      have hb2 := hbf.2
      have hct : X7_contributionTo (nI (qbf (qshf 5 (qsa W f x0 i).1 id).2 f)) (nI f) T1 = some (nI (W (qbf (qshf 5 (qsa W f x0 i).1 id).2 f ||| 2 ^ f)) - nI (W (qbf (qshf 5 (qsa W f x0 i).1 id).2 f)), T1) := by
        unfold X7_contributionTo
        simp (disch := omega) only [qlj, nI_add, pk_mul, qIX, qIN, qOB, qOL, qLE1, qLE0, qLT1, qLT0, qEQ1, qEQ0, qM0, qM1, qR, qN0, qMM, qNL1, qNL0, qNE1, qNE0, qB1, qB0, qOT, qOF, qGT, q_shl hf, q_or, g _ h64, g _ hbf.2]
      show ∃ a' S', X7_sampled_44 (nI f) (nI n) (lN (qsa W f x0 i).1) (qsa W f x0 i).2 (nI i) T = _ ∧ _
      unfold X7_sampled_44
      simp (disch := omega) only [qlj, nI_add, pk_mul, qIX, qIN, qOB, qOL, qLE1, qLE0, qLT1, qLT0, qEQ1, qEQ0, qM0, qM1, qR, qN0, qMM, qNL1, qNL0, qNE1, qNE0, qB1, qB0, qOT, qOF, qGT, e1, hb, hct]
      exact ⟨_, T1, rfl, rfl, h2.tr e4⟩
    · rintro a T ⟨rfl, h2⟩
      refine ⟨_, T, ?_, rfl, h2⟩
      show X7_sampled_44 (nI f) (nI n) _ _ (nI n) T = _
      unfold X7_sampled_44
      simp (disch := omega) only [qlj, nI_add, pk_mul, qIX, qIN, qOB, qOL, qLE1, qLE0, qLT1, qLT0, qEQ1, qEQ0, qM0, qM1, qR, qN0, qMM, qNL1, qNL0, qNE1, qNE0, qB1, qB0, qOT, qOF, qGT]
  obtain ⟨b, S', e1, e2, e3⟩ := key
  exact ⟨S', by rw [e1, e2], e3⟩
