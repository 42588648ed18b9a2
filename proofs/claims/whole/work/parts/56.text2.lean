/-! ===== texts: both readers side by side ===== -/
def qW (ch : Nat → Nat) (p : Nat) : Nat → Int64
  | 0 => lN 0
  | i + 1 => lN 27 * qW ch p i + (nI (ch (p + i))).toInt64 - lN 97 + lN 1
theorem qW_v {ch : Nat → Nat} {p : Nat} : ∀ (n : Nat), n ≤ 9 → (∀ i, i < n → 97 ≤ ch (p + i) ∧ ch (p + i) ≤ 122) → qW ch p n = lN (qwv (fun i => ch (p + i)) n) := by
  intro n
  induction n with
  | zero => intro _ _; rfl
  | succ n ih =>
    intro hn h
    have h1 := h n (by omega)
    have h2 : (nI (ch (p + n))).toInt64 = lN (ch (p + n)) := nI_l (show ch (p + n) < 2 ^ 31 by omega)
    rw [qW, ih (by omega) (fun i hi => h i (by omega)), h2, lN_mul, lN_add, lN_sub (by omega), lN_add, qwv]
    congr 1
    omega
theorem r_word {L pos : Nat} {ch : Nat → Nat} {T : St} (hB : TB L ch) (hT : TR L ch T) (hp : pos ≤ L) : X8_word (si T 75 28 (nI pos)) = some (lN (qwd ch pos (qrn L ch 1 pos - pos)), si T 75 28 (nI (qrn L ch 1 pos))) := by
  have hL := hB.1
  obtain ⟨a, b, c, d⟩ := qrn_sp (L := L) (ch := ch) (kd := 1) hp
  generalize hE : qrn L ch 1 pos = E at *
  have hlet : ∀ i, i < E - pos → 97 ≤ ch (pos + i) ∧ ch (pos + i) ≤ 122 := fun i hi => qkd_1.mp (d (pos + i) (by omega) (by omega))
  have hl : X8_word_4L (lN 0, nI 0) (si T 75 28 (nI pos)) = some ((qW ch pos (E - pos), nI (E - pos)), si T 75 28 (nI E)) := by
    unfold X8_word_4L
    have h := lp_for (body := fun (a : Int64 × Int32) (S : St) => X8_word_4 a.1 a.2 S) (b := (qW ch pos (E - pos), nI (E - pos))) (T' := si T 75 28 (nI E)) (E - pos) (fun i => (qW ch pos i, nI i)) (fun i => si T 75 28 (nI (pos + i))) (fun i hi => ?_) ?_
    · exact h
    · have ha := r_at (k := pos + i) hB (hT.s (x := nI (pos + i))) (by omega)
      have hq : qat L ch (pos + i) = ch (pos + i) := by unfold qat; rw [if_pos (by omega)]
      have hc := hlet i hi
      have hlt := r_let (T := si T 75 28 (nI (pos + i))) (c := ch (pos + i)) (by omega)
      rw [if_pos (qkd_1.mpr hc)] at hlt
      rw [hq] at ha
      show X8_word_4 (qW ch pos i) (nI i) (si T 75 28 (nI (pos + i))) = _
      unfold X8_word_4
      simp only [q64]
      simp (disch := omega) only [qlj, nI_add, pk_mul, qIX, qIN, qOB, qOL, qLE1, qLE0, qLT1, qLT0, qEQ1, qEQ0, qM0, qM1, qR, qN0, qMM, qNL1, qNL0, qNE1, qNE0, qB1, qB0, qOT, qOF, qGT, qG1, ha, hlt, o10, si_si]
      rfl
    · rw [show pos + (E - pos) = E by omega]
      have ha := r_at (k := E) hB (hT.s (x := nI E)) (by omega)
      have hq2 := qat_le (k := E) hB
      have hne : qkd (qat L ch E) ≠ 1 := by
        unfold qat
        by_cases h : E < L
        · rw [if_pos h]; exact c h
        · rw [if_neg h, qkd_0]; omega
      have hlt := r_let (T := si T 75 28 (nI E)) (c := qat L ch E) hq2
      rw [if_neg hne] at hlt
      show X8_word_4 (qW ch pos (E - pos)) (nI (E - pos)) (si T 75 28 (nI E)) = _
      unfold X8_word_4
      simp (disch := omega) only [qlj, nI_add, pk_mul, qIX, qIN, qOB, qOL, qLE1, qLE0, qLT1, qLT0, qEQ1, qEQ0, qM0, qM1, qR, qN0, qMM, qNL1, qNL0, qNE1, qNE0, qB1, qB0, qOT, qOF, qGT, qG1, ha, hlt]
  unfold X8_word
  simp only [q64]
  simp (disch := omega) only [qlj, nI_add, pk_mul, qIX, qIN, qOB, qOL, qLE1, qLE0, qLT1, qLT0, qEQ1, qEQ0, qM0, qM1, qR, qN0, qMM, qNL1, qNL0, qNE1, qNE0, qB1, qB0, qOT, qOF, qGT, hl]
  unfold qwd
  by_cases h9 : E - pos ≤ 9
  · rw [if_pos h9]
    simp (disch := omega) only [qlj, nI_add, pk_mul, qIX, qIN, qOB, qOL, qLE1, qLE0, qLT1, qLT0, qEQ1, qEQ0, qM0, qM1, qR, qN0, qMM, qNL1, qNL0, qNE1, qNE0, qB1, qB0, qOT, qOF, qGT]
    rw [qW_v _ h9 hlet]
  · rw [if_neg h9]
    simp (disch := omega) only [qlj, nI_add, pk_mul, qIX, qIN, qOB, qOL, qLE1, qLE0, qLT1, qLT0, qEQ1, qEQ0, qM0, qM1, qR, qN0, qMM, qNL1, qNL0, qNE1, qNE0, qB1, qB0, qOT, qOF, qGT]
def qdv (c : Nat → Nat) : Nat → Nat
  | 0 => 0
  | n + 1 => 10 * qdv c n + (c n - 48)
theorem qdv_lt {c : Nat → Nat} : ∀ (n : Nat), (∀ i, i < n → c i ≤ 57) → qdv c n < 10 ^ n := by
  intro n
  induction n with
  | zero => intro _; show 0 < 1; omega
  | succ n ih =>
    intro h
    have h1 := ih (fun i hi => h i (by omega))
    have h2 := h n (by omega)
    rw [qdv, Nat.pow_succ]
    omega
theorem qdv_5 {c : Nat → Nat} {n : Nat} (hn : n ≤ 5) (h : ∀ i, i < n → c i ≤ 57) : qdv c n < 100000 := by
  have h1 := qdv_lt n h
  have h2 : 10 ^ n ≤ 10 ^ 5 := Nat.pow_le_pow_right (by omega) hn
  omega
theorem qdv_4 {c : Nat → Nat} {n : Nat} (hn : n ≤ 4) (h : ∀ i, i < n → c i ≤ 57) : qdv c n ≤ 9999 := by
  have h1 := qdv_lt n h
  have h2 : 10 ^ n ≤ 10 ^ 4 := Nat.pow_le_pow_right (by omega) hn
  omega
theorem r_num {L pos q : Nat} {ch : Nat → Nat} {T : St} (hB : TB L ch) (hT : TR L ch T) (hp : pos ≤ L) (hq : q < 240) : (1 ≤ qrn L ch 2 (qsk L ch pos) - qsk L ch pos ∧ qrn L ch 2 (qsk L ch pos) - qsk L ch pos ≤ 4 → X8_readsNumber (nI q) (si T 75 28 (nI pos)) = some (nI 1, si (si T 89 q (nI (qdv (fun i => ch (qsk L ch pos + i)) (qrn L ch 2 (qsk L ch pos) - qsk L ch pos)))) 75 28 (nI (qrn L ch 2 (qsk L ch pos))))) ∧ (¬ (1 ≤ qrn L ch 2 (qsk L ch pos) - qsk L ch pos ∧ qrn L ch 2 (qsk L ch pos) - qsk L ch pos ≤ 4) → ∃ v, X8_readsNumber (nI q) (si T 75 28 (nI pos)) = some (nI 0, si (si T 89 q v) 75 28 (nI (qsk L ch pos)))) := by
  have hL := hB.1
  obtain ⟨s1, s2, s3, s4⟩ := qsk_sp (L := L) (ch := ch) hp
  have hsk := r_skip hB hT hp
  generalize hP : qsk L ch pos = p at *
  obtain ⟨a, b, c, d⟩ := qrn_sp (L := L) (ch := ch) (kd := 2) (pos := p) (by omega)
  generalize hE : qrn L ch 2 p = E at *
  have hdig : ∀ i, i < E - p → 48 ≤ ch (p + i) ∧ ch (p + i) ≤ 57 := fun i hi => qkd_2.mp (d (p + i) (by omega) (by omega))
  have hl : X8_readsNumber_11L (nI q) (nI p) (nI 0) (si T 75 28 (nI p)) = some (nI (qdv (fun i => ch (p + i)) (min (E - p) 5)), si T 75 28 (nI (p + min (E - p) 5))) := by
    unfold X8_readsNumber_11L
    have h := lp_for (body := fun (a : Int32) (S : St) => X8_readsNumber_11 (nI q) (nI p) a S) (b := nI (qdv (fun i => ch (p + i)) (min (E - p) 5))) (T' := si T 75 28 (nI (p + min (E - p) 5))) (min (E - p) 5) (fun i => nI (qdv (fun i => ch (p + i)) i)) (fun i => si T 75 28 (nI (p + i))) (fun i hi => ?_) ?_
    · exact h
    · have ha := r_at (k := p + i) hB (hT.s (x := nI (p + i))) (by omega)
      have hqa : qat L ch (p + i) = ch (p + i) := by unfold qat; rw [if_pos (by omega)]
      have hc := hdig i (by omega)
      have hlt := r_dig (T := si T 75 28 (nI (p + i))) (c := ch (p + i)) (by omega)
      rw [if_pos (qkd_2.mpr hc)] at hlt
      rw [hqa] at ha
      have hv := qdv_5 (c := fun i => ch (p + i)) (n := i) (by omega) (fun j hj => (hdig j (by omega)).2)
      show X8_readsNumber_11 (nI q) (nI p) (nI (qdv (fun i => ch (p + i)) i)) (si T 75 28 (nI (p + i))) = _
      rw [qdv]
      unfold X8_readsNumber_11
      simp (disch := omega) only [qlj, nI_add, pk_mul, qIX, qIN, qOB, qOL, qLE1, qLE0, qLT1, qLT0, qEQ1, qEQ0, qM0, qM1, qR, qN0, qMM, qNL1, qNL0, qNE1, qNE0, qB1, qB0, qOT, qOF, qGT, qG1, ha, hlt, o10, si_si, qSUB]
      rw [show 10 * qdv (fun i => ch (p + i)) i + ch (p + i) - 48 = 10 * qdv (fun i => ch (p + i)) i + (ch (p + i) - 48) by omega]
      rfl
    · have ha := r_at (k := p + min (E - p) 5) hB (hT.s (x := nI (p + min (E - p) 5))) (by omega)
      have hq2 := qat_le (k := p + min (E - p) 5) hB
      show X8_readsNumber_11 (nI q) (nI p) _ (si T 75 28 (nI (p + min (E - p) 5))) = _
      have hlt := r_dig (T := si T 75 28 (nI (p + min (E - p) 5))) (c := qat L ch (p + min (E - p) 5)) hq2
      unfold X8_readsNumber_11
      by_cases h5 : E - p ≤ 4
      · have hm : p + min (E - p) 5 = E := by omega
        have hne : qkd (qat L ch E) ≠ 2 := by
          unfold qat
          by_cases h : E < L
          · rw [if_pos h]; exact c h
          · rw [if_neg h, qkd_0]; omega
        rw [hm] at ha hlt ⊢
        rw [if_neg hne] at hlt
        simp (disch := omega) only [qlj, nI_add, pk_mul, qIX, qIN, qOB, qOL, qLE1, qLE0, qLT1, qLT0, qEQ1, qEQ0, qM0, qM1, qR, qN0, qMM, qNL1, qNL0, qNE1, qNE0, qB1, qB0, qOT, qOF, qGT, qG1, ha, hlt]
      · have hm : min (E - p) 5 = 5 := by omega
        have hqa : qat L ch (p + 5) = ch (p + 5) ∨ qat L ch (p + 5) = 0 := by unfold qat; split <;> simp
        rw [hm] at ha hlt ⊢
        by_cases hk : qkd (qat L ch (p + 5)) = 2
        · rw [if_pos hk] at hlt
          simp (disch := omega) only [qlj, nI_add, pk_mul, qIX, qIN, qOB, qOL, qLE1, qLE0, qLT1, qLT0, qEQ1, qEQ0, qM0, qM1, qR, qN0, qMM, qNL1, qNL0, qNE1, qNE0, qB1, qB0, qOT, qOF, qGT, qG1, ha, hlt, o10]
        · rw [if_neg hk] at hlt
          simp (disch := omega) only [qlj, nI_add, pk_mul, qIX, qIN, qOB, qOL, qLE1, qLE0, qLT1, qLT0, qEQ1, qEQ0, qM0, qM1, qR, qN0, qMM, qNL1, qNL0, qNE1, qNE0, qB1, qB0, qOT, qOF, qGT, qG1, ha, hlt]
  have hn5 : min (E - p) 5 ≤ 5 := by omega
  generalize hN : min (E - p) 5 = N at *
  have hc1 : si (si T 75 28 (nI (p + N))) 89 q (nI (qdv (fun i => ch (p + i)) N)) = si (si T 89 q (nI (qdv (fun i => ch (p + i)) N))) 75 28 (nI (p + N)) := si_cm (by omega)
  refine ⟨fun h => ?_, fun h => ?_⟩
  · have hNe : N = E - p := by omega
    unfold X8_readsNumber
    simp (disch := omega) only [qlj, nI_add, pk_mul, qIX, qIN, qOB, qOL, qLE1, qLE0, qLT1, qLT0, qEQ1, qEQ0, qM0, qM1, qR, qN0, qMM, qNL1, qNL0, qNE1, qNE0, qB1, qB0, qOT, qOF, qGT, hsk, qG1, hl, hc1]
    rw [hNe, show p + (E - p) = E by omega]
  · refine ⟨nI (qdv (fun i => ch (p + i)) N), ?_⟩
    unfold X8_readsNumber
    by_cases h0 : N = 0
    · simp (disch := omega) only [qlj, nI_add, pk_mul, qIX, qIN, qOB, qOL, qLE1, qLE0, qLT1, qLT0, qEQ1, qEQ0, qM0, qM1, qR, qN0, qMM, qNL1, qNL0, qNE1, qNE0, qB1, qB0, qOT, qOF, qGT, hsk, qG1, hl, hc1, si_si]
    · have hN5 : N = 5 := by omega
      simp (disch := omega) only [qlj, nI_add, pk_mul, qIX, qIN, qOB, qOL, qLE1, qLE0, qLT1, qLT0, qEQ1, qEQ0, qM0, qM1, qR, qN0, qMM, qNL1, qNL0, qNE1, qNE0, qB1, qB0, qOT, qOF, qGT, hsk, qG1, hl, hc1, si_si]
theorem c_num {L p e : Nat} {ch : Nat → Nat} {S : St} (hB : TB L ch) (hT : TC L ch S) (hp : p ≤ e) (he : e ≤ L) (h4 : e - p ≤ 4) (hd : ∀ i, i < e - p → 48 ≤ ch (p + i) ∧ ch (p + i) ≤ 57) : X6_numberAt (nI p) (nI e) S = some (nI (qdv (fun i => ch (p + i)) (e - p)), S) := by
  have hL := hB.1
  have hl : X6_numberAt_5L (nI e) (nI 0, nI p) S = some (nI (qdv (fun i => ch (p + i)) (e - p)), S) := by
    unfold X6_numberAt_5L
    have h := lp_same (body := fun (a : Int32 × Int32) (S : St) => X6_numberAt_5 (nI e) a.1 a.2 S) (b := nI (qdv (fun i => ch (p + i)) (e - p))) (S := S) (T' := S) (e - p) (fun i => (nI (qdv (fun i => ch (p + i)) i), nI (p + i))) (fun i hi => ?_) ?_
    · exact h
    · have hc := hd i hi
      show X6_numberAt_5 (nI e) (nI (qdv (fun i => ch (p + i)) i)) (nI (p + i)) S = _
      rw [qdv]
      unfold X6_numberAt_5
      simp (disch := omega) only [qlj, nI_add, pk_mul, qIX, qIN, qOB, qOL, qLE1, qLE0, qLT1, qLT0, qEQ1, qEQ0, qM0, qM1, qR, qN0, qMM, qNL1, qNL0, qNE1, qNE0, qB1, qB0, qOT, qOF, qGT, hT.2 (p + i) (by omega), qSUB]
      rw [show 10 * qdv (fun i => ch (p + i)) i + ch (p + i) - 48 = 10 * qdv (fun i => ch (p + i)) i + (ch (p + i) - 48) by omega]
      rfl
    · show X6_numberAt_5 (nI e) _ (nI (p + (e - p))) S = _
      unfold X6_numberAt_5
      simp (disch := omega) only [qlj, nI_add, pk_mul, qIX, qIN, qOB, qOL, qLE1, qLE0, qLT1, qLT0, qEQ1, qEQ0, qM0, qM1, qR, qN0, qMM, qNL1, qNL0, qNE1, qNE0, qB1, qB0, qOT, qOF, qGT]
  unfold X6_numberAt
  simp (disch := omega) only [qlj, nI_add, pk_mul, qIX, qIN, qOB, qOL, qLE1, qLE0, qLT1, qLT0, qEQ1, qEQ0, qM0, qM1, qR, qN0, qMM, qNL1, qNL0, qNE1, qNE0, qB1, qB0, qOT, qOF, qGT, hl]
def FC (S S' : St) : Prop := (∀ a b, ¬ ((a = 68 ∧ b = 4) ∨ a = 71) → gi S' a b = gi S a b) ∧ S'.2.1 = S.2.1
theorem FC.rf {S : St} : FC S S := ⟨fun _ _ _ => rfl, rfl⟩
theorem FC.tr {S T U : St} (h : FC S T) (h2 : FC T U) : FC S U := ⟨fun a b hp => (h2.1 a b hp).trans (h.1 a b hp), h2.2.trans h.2⟩
theorem FC.t {L : Nat} {ch : Nat → Nat} {S S' : St} (h : FC S S') (hT : TC L ch S) : TC L ch S' := ⟨by rw [h.1 _ _ (by omega)]; exact hT.1, fun k hk => by rw [h.1 _ _ (by omega)]; exact hT.2 k hk⟩
def PFr (a b : Nat) : Prop := (a = 75 ∧ (b = 28 ∨ b = 29)) ∨ a = 89
theorem TR.f {L : Nat} {ch : Nat → Nat} {T T' : St} (hT : TR L ch T) (h : Fr PFr T T') : TR L ch T' := ⟨by rw [h.1 _ _ (by unfold PFr; omega)]; exact hT.1, fun k hk => by rw [h.1 _ _ (by unfold PFr; omega)]; exact hT.2 k hk⟩
def cvl (L : Nat) (r : Int32 ⊕ Int32 ⊕ Int32 ⊕ (Option Nat)) : Int32 := match r with
  | .inl q => q
  | .inr (.inl q) => q
  | .inr (.inr (.inl q)) => q
  | .inr (.inr (.inr none)) => -nI 1
  | .inr (.inr (.inr (some _))) => nI L
def rvl (r : Int32 ⊕ Unit ⊕ Unit ⊕ Unit) (T : St) : Int32 := match r with
  | .inl q => q
  | .inr (.inl _) => gi T 75 28
  | .inr (.inr (.inl _)) => gi T 75 28
  | .inr (.inr (.inr _)) => -nI 1
theorem c_sp {L : Nat} {ch : Nat → Nat} {S : St} {o : Option Nat} {g : Int32} {R : (Int32 ⊕ Int32 ⊕ Int32 ⊕ (Option Nat)) × St} (hB : TB L ch) (hT : TC L ch S) : ∀ (d pos : Nat), d = qsk L ch pos - pos → pos ≤ L → X6_parse_14L (o, g, nI (qsk L ch pos)) S = some R → X6_parse_14L (o, g, nI pos) S = some R := by
  have hL := hB.1
  intro d
  induction d with
  | zero =>
    intro pos hd hp h
    have := (qsk_sp (L := L) (ch := ch) hp).1
    rw [show qsk L ch pos = pos by omega] at h
    exact h
  | succ d ih =>
    intro pos hd hp h
    obtain ⟨s1, s2, s3, s4⟩ := qsk_sp (L := L) (ch := ch) hp
    have hc := s4 pos (Nat.le_refl _) (by omega)
    have he : qsk L ch (pos + 1) = qsk L ch pos := by
      obtain ⟨t1, t2, t3, t4⟩ := qsk_sp (L := L) (ch := ch) (pos := pos + 1) (by omega)
      rcases Nat.lt_trichotomy (qsk L ch (pos + 1)) (qsk L ch pos) with x | x | x
      · exact absurd (s4 _ (by omega) x) (t3 (by omega))
      · exact x
      · exact absurd (t4 _ (by omega) x) (s3 (by omega))
    have hgo := ih (pos + 1) (by omega) (by omega) (by rw [he]; exact h)
    unfold X6_parse_14L at hgo ⊢
    refine lp_go ?_ hgo
    have hk : qkd (ch pos) = 0 := by rw [hc]; decide
    have hkk := c_kind (S := S) (c := ch pos) (by omega)
    have hen := c_endOf hB hT (show pos < L by omega)
    rw [hk] at hkk hen
    rw [if_neg (by omega)] at hen
    show X6_parse_14 o g (nI pos) S = _
    unfold X6_parse_14 X6_parse_165
    simp (disch := omega) only [qlj, nI_add, pk_mul, qIX, qIN, qOB, qOL, qLE1, qLE0, qLT1, qLT0, qEQ1, qEQ0, qM0, qM1, qR, qN0, qMM, qNL1, qNL0, qNE1, qNE0, qB1, qB0, qOT, qOF, qGT, hT.1, hT.2 pos (by omega), hkk, hen, qTL0]
theorem q_nm : ∀ c, c < 7 → cmdN c = nI (qnm c) ∧ 1 ≤ qnm c ∧ qnm c ≤ 3 := by decide +kernel
theorem qsk_self {L p : Nat} {ch : Nat → Nat} (hp : p < L) (h : ch p ≠ 32) : qsk L ch p = p := by
  obtain ⟨t1, t2, t3, t4⟩ := qsk_sp (L := L) (ch := ch) (pos := p) (by omega)
  rcases Nat.lt_or_ge p (qsk L ch p) with x | x
  · exact absurd (t4 p (Nat.le_refl _) x) h
  · omega
theorem qkd_z {c : Nat} (h : qkd c = 0) : c = 32 := by
  by_cases h1 : c = 32
  · exact h1
  · exfalso
    unfold qkd at h
    by_cases a : 97 ≤ c ∧ c ≤ 122
    · rw [if_pos a] at h; omega
    · rw [if_neg a] at h
      by_cases b : 48 ≤ c ∧ c ≤ 57
      · rw [if_pos b] at h; omega
      · rw [if_neg b] at h
        by_cases d : c = 59
        · rw [if_pos d] at h; omega
        · rw [if_neg d, if_neg h1] at h; omega
theorem qkd_3 {c : Nat} : qkd c = 3 ↔ c = 59 := by
  constructor
  · intro h
    by_cases d : c = 59
    · exact d
    · exfalso
      unfold qkd at h
      by_cases a : 97 ≤ c ∧ c ≤ 122
      · rw [if_pos a] at h; omega
      · rw [if_neg a] at h
        by_cases b : 48 ≤ c ∧ c ≤ 57
        · rw [if_pos b] at h; omega
        · rw [if_neg b, if_neg d] at h
          by_cases e : c = 32
          · rw [if_pos e] at h; omega
          · rw [if_neg e] at h; omega
  · intro h; rw [h]; decide
/-- the numbers of a command -/
theorem num_phase {L k c : Nat} {ch : Nat → Nat} (hB : TB L ch) (hc : c < 7) (hk : k < 40) : ∀ (j g pos : Nat) (m : Nat → Nat) (S : St), j = qnm c - g → g ≤ qnm c → pos ≤ L → TC L ch S → gi S 68 4 = nI k → (∀ i, i < g → gi S 71 (3 * k + i) = nI (m i)) → (∀ i, i < g → m i ≤ 9999) →
    (∃ p rc S', p ≤ L ∧ X6_parse_14L (some c, nI g, nI pos) S = some (rc, S') ∧ cvl L rc = nI p ∧ FC S S' ∧ gi S' 68 4 = nI k ∧ ∀ T, TR L ch T → gi T 75 29 = nI k → ∃ T', X8_reads_82L (nI (qnm c)) (nI (g + 1)) (si T 75 28 (nI pos)) = some (.inl (), T') ∧ gi T' 75 28 = nI p ∧ Fr PFr T T')
    ∨ (∃ (m' : Nat → Nat) (pos' : Nat) (S' : St), pos + (qnm c - g) ≤ pos' ∧ pos' ≤ L ∧ (∀ i, i < qnm c → m' i ≤ 9999) ∧ gi S' 68 4 = nI k ∧ FC S S' ∧ (∀ y, y < 3 * k → gi S' 71 y = gi S 71 y) ∧ (∀ i, i < qnm c → gi S' 71 (3 * k + i) = nI (m' i)) ∧ S'.2.2 = S.2.2 ∧ (∀ R, X6_parse_14L (some c, nI (qnm c), nI pos') S' = some R → X6_parse_14L (some c, nI g, nI pos) S = some R) ∧ ∀ T, TR L ch T → gi T 75 29 = nI k → (∀ i, i < g → gi T 89 (4 * k + 1 + i) = nI (m i)) → ∃ T', X8_reads_82L (nI (qnm c)) (nI (g + 1)) (si T 75 28 (nI pos)) = some (.inr (), si T' 75 28 (nI pos')) ∧ (∀ i, i < qnm c → gi T' 89 (4 * k + 1 + i) = nI (m' i)) ∧ (∀ y, y ≤ 4 * k → gi T' 89 y = gi T 89 y) ∧ gi T' 75 29 = nI k ∧ Fr PFr T T') := by
  have hL := hB.1
  obtain ⟨nm1, nm2, nm3⟩ := q_nm c hc
  intro j
  induction j with
  | zero =>
    intro g pos m S hj hg hp hT h4 hm hm9
    have hge : g = qnm c := by omega
    subst hge
    refine Or.inr ⟨m, pos, S, by omega, hp, hm9, h4, FC.rf, fun _ _ => rfl, hm, rfl, fun R h => h, fun T hR h29 hTm => ⟨T, ?_, hTm, fun _ _ => rfl, h29, Fr.rf⟩⟩
    unfold X8_reads_82L
    refine lp_end ?_
    show X8_reads_82 (nI (qnm c)) (nI (qnm c + 1)) (si T 75 28 (nI pos)) = _
    unfold X8_reads_82
    simp (disch := omega) only [qlj, nI_add, pk_mul, qIX, qIN, qOB, qOL, qLE1, qLE0, qLT1, qLT0, qEQ1, qEQ0, qM0, qM1, qR, qN0, qMM, qNL1, qNL0, qNE1, qNE0, qB1, qB0, qOT, qOF, qGT]
  | succ j ih =>
    intro g pos m S hj hg hp hT h4 hm hm9
    have hgl : g < qnm c := by omega
    obtain ⟨s1, s2, s3, s4⟩ := qsk_sp (L := L) (ch := ch) hp
    have hsp := fun R => c_sp (o := some c) (g := nI g) (R := R) hB hT _ pos rfl hp
    have hrn := fun (T : St) (hR : TR L ch T) => r_num (q := 4 * k + (g + 1)) hB hR hp (by omega)
    have href : ∀ T, TR L ch T → gi T 75 29 = nI k → gi (si T 75 28 (nI pos)) 75 29 = nI k := fun T _ h => by rw [qG0 (by omega)]; exact h
    generalize hP : qsk L ch pos = p at *
    have hfail : ¬ (1 ≤ qrn L ch 2 p - p ∧ qrn L ch 2 p - p ≤ 4) → ∀ T, TR L ch T → gi T 75 29 = nI k → ∃ T', X8_reads_82L (nI (qnm c)) (nI (g + 1)) (si T 75 28 (nI pos)) = some (.inl (), T') ∧ gi T' 75 28 = nI p ∧ Fr PFr T T' := by
      intro hno T hR h29
      obtain ⟨v, hv⟩ := (hrn T hR).2 hno
      refine ⟨si (si T 89 (4 * k + (g + 1)) v) 75 28 (nI p), ?_, qG1 rfl rfl, (Fr.rf.si (by unfold PFr; omega)).si (by unfold PFr; omega)⟩
      unfold X8_reads_82L
      refine lp_end ?_
      show X8_reads_82 (nI (qnm c)) (nI (g + 1)) (si T 75 28 (nI pos)) = _
      unfold X8_reads_82
      simp (disch := omega) only [qlj, nI_add, pk_mul, qIX, qIN, qOB, qOL, qLE1, qLE0, qLT1, qLT0, qEQ1, qEQ0, qM0, qM1, qR, qN0, qMM, qNL1, qNL0, qNE1, qNE0, qB1, qB0, qOT, qOF, qGT, href T hR h29, hv]
    by_cases hpL : p < L
    · have hcp := hB.2 p hpL
      have hne := s3 hpL
      have hkk := c_kind (S := S) hcp.2
      have hen := c_endOf hB hT hpL
      have hkd := qkd_le (c := ch p)
      have hk0 : qkd (ch p) ≠ 0 := fun h => hne (qkd_z h)
      by_cases h2 : qkd (ch p) = 2
      · obtain ⟨a, b, c', d⟩ := qrn_sp (L := L) (ch := ch) (kd := 2) (pos := p + 1) (by omega)
        have hrs := qrn_s (kd := 2) hpL h2
        rw [h2] at hen hkk
        rw [if_pos (Or.inr rfl)] at hen
        rw [hrs] at hfail hrn
        generalize hE : qrn L ch 2 (p + 1) = E at *
        by_cases h44 : E - p ≤ 4
        · have hdig : ∀ i, i < E - p → 48 ≤ ch (p + i) ∧ ch (p + i) ≤ 57 := fun i hi => by
            by_cases e : i = 0
            · subst e; exact qkd_2.mp h2
            · exact qkd_2.mp (d (p + i) (by omega) (by omega))
          have hnum := c_num hB hT (show p ≤ E by omega) b h44 hdig
          have hv9 := qdv_4 (c := fun i => ch (p + i)) h44 (fun i hi => (hdig i hi).2)
          generalize hV : qdv (fun i => ch (p + i)) (E - p) = V at *
          have hturn : X6_parse_14 (some c) (nI g) (nI p) S = some (.inl (some c, nI (g + 1), nI E), si S 71 (3 * k + g) (nI V)) := by
            have hif : (if nI (p + 1) < nI E then nI E else nI (p + 1)) = nI E := by
              by_cases h : p + 1 < E
              · rw [qTL1 h (by omega)]
              · rw [qTL0 (by omega) (by omega), show p + 1 = E by omega]
            have hosc : ∀ (f : Nat → Option (((Option Nat × Int32 × Int32) ⊕ (Int32 ⊕ Int32 ⊕ Int32 ⊕ (Option Nat))) × St)), os (some c) f = f c := fun f => rfl
            have hno : ∀ (x y : Option (((Option Nat × Int32 × Int32) ⊕ (Int32 ⊕ Int32 ⊕ Int32 ⊕ (Option Nat))) × St)), oi ((some c : Option Nat) = none) x y = y := fun x y => if_neg (by simp)
            have hog : ∀ (x : Option (((Option Nat × Int32 × Int32) ⊕ (Int32 ⊕ Int32 ⊕ Int32 ⊕ (Option Nat))) × St)), og (c < 7) x = x := fun x => if_pos hc
            unfold X6_parse_14 X6_parse_165
            simp (disch := omega) only [qlj, nI_add, pk_mul, qIX, qIN, qOB, qOL, qLE1, qLE0, qLT1, qLT0, qEQ1, qEQ0, qM0, qM1, qR, qN0, qMM, qNL1, qNL0, qNE1, qNE0, qB1, qB0, qOT, qOF, qGT, hT.1, hT.2 p hpL, hkk, hen, hno, hosc, hog, nm1, qSUB, hnum, h4, hif]
          have hg1 : ∀ i, i < g + 1 → gi (si S 71 (3 * k + g) (nI V)) 71 (3 * k + i) = nI (qup m g V i) := fun i hi => by
            by_cases e : i = g
            · subst e; rw [qup_s]; exact qG1 rfl rfl
            · rw [qup_n e, qG0 (by omega)]; exact hm i (by omega)
          have hFC : FC S (si S 71 (3 * k + g) (nI V)) := ⟨fun a b h => qG0 (by omega), rfl⟩
          rcases ih (g + 1) E (qup m g V) (si S 71 (3 * k + g) (nI V)) (by omega) (by omega) b (hFC.t hT) (by rw [qG0 (by omega)]; exact h4) hg1 (fun i hi => by
            by_cases e : i = g
            · subst e; rw [qup_s]; exact hv9
            · rw [qup_n e]; exact hm9 i (by omega)) with ⟨p', rc, S', x1, x2, x3, x4, x5, x6⟩ | ⟨m', pos', S', x1, x2, x3, x4, x5, x6, x7, x8, x9, x10⟩
          · refine Or.inl ⟨p', rc, S', x1, hsp _ (lp_go hturn x2), x3, hFC.tr x4, x5, fun T hR h29 => ?_⟩
            have hok := (hrn T hR).1 ⟨by omega, h44⟩
            obtain ⟨T', y1, y2, y3⟩ := x6 (si T 89 (4 * k + (g + 1)) (nI V)) ⟨hR.1, hR.2⟩ (by rw [qG0 (by omega)]; exact h29)
            refine ⟨T', ?_, y2, (Fr.rf.si (by unfold PFr; omega)).tr y3⟩
            unfold X8_reads_82L at y1 ⊢
            refine lp_go ?_ y1
            show X8_reads_82 (nI (qnm c)) (nI (g + 1)) (si T 75 28 (nI pos)) = _
            unfold X8_reads_82
            simp (disch := omega) only [qlj, nI_add, pk_mul, qIX, qIN, qOB, qOL, qLE1, qLE0, qLT1, qLT0, qEQ1, qEQ0, qM0, qM1, qR, qN0, qMM, qNL1, qNL0, qNE1, qNE0, qB1, qB0, qOT, qOF, qGT, href T hR h29, hok, o10]
          · refine Or.inr ⟨m', pos', S', by omega, x2, x3, x4, hFC.tr x5, fun y hy => by rw [x6 y hy, qG0 (by omega)], x7, x8, fun R hR => hsp _ (lp_go hturn (x9 R hR)), fun T hR h29 hTm => ?_⟩
            have hok := (hrn T hR).1 ⟨by omega, h44⟩
            obtain ⟨T', y1, y2, y3, y4, y5⟩ := x10 (si T 89 (4 * k + (g + 1)) (nI V)) ⟨hR.1, hR.2⟩ (by rw [qG0 (by omega)]; exact h29) (fun i hi => by
              by_cases e : i = g
              · subst e; rw [qup_s]; exact qG1 rfl (by omega)
              · rw [qup_n e, qG0 (by omega)]; exact hTm i (by omega))
            refine ⟨T', ?_, y2, fun y hy => by rw [y3 y hy, qG0 (by omega)], y4, (Fr.rf.si (by unfold PFr; omega)).tr y5⟩
            unfold X8_reads_82L at y1 ⊢
            refine lp_go ?_ y1
            show X8_reads_82 (nI (qnm c)) (nI (g + 1)) (si T 75 28 (nI pos)) = _
            unfold X8_reads_82
            simp (disch := omega) only [qlj, nI_add, pk_mul, qIX, qIN, qOB, qOL, qLE1, qLE0, qLT1, qLT0, qEQ1, qEQ0, qM0, qM1, qR, qN0, qMM, qNL1, qNL0, qNE1, qNE0, qB1, qB0, qOT, qOF, qGT, href T hR h29, hok, o10]
        · refine Or.inl ⟨p, .inr (.inl (nI p)), S, by omega, hsp _ (lp_end ?_), rfl, FC.rf, h4, hfail (by omega)⟩
          have hosc : ∀ (f : Nat → Option (((Option Nat × Int32 × Int32) ⊕ (Int32 ⊕ Int32 ⊕ Int32 ⊕ (Option Nat))) × St)), os (some c) f = f c := fun f => rfl
          have hno : ∀ (x y : Option (((Option Nat × Int32 × Int32) ⊕ (Int32 ⊕ Int32 ⊕ Int32 ⊕ (Option Nat))) × St)), oi ((some c : Option Nat) = none) x y = y := fun x y => if_neg (by simp)
          have hog : ∀ (x : Option (((Option Nat × Int32 × Int32) ⊕ (Int32 ⊕ Int32 ⊕ Int32 ⊕ (Option Nat))) × St)), og (c < 7) x = x := fun x => if_pos hc
          show X6_parse_14 (some c) (nI g) (nI p) S = _
          unfold X6_parse_14 X6_parse_165
          simp (disch := omega) only [qlj, nI_add, pk_mul, qIX, qIN, qOB, qOL, qLE1, qLE0, qLT1, qLT0, qEQ1, qEQ0, qM0, qM1, qR, qN0, qMM, qNL1, qNL0, qNE1, qNE0, qB1, qB0, qOT, qOF, qGT, hT.1, hT.2 p hpL, hkk, hen, hno, hosc, hog, nm1, qSUB]
      · have hq0 : qrn L ch 2 p = p := qrn_un (Nat.le_refl _) (by omega) (fun _ => h2) (fun j a b => by omega)
        refine Or.inl ⟨p, .inr (.inl (nI p)), S, by omega, hsp _ (lp_end ?_), rfl, FC.rf, h4, hfail (by omega)⟩
        have hosc : ∀ (f : Nat → Option (((Option Nat × Int32 × Int32) ⊕ (Int32 ⊕ Int32 ⊕ Int32 ⊕ (Option Nat))) × St)), os (some c) f = f c := fun f => rfl
        have hno : ∀ (x y : Option (((Option Nat × Int32 × Int32) ⊕ (Int32 ⊕ Int32 ⊕ Int32 ⊕ (Option Nat))) × St)), oi ((some c : Option Nat) = none) x y = y := fun x y => if_neg (by simp)
        have hog : ∀ (x : Option (((Option Nat × Int32 × Int32) ⊕ (Int32 ⊕ Int32 ⊕ Int32 ⊕ (Option Nat))) × St)), og (c < 7) x = x := fun x => if_pos hc
        show X6_parse_14 (some c) (nI g) (nI p) S = _
        unfold X6_parse_14 X6_parse_165
        simp (disch := omega) only [qlj, nI_add, pk_mul, qIX, qIN, qOB, qOL, qLE1, qLE0, qLT1, qLT0, qEQ1, qEQ0, qM0, qM1, qR, qN0, qMM, qNL1, qNL0, qNE1, qNE0, qB1, qB0, qOT, qOF, qGT, hT.1, hT.2 p hpL, hkk, hen, hno, hosc, hog, nm1]
    · have hpe : p = L := by omega
      have hq0 : qrn L ch 2 p = p := qrn_un (Nat.le_refl _) (by omega) (fun h => absurd h hpL) (fun j a b => by omega)
      refine Or.inl ⟨p, .inr (.inr (.inr (some c))), S, by omega, hsp _ (lp_end ?_), by rw [hpe]; rfl, FC.rf, h4, hfail (by omega)⟩
      show X6_parse_14 (some c) (nI g) (nI p) S = _
      unfold X6_parse_14
      simp (disch := omega) only [qlj, nI_add, pk_mul, qIX, qIN, qOB, qOL, qLE1, qLE0, qLT1, qLT0, qEQ1, qEQ0, qM0, qM1, qR, qN0, qMM, qNL1, qNL0, qNE1, qNE0, qB1, qB0, qOT, qOF, qGT, hT.1]
