/-! ===== texts: characters, words, numbers ===== -/
theorem si_self {S : St} {k j : Nat} {x : Int32} (h : gi S k j = x) : si S k j x = S := by
  refine Prod.ext ?_ rfl
  funext a b
  show gi (si S k j x) a b = gi S a b
  rw [gi_si]
  by_cases e : a = k ∧ b = j
  · rw [if_pos e, e.1, e.2, h]
  · rw [if_neg e]
theorem si_si {S : St} {k j : Nat} {x y : Int32} : si (si S k j x) k j y = si S k j y := by
  refine Prod.ext ?_ rfl
  funext a b
  show gi (si (si S k j x) k j y) a b = gi (si S k j y) a b
  rw [gi_si, gi_si, gi_si]
  by_cases e : a = k ∧ b = j
  · rw [if_pos e, if_pos e]
  · rw [if_neg e, if_neg e, if_neg e]
theorem si_cm {S : St} {k j k' j' : Nat} {x y : Int32} (h : k ≠ k') : si (si S k j x) k' j' y = si (si S k' j' y) k j x := by
  refine Prod.ext ?_ rfl
  funext a b
  show gi (si (si S k j x) k' j' y) a b = gi (si (si S k' j' y) k j x) a b
  rw [gi_si, gi_si, gi_si, gi_si]
  by_cases e : a = k' ∧ b = j'
  · rw [if_pos e, if_neg (by omega), if_pos e]
  · rw [if_neg e, if_neg e]
def qkd (c : Nat) : Nat := if 97 ≤ c ∧ c ≤ 122 then 1 else if 48 ≤ c ∧ c ≤ 57 then 2 else if c = 59 then 3 else if c = 32 then 0 else 4
def qsk (L : Nat) (ch : Nat → Nat) (pos : Nat) : Nat := pos + qfnd (fun i => decide (ch (pos + i) ≠ 32)) (L - pos)
def qrn (L : Nat) (ch : Nat → Nat) (kd pos : Nat) : Nat := pos + qfnd (fun i => decide (qkd (ch (pos + i)) ≠ kd)) (L - pos)
theorem qsk_sp {L : Nat} {ch : Nat → Nat} {pos : Nat} (h : pos ≤ L) : pos ≤ qsk L ch pos ∧ qsk L ch pos ≤ L ∧ (qsk L ch pos < L → ch (qsk L ch pos) ≠ 32) ∧ ∀ j, pos ≤ j → j < qsk L ch pos → ch j = 32 := by
  obtain ⟨a, b, c⟩ := qfnd_sp (P := fun i => decide (ch (pos + i) ≠ 32)) (L - pos)
  unfold qsk
  refine ⟨by omega, by omega, fun h1 => by simpa using b (by omega), fun j h1 h2 => ?_⟩
  have := c (j - pos) (by omega)
  rw [show pos + (j - pos) = j by omega] at this
  simpa using this
theorem qrn_sp {L : Nat} {ch : Nat → Nat} {kd pos : Nat} (h : pos ≤ L) : pos ≤ qrn L ch kd pos ∧ qrn L ch kd pos ≤ L ∧ (qrn L ch kd pos < L → qkd (ch (qrn L ch kd pos)) ≠ kd) ∧ ∀ j, pos ≤ j → j < qrn L ch kd pos → qkd (ch j) = kd := by
  obtain ⟨a, b, c⟩ := qfnd_sp (P := fun i => decide (qkd (ch (pos + i)) ≠ kd)) (L - pos)
  unfold qrn
  refine ⟨by omega, by omega, fun h1 => by simpa using b (by omega), fun j h1 h2 => ?_⟩
  have := c (j - pos) (by omega)
  rw [show pos + (j - pos) = j by omega] at this
  simpa using this
theorem qrn_un {L : Nat} {ch : Nat → Nat} {kd pos e : Nat} (h : pos ≤ e) (h2 : e ≤ L) (h3 : e < L → qkd (ch e) ≠ kd) (h4 : ∀ j, pos ≤ j → j < e → qkd (ch j) = kd) : qrn L ch kd pos = e := by
  obtain ⟨a, b, c, d⟩ := qrn_sp (L := L) (ch := ch) (kd := kd) (pos := pos) (by omega)
  rcases Nat.lt_trichotomy (qrn L ch kd pos) e with x | x | x
  · exact absurd (h4 _ a x) (c (by omega))
  · exact x
  · exact absurd (d e h x) (h3 (by omega))
theorem qrn_s {L : Nat} {ch : Nat → Nat} {kd pos : Nat} (h : pos < L) (hk : qkd (ch pos) = kd) : qrn L ch kd pos = qrn L ch kd (pos + 1) := by
  obtain ⟨a, b, c, d⟩ := qrn_sp (L := L) (ch := ch) (kd := kd) (pos := pos + 1) (by omega)
  refine qrn_un (by omega) b c (fun j h1 h2 => ?_)
  by_cases e : j = pos
  · rw [e]; exact hk
  · exact d j (by omega) h2
def TC (L : Nat) (ch : Nat → Nat) (S : St) : Prop := gi S 68 1 = nI L ∧ ∀ k, k < L → gi S 69 k = nI (ch k)
def TR (L : Nat) (ch : Nat → Nat) (T : St) : Prop := gi T 75 27 = nI L ∧ ∀ k, k < L → gi T 88 k = nI (ch k)
def TB (L : Nat) (ch : Nat → Nat) : Prop := L ≤ 120 ∧ ∀ k, k < L → 32 ≤ ch k ∧ ch k ≤ 126
theorem c_kind {c : Nat} {S : St} (hc : c ≤ 126) : X6_kindOf (nI c) S = some (nI (qkd c), S) := by
  have h28 : X6_kindOf_28 (nI c) S = some (nI (if c = 59 then 3 else if c = 32 then 0 else 4), S) := by
    unfold X6_kindOf_28
    by_cases h1 : c = 59
    · rw [if_pos h1]; simp (disch := omega) only [qlj, nI_add, pk_mul, qIX, qIN, qOB, qOL, qLE1, qLE0, qLT1, qLT0, qEQ1, qEQ0, qM0, qM1, qR, qN0, qMM, qNL1, qNL0, qNE1, qNE0, qB1, qB0, qOT, qOF, qGT]
    · rw [if_neg h1]
      by_cases h2 : c = 32
      · rw [if_pos h2]; simp (disch := omega) only [qlj, nI_add, pk_mul, qIX, qIN, qOB, qOL, qLE1, qLE0, qLT1, qLT0, qEQ1, qEQ0, qM0, qM1, qR, qN0, qMM, qNL1, qNL0, qNE1, qNE0, qB1, qB0, qOT, qOF, qGT]
      · rw [if_neg h2]; simp (disch := omega) only [qlj, nI_add, pk_mul, qIX, qIN, qOB, qOL, qLE1, qLE0, qLT1, qLT0, qEQ1, qEQ0, qM0, qM1, qR, qN0, qMM, qNL1, qNL0, qNE1, qNE0, qB1, qB0, qOT, qOF, qGT]
  have h14 : X6_kindOf_14 (nI c) S = some (nI (if 48 ≤ c ∧ c ≤ 57 then 2 else if c = 59 then 3 else if c = 32 then 0 else 4), S) := by
    unfold X6_kindOf_14
    by_cases h1 : c < 48
    · rw [if_neg (by omega)]; simp (disch := omega) only [qlj, nI_add, pk_mul, qIX, qIN, qOB, qOL, qLE1, qLE0, qLT1, qLT0, qEQ1, qEQ0, qM0, qM1, qR, qN0, qMM, qNL1, qNL0, qNE1, qNE0, qB1, qB0, qOT, qOF, qGT, h28]
    · by_cases h2 : 57 < c
      · rw [if_neg (by omega)]; simp (disch := omega) only [qlj, nI_add, pk_mul, qIX, qIN, qOB, qOL, qLE1, qLE0, qLT1, qLT0, qEQ1, qEQ0, qM0, qM1, qR, qN0, qMM, qNL1, qNL0, qNE1, qNE0, qB1, qB0, qOT, qOF, qGT, h28]
      · rw [if_pos (by omega)]; simp (disch := omega) only [qlj, nI_add, pk_mul, qIX, qIN, qOB, qOL, qLE1, qLE0, qLT1, qLT0, qEQ1, qEQ0, qM0, qM1, qR, qN0, qMM, qNL1, qNL0, qNE1, qNE0, qB1, qB0, qOT, qOF, qGT]
  unfold X6_kindOf qkd
  by_cases h1 : c < 97
  · rw [if_neg (by omega)]; simp (disch := omega) only [qlj, nI_add, pk_mul, qIX, qIN, qOB, qOL, qLE1, qLE0, qLT1, qLT0, qEQ1, qEQ0, qM0, qM1, qR, qN0, qMM, qNL1, qNL0, qNE1, qNE0, qB1, qB0, qOT, qOF, qGT, h14]
  · by_cases h2 : 122 < c
    · rw [if_neg (by omega)]; simp (disch := omega) only [qlj, nI_add, pk_mul, qIX, qIN, qOB, qOL, qLE1, qLE0, qLT1, qLT0, qEQ1, qEQ0, qM0, qM1, qR, qN0, qMM, qNL1, qNL0, qNE1, qNE0, qB1, qB0, qOT, qOF, qGT, h14]
    · rw [if_pos (by omega)]; simp (disch := omega) only [qlj, nI_add, pk_mul, qIX, qIN, qOB, qOL, qLE1, qLE0, qLT1, qLT0, qEQ1, qEQ0, qM0, qM1, qR, qN0, qMM, qNL1, qNL0, qNE1, qNE0, qB1, qB0, qOT, qOF, qGT]
theorem qkd_le {c : Nat} : qkd c ≤ 4 := by
  unfold qkd
  split
  · omega
  · split
    · omega
    · split
      · omega
      · split <;> omega
theorem c_endOf {L p : Nat} {ch : Nat → Nat} {S : St} (hB : TB L ch) (hT : TC L ch S) (hp : p < L) : X6_endOf (nI p) (nI (qkd (ch p))) S = some (nI (if qkd (ch p) = 1 ∨ qkd (ch p) = 2 then qrn L ch (qkd (ch p)) (p + 1) else p + 1), S) := by
  have hL := hB.1
  have hk := qkd_le (c := ch p)
  unfold X6_endOf
  by_cases h : qkd (ch p) = 1 ∨ qkd (ch p) = 2
  · rw [if_pos h]
    obtain ⟨a, b, c, d⟩ := qrn_sp (L := L) (ch := ch) (kd := qkd (ch p)) (pos := p + 1) (by omega)
    generalize hE : qrn L ch (qkd (ch p)) (p + 1) = E at *
    have h4 : ∀ x : Int32, X6_endOf_4 (nI (qkd (ch p))) x S = X6_endOf_14 (nI (qkd (ch p))) x S := by
      intro x
      unfold X6_endOf_4
      rcases h with h | h
      · simp (disch := omega) only [qlj, nI_add, pk_mul, qIX, qIN, qOB, qOL, qLE1, qLE0, qLT1, qLT0, qEQ1, qEQ0, qM0, qM1, qR, qN0, qMM, qNL1, qNL0, qNE1, qNE0, qB1, qB0, qOT, qOF, qGT]
      · simp (disch := omega) only [qlj, nI_add, pk_mul, qIX, qIN, qOB, qOL, qLE1, qLE0, qLT1, qLT0, qEQ1, qEQ0, qM0, qM1, qR, qN0, qMM, qNL1, qNL0, qNE1, qNE0, qB1, qB0, qOT, qOF, qGT]
    have hl : X6_endOf_4L (nI (qkd (ch p))) (nI (p + 1)) S = some (nI E, S) := by
      unfold X6_endOf_4L
      have h := lp_same (body := fun (a : Int32) (S : St) => X6_endOf_4 (nI (qkd (ch p))) a S) (b := nI E) (S := S) (T' := S) (E - (p + 1)) (fun i => nI (p + 1 + i)) (fun i hi => ?_) ?_
      · exact h
      · have hc := hB.2 (p + 1 + i) (by omega)
        have hd := d (p + 1 + i) (by omega) (by omega)
        have hkk := c_kind (S := S) hc.2
        rw [hd] at hkk
        show X6_endOf_4 (nI (qkd (ch p))) (nI (p + 1 + i)) S = _
        rw [h4]
        unfold X6_endOf_14
        simp (disch := omega) only [qlj, nI_add, pk_mul, qIX, qIN, qOB, qOL, qLE1, qLE0, qLT1, qLT0, qEQ1, qEQ0, qM0, qM1, qR, qN0, qMM, qNL1, qNL0, qNE1, qNE0, qB1, qB0, qOT, qOF, qGT, hT.1, hT.2 (p + 1 + i) (by omega), hkk] <;> rfl
      · rw [show p + 1 + (E - (p + 1)) = E by omega]
        show X6_endOf_4 (nI (qkd (ch p))) (nI E) S = _
        rw [h4]
        unfold X6_endOf_14
        by_cases hEL : E < L
        · have hc := hB.2 E hEL
          have hkE := qkd_le (c := ch E)
          have hne := c hEL
          simp (disch := omega) only [qlj, nI_add, pk_mul, qIX, qIN, qOB, qOL, qLE1, qLE0, qLT1, qLT0, qEQ1, qEQ0, qM0, qM1, qR, qN0, qMM, qNL1, qNL0, qNE1, qNE0, qB1, qB0, qOT, qOF, qGT, hT.1, hT.2 E hEL, c_kind hc.2]
        · simp (disch := omega) only [qlj, nI_add, pk_mul, qIX, qIN, qOB, qOL, qLE1, qLE0, qLT1, qLT0, qEQ1, qEQ0, qM0, qM1, qR, qN0, qMM, qNL1, qNL0, qNE1, qNE0, qB1, qB0, qOT, qOF, qGT, hT.1]
    simp (disch := omega) only [qlj, nI_add, pk_mul, qIX, qIN, qOB, qOL, qLE1, qLE0, qLT1, qLT0, qEQ1, qEQ0, qM0, qM1, qR, qN0, qMM, qNL1, qNL0, qNE1, qNE0, qB1, qB0, qOT, qOF, qGT, hl]
  · rw [if_neg h]
    have hl : X6_endOf_4L (nI (qkd (ch p))) (nI (p + 1)) S = some (nI (p + 1), S) := by
      unfold X6_endOf_4L
      refine lp_end ?_
      show X6_endOf_4 (nI (qkd (ch p))) (nI (p + 1)) S = _
      unfold X6_endOf_4
      simp (disch := omega) only [qlj, nI_add, pk_mul, qIX, qIN, qOB, qOL, qLE1, qLE0, qLT1, qLT0, qEQ1, qEQ0, qM0, qM1, qR, qN0, qMM, qNL1, qNL0, qNE1, qNE0, qB1, qB0, qOT, qOF, qGT]
    simp (disch := omega) only [qlj, nI_add, pk_mul, qIX, qIN, qOB, qOL, qLE1, qLE0, qLT1, qLT0, qEQ1, qEQ0, qM0, qM1, qR, qN0, qMM, qNL1, qNL0, qNE1, qNE0, qB1, qB0, qOT, qOF, qGT, hl]
/-! ===== words ===== -/
def qwm (ch : Nat → Nat) (w p e : Nat) : Bool := decide (wLn w = e - p ∧ ∀ i, i < wLn w → wCh w i = nI (ch (p + i)))
theorem q_wln : ∀ w, w < 7 → 4 ≤ wLn w ∧ wLn w ≤ 9 := by decide +kernel
theorem c_wordAt {L p e w : Nat} {ch : Nat → Nat} {S : St} (hB : TB L ch) (hT : TC L ch S) (hp : p ≤ e) (he : e ≤ L) (hw : w < 7) : X6_isWordAt w (nI p) (nI e) S = some (if qwm ch w p e = true then nI 1 else nI 0, S) := by
  have hL := hB.1
  have hl := q_wln w hw
  unfold X6_isWordAt
  by_cases h1 : wLn w = e - p
  · obtain ⟨a, b, c⟩ := qfnd_sp (P := fun i => decide (wCh w i ≠ nI (ch (p + i)))) (wLn w)
    have hin : ∀ i, i < wLn w → gi S 69 (p + i) = nI (ch (p + i)) := fun i hi => hT.2 _ (by omega)
    have hloop : X6_isWordAt_15L w (nI p) (nI 0) S = some (if qfnd (fun i => decide (wCh w i ≠ nI (ch (p + i)))) (wLn w) < wLn w then .inl () else .inr (), S) := by
      unfold X6_isWordAt_15L
      refine lp_same (body := fun (a : Int32) (S : St) => X6_isWordAt_15 w (nI p) a S) (qfnd (fun i => decide (wCh w i ≠ nI (ch (p + i)))) (wLn w)) (fun i => nI i) (fun i hi => ?_) ?_
      · have hm : wCh w i = nI (ch (p + i)) := by simpa using c i hi
        show X6_isWordAt_15 w (nI p) (nI i) S = _
        unfold X6_isWordAt_15
        simp (disch := omega) only [qlj, nI_add, pk_mul, qIX, qIN, qOB, qOL, qLE1, qLE0, qLT1, qLT0, qEQ1, qEQ0, qM0, qM1, qR, qN0, qMM, qNL1, qNL0, qNE1, qNE0, qB1, qB0, qOT, qOF, qGT, hin i (by omega), hm]
      · generalize hQ : qfnd (fun i => decide (wCh w i ≠ nI (ch (p + i)))) (wLn w) = Q at *
        show X6_isWordAt_15 w (nI p) (nI Q) S = _
        unfold X6_isWordAt_15
        by_cases hq : Q < wLn w
        · rw [if_pos hq]
          have hm : wCh w Q ≠ nI (ch (p + Q)) := by simpa using b hq
          have hne : ∀ (x y : Option ((Int32 ⊕ (Unit ⊕ Unit)) × St)), oi (wCh w Q = nI (ch (p + Q))) x y = y := fun x y => if_neg hm
          simp (disch := omega) only [qlj, nI_add, pk_mul, qIX, qIN, qOB, qOL, qLE1, qLE0, qLT1, qLT0, qEQ1, qEQ0, qM0, qM1, qR, qN0, qMM, qNL1, qNL0, qNE1, qNE0, qB1, qB0, qOT, qOF, qGT, hin Q hq, hne]
        · rw [if_neg hq]
          simp (disch := omega) only [qlj, nI_add, pk_mul, qIX, qIN, qOB, qOL, qLE1, qLE0, qLT1, qLT0, qEQ1, qEQ0, qM0, qM1, qR, qN0, qMM, qNL1, qNL0, qNE1, qNE0, qB1, qB0, qOT, qOF, qGT]
    simp (disch := omega) only [qlj, nI_add, pk_mul, qIX, qIN, qOB, qOL, qLE1, qLE0, qLT1, qLT0, qEQ1, qEQ0, qM0, qM1, qR, qN0, qMM, qNL1, qNL0, qNE1, qNE0, qB1, qB0, qOT, qOF, qGT, qSUB, hloop]
    by_cases hq : qfnd (fun i => decide (wCh w i ≠ nI (ch (p + i)))) (wLn w) < wLn w
    · rw [if_pos hq]
      have hm := of_decide_eq_true (b hq)
      rw [if_neg (fun h => by
        have h2 : wLn w = e - p ∧ ∀ i, i < wLn w → wCh w i = nI (ch (p + i)) := of_decide_eq_true h
        exact hm (h2.2 _ hq))]
    · rw [if_neg hq, if_pos (show qwm ch w p e = true from decide_eq_true ⟨h1, fun i hi => by simpa using c i (by omega)⟩)]
  · rw [if_neg (fun h => by
      have h2 : wLn w = e - p ∧ ∀ i, i < wLn w → wCh w i = nI (ch (p + i)) := of_decide_eq_true h
      exact h1 h2.1)]
    simp (disch := omega) only [qlj, nI_add, pk_mul, qIX, qIN, qOB, qOL, qLE1, qLE0, qLT1, qLT0, qEQ1, qEQ0, qM0, qM1, qR, qN0, qMM, qNL1, qNL0, qNE1, qNE0, qB1, qB0, qOT, qOF, qGT, qSUB]
theorem c_cmdAt {L p e : Nat} {ch : Nat → Nat} {S : St} (hB : TB L ch) (hT : TC L ch S) (hp : p ≤ e) (he : e ≤ L) : X6_commandAt (nI p) (nI e) S = some (if qfnd (fun w => qwm ch w p e) 7 < 7 then some (qfnd (fun w => qwm ch w p e) 7) else none, S) := by
  have hl : X6_commandAt_2L (nI p) (nI e) (nI 0) S = some (if qfnd (fun w => qwm ch w p e) 7 < 7 then .inl (nI (qfnd (fun w => qwm ch w p e) 7)) else .inr (), S) := by
    unfold X6_commandAt_2L
    refine lp_find (P := fun w => qwm ch w p e) (m := 7) ?_ ?_ ?_
    · intro i hi hP
      have hw := c_wordAt hB hT hp he hi
      rw [if_neg (by rw [hP]; simp)] at hw
      unfold X6_commandAt_2
      simp (disch := omega) only [qlj, nI_add, pk_mul, qIX, qIN, qOB, qOL, qLE1, qLE0, qLT1, qLT0, qEQ1, qEQ0, qM0, qM1, qR, qN0, qMM, qNL1, qNL0, qNE1, qNE0, qB1, qB0, qOT, qOF, qGT, hw]
    · intro i hi hP
      have hw := c_wordAt hB hT hp he hi
      rw [if_pos hP] at hw
      unfold X6_commandAt_2
      simp (disch := omega) only [qlj, nI_add, pk_mul, qIX, qIN, qOB, qOL, qLE1, qLE0, qLT1, qLT0, qEQ1, qEQ0, qM0, qM1, qR, qN0, qMM, qNL1, qNL0, qNE1, qNE0, qB1, qB0, qOT, qOF, qGT, hw, o10]
    · unfold X6_commandAt_2
      simp (disch := omega) only [qlj, nI_add, pk_mul, qIX, qIN, qOB, qOL, qLE1, qLE0, qLT1, qLT0, qEQ1, qEQ0, qM0, qM1, qR, qN0, qMM, qNL1, qNL0, qNE1, qNE0, qB1, qB0, qOT, qOF, qGT]
  have hl' : X6_commandAt_2L (nI p) (nI e) 0 S = some (if qfnd (fun w => qwm ch w p e) 7 < 7 then .inl (nI (qfnd (fun w => qwm ch w p e) 7)) else .inr (), S) := hl
  unfold X6_commandAt
  rw [hl', qOB]
  by_cases h : qfnd (fun w => qwm ch w p e) 7 < 7
  · rw [if_pos h, if_pos h]
    simp (disch := omega) only [qlj, nI_add, pk_mul, qIX, qIN, qOB, qOL, qLE1, qLE0, qLT1, qLT0, qEQ1, qEQ0, qM0, qM1, qR, qN0, qMM, qNL1, qNL0, qNE1, qNE0, qB1, qB0, qOT, qOF, qGT]
  · rw [if_neg h, if_neg h]
def qwv (c : Nat → Nat) : Nat → Nat
  | 0 => 0
  | n + 1 => 27 * qwv c n + (c n - 96)
theorem qwv_inj {c c' : Nat → Nat} : ∀ (n m : Nat), (∀ i, i < n → 97 ≤ c i ∧ c i ≤ 122) → (∀ i, i < m → 97 ≤ c' i ∧ c' i ≤ 122) → qwv c n = qwv c' m → n = m ∧ ∀ i, i < n → c i = c' i := by
  intro n
  induction n with
  | zero =>
    intro m _ h2 h
    cases m with
    | zero => exact ⟨rfl, fun i hi => by omega⟩
    | succ m =>
      have := h2 m (by omega)
      rw [qwv, qwv] at h
      omega
  | succ n ih =>
    intro m h1 h2 h
    cases m with
    | zero =>
      have := h1 n (by omega)
      rw [qwv, qwv] at h
      omega
    | succ m =>
      have a := h1 n (by omega)
      have b := h2 m (by omega)
      rw [qwv, qwv] at h
      obtain ⟨x, y⟩ := ih m (fun i hi => h1 i (by omega)) (fun i hi => h2 i (by omega)) (by omega)
      subst x
      refine ⟨rfl, fun i hi => ?_⟩
      by_cases e : i = n
      · subst e; omega
      · exact y i (by omega)
theorem qwv_lt {c : Nat → Nat} : ∀ (n : Nat), (∀ i, i < n → c i ≤ 122) → qwv c n < 27 ^ n := by
  intro n
  induction n with
  | zero => intro _; show 0 < 1; omega
  | succ n ih =>
    intro h
    have h1 := ih (fun i hi => h i (by omega))
    have h2 := h n (by omega)
    rw [qwv, Nat.pow_succ]
    omega
def qwt (w i : Nat) : Nat := (wCh w i).toNatClampNeg
def qwc (w : Nat) : Nat := qwv (qwt w) (wLn w)
theorem q_wt : ∀ w, w < 7 → ∀ i, i < wLn w → 97 ≤ qwt w i ∧ qwt w i ≤ 122 ∧ wCh w i = nI (qwt w i) := by decide +kernel
theorem q_wc : qwc 0 = 230181176 ∧ qwc 1 = 31998660226 ∧ qwc 2 = 355568 ∧ qwc 3 = 237796990 ∧ qwc 4 = 5400715909203 ∧ qwc 5 = 174476693248 ∧ qwc 6 = 5109132110 := by decide +kernel
theorem q_wc0 : ∀ w, w < 7 → 0 < qwc w ∧ qwc w < 7625597484987 := by decide +kernel
/-- the value of a word of letters, as the reference takes it -/
def qwd (ch : Nat → Nat) (p n : Nat) : Nat := if n ≤ 9 then qwv (fun i => ch (p + i)) n else 0
theorem qwd_m {ch : Nat → Nat} {p n w : Nat} (hl : ∀ i, i < n → 97 ≤ ch (p + i) ∧ ch (p + i) ≤ 122) (hw : w < 7) : qwm ch w p (p + n) = decide (qwd ch p n = qwc w) := by
  have hlen := q_wln w hw
  unfold qwm
  rw [decide_eq_decide, show p + n - p = n by omega]
  constructor
  · rintro ⟨h1, h2⟩
    unfold qwd
    rw [if_pos (by omega), qwc, h1]
    have : ∀ m, m ≤ n → qwv (fun i => ch (p + i)) m = qwv (qwt w) m := by
      intro m
      induction m with
      | zero => intro _; rfl
      | succ m ih =>
        intro hm
        have x := h2 m (by omega)
        have y := q_wt w hw m (by omega)
        rw [y.2.2, nI_eq (by omega) (by have := hl m (by omega); omega)] at x
        rw [qwv, qwv, ih (by omega), x]
    exact this n (Nat.le_refl _)
  · intro h
    unfold qwd at h
    by_cases h9 : n ≤ 9
    · rw [if_pos h9, qwc] at h
      obtain ⟨a, b⟩ := qwv_inj n (wLn w) hl (fun i hi => ⟨(q_wt w hw i hi).1, (q_wt w hw i hi).2.1⟩) h
      refine ⟨a.symm, fun i hi => ?_⟩
      have hb : ch (p + i) = qwt w i := b i (by omega)
      rw [(q_wt w hw i hi).2.2, hb]
    · rw [if_neg h9] at h
      have := (q_wc0 w hw).1
      omega
def qcd7 (w : Nat) : Nat := [1, 121, 122, 123, 124, 129, 128].getD w 0
def qnm (w : Nat) : Nat := [3, 1, 1, 1, 1, 2, 1].getD w 0
theorem q_lc {w k : Nat} {α : Type} {x y : Option α} (hw : w < 7625597484988) (hk : k < 7625597484988) : oi (lg_cmp (lN w) (lN k) = nI 0) x y = if w = k then x else y := by
  by_cases h : w = k
  · rw [if_pos h]
    exact if_pos ((lg_cmp_eq _ _).mpr (by rw [h]))
  · rw [if_neg h]
    exact if_neg (fun e => h ((pk_lEQ (by omega) (by omega)).mp ((lg_cmp_eq _ _).mp e)))
theorem r_meant {v : Nat} {T : St} (hv : v < 7625597484988) : X8_meant (lN v) T = some (if qfnd (fun w => decide (v = qwc w)) 7 < 7 then nI (qcd7 (qfnd (fun w => decide (v = qwc w)) 7)) else -nI 1, T) := by
  obtain ⟨c0, c1, c2, c3, c4, c5, c6⟩ := q_wc
  unfold X8_meant
  simp only [q64]
  simp only [qlj]
  rw [q_lc hv (by omega), q_lc hv (by omega), q_lc hv (by omega), q_lc hv (by omega), q_lc hv (by omega), q_lc hv (by omega), q_lc hv (by omega)]
  by_cases h0 : v = 230181176
  · rw [if_pos h0, qfnd_eq (P := fun w => decide (v = qwc w)) (k := 0) (by omega) (by simp [c0, h0]) (fun j hj => by omega), if_pos (by omega)]; rfl
  · rw [if_neg h0]
    by_cases h1 : v = 31998660226
    · rw [if_pos h1, qfnd_eq (P := fun w => decide (v = qwc w)) (k := 1) (by omega) (by simp [c1, h1]) (fun j hj => by
        have : j = 0 := by omega
        subst this; simp [c0, h1]), if_pos (by omega)]; rfl
    · rw [if_neg h1]
      by_cases h2 : v = 355568
      · rw [if_pos h2, qfnd_eq (P := fun w => decide (v = qwc w)) (k := 2) (by omega) (by simp [c2, h2]) (fun j hj => by
          have : j = 0 ∨ j = 1 := by omega
          rcases this with rfl | rfl <;> simp [c0, c1, h2]), if_pos (by omega)]; rfl
      · rw [if_neg h2]
        by_cases h3 : v = 237796990
        · rw [if_pos h3, qfnd_eq (P := fun w => decide (v = qwc w)) (k := 3) (by omega) (by simp [c3, h3]) (fun j hj => by
            have : j = 0 ∨ j = 1 ∨ j = 2 := by omega
            rcases this with rfl | rfl | rfl <;> simp [c0, c1, c2, h3]), if_pos (by omega)]; rfl
        · rw [if_neg h3]
          by_cases h4 : v = 5400715909203
          · rw [if_pos h4, qfnd_eq (P := fun w => decide (v = qwc w)) (k := 4) (by omega) (by simp [c4, h4]) (fun j hj => by
              have : j = 0 ∨ j = 1 ∨ j = 2 ∨ j = 3 := by omega
              rcases this with rfl | rfl | rfl | rfl <;> simp [c0, c1, c2, c3, h4]), if_pos (by omega)]; rfl
          · rw [if_neg h4]
            by_cases h5 : v = 174476693248
            · rw [if_pos h5, qfnd_eq (P := fun w => decide (v = qwc w)) (k := 5) (by omega) (by simp [c5, h5]) (fun j hj => by
                have : j = 0 ∨ j = 1 ∨ j = 2 ∨ j = 3 ∨ j = 4 := by omega
                rcases this with rfl | rfl | rfl | rfl | rfl <;> simp [c0, c1, c2, c3, c4, h5]), if_pos (by omega)]; rfl
            · rw [if_neg h5]
              by_cases h6 : v = 5109132110
              · rw [if_pos h6, qfnd_eq (P := fun w => decide (v = qwc w)) (k := 6) (by omega) (by simp [c6, h6]) (fun j hj => by
                  have : j = 0 ∨ j = 1 ∨ j = 2 ∨ j = 3 ∨ j = 4 ∨ j = 5 := by omega
                  rcases this with rfl | rfl | rfl | rfl | rfl | rfl <;> simp [c0, c1, c2, c3, c4, c5, h6]), if_pos (by omega)]; rfl
              · rw [if_neg h6, qfnd_no (P := fun w => decide (v = qwc w)) (fun j hj => by
                  have : j = 0 ∨ j = 1 ∨ j = 2 ∨ j = 3 ∨ j = 4 ∨ j = 5 ∨ j = 6 := by omega
                  rcases this with rfl | rfl | rfl | rfl | rfl | rfl | rfl <;> simp [c0, c1, c2, c3, c4, c5, c6, h0, h1, h2, h3, h4, h5, h6]), if_neg (by omega)]
/-! ===== the reference's readers ===== -/
def qat (L : Nat) (ch : Nat → Nat) (k : Nat) : Nat := if k < L then ch k else 0
theorem r_at {L k : Nat} {ch : Nat → Nat} {T : St} (hB : TB L ch) (hT : TR L ch T) (hk : k ≤ 200) : X8_at (nI k) T = some (nI (qat L ch k), T) := by
  have hL := hB.1
  unfold X8_at qat
  by_cases h : k < L
  · rw [if_pos h]; simp (disch := omega) only [qlj, nI_add, pk_mul, qIX, qIN, qOB, qOL, qLE1, qLE0, qLT1, qLT0, qEQ1, qEQ0, qM0, qM1, qR, qN0, qMM, qNL1, qNL0, qNE1, qNE0, qB1, qB0, qOT, qOF, qGT, hT.1, hT.2 k h]
  · rw [if_neg h]; simp (disch := omega) only [qlj, nI_add, pk_mul, qIX, qIN, qOB, qOL, qLE1, qLE0, qLT1, qLT0, qEQ1, qEQ0, qM0, qM1, qR, qN0, qMM, qNL1, qNL0, qNE1, qNE0, qB1, qB0, qOT, qOF, qGT, hT.1]
theorem TR.s {L : Nat} {ch : Nat → Nat} {T : St} {x : Int32} (h : TR L ch T) : TR L ch (si T 75 28 x) := ⟨h.1, h.2⟩
theorem qat_le {L k : Nat} {ch : Nat → Nat} (hB : TB L ch) : qat L ch k ≤ 126 := by
  unfold qat
  split
  · rename_i h; exact (hB.2 k h).2
  · omega
theorem r_skip {L pos : Nat} {ch : Nat → Nat} {T : St} (hB : TB L ch) (hT : TR L ch T) (hp : pos ≤ L) : X8_skipsSpaces (si T 75 28 (nI pos)) = some ((), si T 75 28 (nI (qsk L ch pos))) := by
  have hL := hB.1
  obtain ⟨a, b, c, d⟩ := qsk_sp (L := L) (ch := ch) hp
  generalize hE : qsk L ch pos = E at *
  have hl : X8_skipsSpaces_0L () (si T 75 28 (nI pos)) = some ((), si T 75 28 (nI E)) := by
    unfold X8_skipsSpaces_0L
    have h := lp_for (body := fun (a : Unit) (S : St) => X8_skipsSpaces_0 S) (b := ()) (T' := si T 75 28 (nI E)) (E - pos) (fun _ => ()) (fun i => si T 75 28 (nI (pos + i))) (fun i hi => ?_) ?_
    · exact h
    · have hc := d (pos + i) (by omega) (by omega)
      have ha := r_at (k := pos + i) hB (hT.s (x := nI (pos + i))) (by omega)
      have hq : qat L ch (pos + i) = 32 := by unfold qat; rw [if_pos (by omega)]; exact hc
      rw [hq] at ha
      show X8_skipsSpaces_0 (si T 75 28 (nI (pos + i))) = _
      unfold X8_skipsSpaces_0
      simp (disch := omega) only [qlj, nI_add, pk_mul, qIX, qIN, qOB, qOL, qLE1, qLE0, qLT1, qLT0, qEQ1, qEQ0, qM0, qM1, qR, qN0, qMM, qNL1, qNL0, qNE1, qNE0, qB1, qB0, qOT, qOF, qGT, qG1, ha, si_si]
      rw [Nat.add_assoc]
    · rw [show pos + (E - pos) = E by omega]
      have ha := r_at (k := E) hB (hT.s (x := nI E)) (by omega)
      have hq : qat L ch E ≠ 32 := by
        unfold qat
        by_cases h : E < L
        · rw [if_pos h]; exact c h
        · rw [if_neg h]; omega
      have hq2 := qat_le (k := E) hB
      show X8_skipsSpaces_0 (si T 75 28 (nI E)) = _
      unfold X8_skipsSpaces_0
      simp (disch := omega) only [qlj, nI_add, pk_mul, qIX, qIN, qOB, qOL, qLE1, qLE0, qLT1, qLT0, qEQ1, qEQ0, qM0, qM1, qR, qN0, qMM, qNL1, qNL0, qNE1, qNE0, qB1, qB0, qOT, qOF, qGT, qG1, ha]
  unfold X8_skipsSpaces
  simp (disch := omega) only [qlj, nI_add, pk_mul, qIX, qIN, qOB, qOL, qLE1, qLE0, qLT1, qLT0, qEQ1, qEQ0, qM0, qM1, qR, qN0, qMM, qNL1, qNL0, qNE1, qNE0, qB1, qB0, qOT, qOF, qGT, hl]
theorem r_let {c : Nat} {T : St} (hc : c ≤ 126) : X8_isLetter (nI c) T = some (if qkd c = 1 then nI 1 else nI 0, T) := by
  unfold X8_isLetter X8_in qkd
  by_cases h1 : c < 97
  · rw [if_neg (show ¬ (97 ≤ c ∧ c ≤ 122) by omega)]
    rw [if_neg (show ¬ (if 48 ≤ c ∧ c ≤ 57 then 2 else if c = 59 then 3 else if c = 32 then 0 else 4) = 1 by split; omega; split; omega; split <;> omega)]
    simp (disch := omega) only [qlj, nI_add, pk_mul, qIX, qIN, qOB, qOL, qLE1, qLE0, qLT1, qLT0, qEQ1, qEQ0, qM0, qM1, qR, qN0, qMM, qNL1, qNL0, qNE1, qNE0, qB1, qB0, qOT, qOF, qGT]
  · by_cases h2 : 122 < c
    · rw [if_neg (show ¬ (97 ≤ c ∧ c ≤ 122) by omega)]
      rw [if_neg (show ¬ (if 48 ≤ c ∧ c ≤ 57 then 2 else if c = 59 then 3 else if c = 32 then 0 else 4) = 1 by split; omega; split; omega; split <;> omega)]
      simp (disch := omega) only [qlj, nI_add, pk_mul, qIX, qIN, qOB, qOL, qLE1, qLE0, qLT1, qLT0, qEQ1, qEQ0, qM0, qM1, qR, qN0, qMM, qNL1, qNL0, qNE1, qNE0, qB1, qB0, qOT, qOF, qGT]
    · rw [if_pos (show 97 ≤ c ∧ c ≤ 122 by omega), if_pos rfl]
      simp (disch := omega) only [qlj, nI_add, pk_mul, qIX, qIN, qOB, qOL, qLE1, qLE0, qLT1, qLT0, qEQ1, qEQ0, qM0, qM1, qR, qN0, qMM, qNL1, qNL0, qNE1, qNE0, qB1, qB0, qOT, qOF, qGT]
theorem r_dig {c : Nat} {T : St} (hc : c ≤ 126) : X8_isDigit (nI c) T = some (if qkd c = 2 then nI 1 else nI 0, T) := by
  unfold X8_isDigit X8_in qkd
  by_cases h1 : c < 48
  · rw [if_neg (show ¬ (97 ≤ c ∧ c ≤ 122) by omega), if_neg (show ¬ (48 ≤ c ∧ c ≤ 57) by omega)]
    rw [if_neg (show ¬ (if c = 59 then 3 else if c = 32 then 0 else 4) = 2 by split; omega; split <;> omega)]
    simp (disch := omega) only [qlj, nI_add, pk_mul, qIX, qIN, qOB, qOL, qLE1, qLE0, qLT1, qLT0, qEQ1, qEQ0, qM0, qM1, qR, qN0, qMM, qNL1, qNL0, qNE1, qNE0, qB1, qB0, qOT, qOF, qGT]
  · by_cases h2 : 57 < c
    · rw [if_neg (show ¬ (48 ≤ c ∧ c ≤ 57) by omega)]
      rw [if_neg (show ¬ (if 97 ≤ c ∧ c ≤ 122 then 1 else if c = 59 then 3 else if c = 32 then 0 else 4) = 2 by split; omega; split; omega; split <;> omega)]
      simp (disch := omega) only [qlj, nI_add, pk_mul, qIX, qIN, qOB, qOL, qLE1, qLE0, qLT1, qLT0, qEQ1, qEQ0, qM0, qM1, qR, qN0, qMM, qNL1, qNL0, qNE1, qNE0, qB1, qB0, qOT, qOF, qGT]
    · rw [if_neg (show ¬ (97 ≤ c ∧ c ≤ 122) by omega), if_pos (show 48 ≤ c ∧ c ≤ 57 by omega), if_pos rfl]
      simp (disch := omega) only [qlj, nI_add, pk_mul, qIX, qIN, qOB, qOL, qLE1, qLE0, qLT1, qLT0, qEQ1, qEQ0, qM0, qM1, qR, qN0, qMM, qNL1, qNL0, qNE1, qNE0, qB1, qB0, qOT, qOF, qGT]
theorem qkd_0 : qkd 0 = 4 := by decide
theorem qkd_1 {c : Nat} : qkd c = 1 ↔ 97 ≤ c ∧ c ≤ 122 := by
  unfold qkd
  by_cases h : 97 ≤ c ∧ c ≤ 122
  · rw [if_pos h]; simp [h]
  · rw [if_neg h]
    constructor
    · intro h2
      exfalso
      split at h2
      · omega
      · split at h2
        · omega
        · split at h2 <;> omega
    · intro h2; exact absurd h2 h
theorem qkd_2 {c : Nat} : qkd c = 2 ↔ 48 ≤ c ∧ c ≤ 57 := by
  unfold qkd
  by_cases h : 97 ≤ c ∧ c ≤ 122
  · rw [if_pos h]; omega
  · rw [if_neg h]
    by_cases h2 : 48 ≤ c ∧ c ≤ 57
    · rw [if_pos h2]; simp [h2]
    · rw [if_neg h2]
      constructor
      · intro h3
        exfalso
        split at h3
        · omega
        · split at h3 <;> omega
      · intro h3; exact absurd h3 h2
