/-! ===== the latest replay ===== -/
theorem qmk_skip {mt ml : Nat → Nat} {g τ i : Nat} : ∀ {m : Nat}, i ≤ m → (∀ j, i ≤ j → j < m → τ < mt j) → qmk mt ml g m τ = qmk mt ml g i τ := by
  intro m
  induction m with
  | zero => intro h _; have : i = 0 := by omega
            subst this; rfl
  | succ m ih =>
    intro h h2
    by_cases e : i = m + 1
    · subst e; rfl
    · rw [qmk, if_neg (by have := h2 m (by omega) (by omega); omega)]
      exact ih (by omega) (fun j a b => h2 j a (by omega))
theorem qmk_le {mt ml : Nat → Nat} {g τ : Nat} : ∀ {m : Nat}, qmk mt ml g m τ = 0 ∨ ∃ j, j < m ∧ qmk mt ml g m τ ≤ ml j := by
  intro m
  induction m with
  | zero => exact Or.inl rfl
  | succ m ih =>
    rw [qmk]
    split
    · exact Or.inr ⟨m, by omega, Nat.sub_le _ _⟩
    · rcases ih with h | ⟨j, h1, h2⟩
      · exact Or.inl h
      · exact Or.inr ⟨j, by omega, h2⟩
theorem qmk_at {mt ml : Nat → Nat} {g m j : Nat} (hinc : ∀ i j, i < j → j < m → mt i < mt j) (hj : j < m) : qmk mt ml g m (mt j) = ml j := by
  rw [qmk_skip (i := j + 1) (by omega) (fun i a b => hinc j i (by omega) b), qmk, if_pos (Nat.le_refl _), Nat.sub_self, Nat.mul_zero]
  rfl
theorem qmk_bd {mt ml : Nat → Nat} {g τ m : Nat} (h : ∀ j, j < m → ml j ≤ 4000) : qmk mt ml g m τ ≤ 4000 := by
  rcases qmk_le (mt := mt) (ml := ml) (g := g) (τ := τ) (m := m) with h1 | ⟨j, h1, h2⟩
  · omega
  · have := h j h1; omega
def qmx (v : Nat → Nat) : Nat → Nat
  | 0 => 0
  | i + 1 => if v i ≤ qmx v i then qmx v i else v i
theorem qmx_sp {v : Nat → Nat} : ∀ (m : Nat), (∀ j, j < m → v j ≤ qmx v m) ∧ (qmx v m = 0 ∨ ∃ j, j < m ∧ qmx v m = v j) := by
  intro m
  induction m with
  | zero => exact ⟨fun j hj => by omega, Or.inl rfl⟩
  | succ m ih =>
    obtain ⟨h1, h2⟩ := ih
    rw [qmx]
    split
    · rename_i h
      refine ⟨fun j hj => ?_, ?_⟩
      · by_cases e : j = m
        · rw [e]; exact h
        · exact h1 j (by omega)
      · rcases h2 with h2 | ⟨j, a, b⟩
        · exact Or.inl h2
        · exact Or.inr ⟨j, by omega, b⟩
    · rename_i h
      refine ⟨fun j hj => ?_, Or.inr ⟨m, by omega, rfl⟩⟩
      by_cases e : j = m
      · rw [e]; exact Nat.le_refl _
      · have := h1 j (by omega); omega
theorem qmx_eq {mt ml : Nat → Nat} {g mc T : Nat} (hinc : ∀ i j, i < j → j < mc → mt i < mt j) (h0 : ∀ τ, T ≤ τ → qmk mt ml g mc τ = 0) : qmx (qmk mt ml g mc) T = qmx ml mc := by
  obtain ⟨a1, a2⟩ := qmx_sp (v := qmk mt ml g mc) T
  obtain ⟨b1, b2⟩ := qmx_sp (v := ml) mc
  apply Nat.le_antisymm
  · rcases a2 with h | ⟨τ, h1, h2⟩
    · omega
    · rw [h2]
      rcases qmk_le (mt := mt) (ml := ml) (g := g) (τ := τ) (m := mc) with h | ⟨j, h3, h4⟩
      · omega
      · have := b1 j h3; omega
  · rcases b2 with h | ⟨j, h1, h2⟩
    · omega
    · rw [h2]
      have h3 := qmk_at (g := g) (ml := ml) hinc h1
      rcases Nat.lt_or_ge (mt j) T with h | h
      · have := a1 (mt j) h; omega
      · have := h0 (mt j) h; omega
theorem cp_loop {body : Int32 → St → Option ((Int32 ⊕ Unit) × St)} {S : St} {q k n : Nat} (hq : q ≠ k) (hs : ∀ i, i < n → body (nI i) (sc S q k 0 0 i) = some (.inl (nI (i + 1)), si (sc S q k 0 0 i) k i (gi S q i))) (he : body (nI n) (sc S q k 0 0 n) = some (.inr (), sc S q k 0 0 n)) : lp body (nI 0) S = some ((), sc S q k 0 0 n) := by
  have h := lp_for (body := body) (b := ()) (T' := sc S q k 0 0 n) n (fun i => nI i) (fun i => sc S q k 0 0 i) (fun i hi => ?_) he
  · rw [sc_0] at h; exact h
  · have h1 := sc_si (S := S) (q := q) (k := k) (sp := 0) (dp := 0) (i := i)
    rw [Nat.zero_add] at h1
    rw [hs i hi, h1]
theorem gi_sc0 {S : St} {q k n a b : Nat} (h : a ≠ k) : gi (sc S q k 0 0 n) a b = gi S a b := qC0 h
theorem gi_sc1 {S : St} {q k n b : Nat} (h : b < n) : gi (sc S q k 0 0 n) k b = gi S q b := by
  rw [qC1 rfl (by omega) (by omega), Nat.zero_add, Nat.sub_zero]
theorem ls13 {a b c : Int32} {S : St} (hI : Inv S) : ∃ S', LS_13 a b c S = some S' ∧ Inv S' := by
  obtain ⟨⟨r, hW, hR, hM⟩, ⟨nH, nw, w1, w2, w3, w4, w5, w6⟩, -, ⟨L, ch, t1, t2, t3, t4⟩⟩ := id hI
  have hg0 := hW.2.2.2.1
  have hg1 := hW.2.2.2.2.1
  have hg2 := hW.2.2.2.2.2.1
  have hn := hW.1
  unfold LS_13 L_replay
  rcases f_set a with ⟨s, hs, rfl, h1, h2⟩ | ⟨h1, h2⟩
  · obtain ⟨S1, mc, mt, ml, e1, e2, e3, e4, e5⟩ := c_play (k := 48) hW hR (by omega) hg0.2 hg2 hs
    generalize hv : nI (qpl r (r.g 0) (r.g 2) s r.n).dm = v
    have h49 : gi S1 49 3 = v := by rw [← hv]; exact e2.2.1.2.2.1
    have hM2 : RM r (r.g 0) (r.g 2) (si (sl S1 90 0 v.toInt64) 75 3 (nI 0)) := hM.cg (fun b => e5.1 76 b (by unfold PCw; omega))
    obtain ⟨S2, T, f1, f2, f3, f4, f5, f6, f7⟩ := r_replays hW hM2 hg0.2 hg2 hs
    have hdm := (qpl_I (c := r.g 0) (π := r.g 2) (s := s) hW r.n (Nat.le_refl _)).1.2.2.2.1
    have hd6 : gi S2 75 6 = nI (qpl r (r.g 0) (r.g 2) s r.n).dm := f2.2.2.2.2.1
    have hm0 : gi S2 76 0 = nI r.n := (hM2.fw f7).1
    generalize hD : (qpl r (r.g 0) (r.g 2) s r.n).dm = dm at *
    generalize hS3 : si (si (si (si S2 75 15 (nI 1)) 75 16 (nI r.n)) 75 18 (nI dm)) 75 20 (nI T) = S3
    have g3 : ∀ x y, x ≠ 75 → gi S3 x y = gi S2 x y := fun x y h => by
      rw [← hS3, qG0 (by omega), qG0 (by omega), qG0 (by omega), qG0 (by omega)]
    have g75 : ∀ y, y ≠ 15 → y ≠ 16 → y ≠ 18 → y ≠ 20 → gi S3 75 y = gi S2 75 y := fun y ha hb hc hd => by
      rw [← hS3, qG0 (by omega), qG0 (by omega), qG0 (by omega), qG0 (by omega)]
    have a15 : gi S3 75 15 = nI 1 := by rw [← hS3, qG0 (by omega), qG0 (by omega), qG0 (by omega)]; exact qG1 rfl rfl
    have a16 : gi S3 75 16 = nI r.n := by rw [← hS3, qG0 (by omega), qG0 (by omega)]; exact qG1 rfl rfl
    have a18 : gi S3 75 18 = nI dm := by rw [← hS3, qG0 (by omega)]; exact qG1 rfl rfl
    have a20 : gi S3 75 20 = nI T := by rw [← hS3]; exact qG1 rfl rfl
    have a6 : gi S3 75 6 = nI dm := by rw [g75 6 (by omega) (by omega) (by omega) (by omega)]; exact hd6
    have a8 : gi S3 75 8 = nI T := by rw [g75 8 (by omega) (by omega) (by omega) (by omega)]; exact f3
    have l62 : X8_replay_62L (nI 0) S3 = some ((), sc S3 78 83 0 0 r.n) := by
      unfold X8_replay_62L
      refine cp_loop (body := fun (a : Int32) (S : St) => X8_replay_62 a S) (by omega) (fun i hi => ?_) ?_
      · show X8_replay_62 (nI i) (sc S3 78 83 0 0 i) = _
        unfold X8_replay_62
        simp (disch := omega) only [qlj, nI_add, pk_mul, qIX, qIN, qOB, qOL, qLE1, qLE0, qLT1, qLT0, qEQ1, qEQ0, qM0, qM1, qR, qN0, qMM, qNL1, qNL0, qNE1, qNE0, qB1, qB0, qOT, qOF, qGT, gi_sc0, a16]
      · show X8_replay_62 (nI r.n) (sc S3 78 83 0 0 r.n) = _
        unfold X8_replay_62
        simp (disch := omega) only [qlj, nI_add, pk_mul, qIX, qIN, qOB, qOL, qLE1, qLE0, qLT1, qLT0, qEQ1, qEQ0, qM0, qM1, qR, qN0, qMM, qNL1, qNL0, qNE1, qNE0, qB1, qB0, qOT, qOF, qGT, gi_sc0, a16]
    have l90 : X8_replay_90L (nI 0) (sc S3 78 83 0 0 r.n) = some ((), sc (sc S3 78 83 0 0 r.n) 79 84 0 0 dm) := by
      unfold X8_replay_90L
      refine cp_loop (body := fun (a : Int32) (S : St) => X8_replay_90 a S) (by omega) (fun i hi => ?_) ?_
      · show X8_replay_90 (nI i) (sc (sc S3 78 83 0 0 r.n) 79 84 0 0 i) = _
        unfold X8_replay_90
        simp (disch := omega) only [qlj, nI_add, pk_mul, qIX, qIN, qOB, qOL, qLE1, qLE0, qLT1, qLT0, qEQ1, qEQ0, qM0, qM1, qR, qN0, qMM, qNL1, qNL0, qNE1, qNE0, qB1, qB0, qOT, qOF, qGT, gi_sc0, a6]
      · show X8_replay_90 (nI dm) (sc (sc S3 78 83 0 0 r.n) 79 84 0 0 dm) = _
        unfold X8_replay_90
        simp (disch := omega) only [qlj, nI_add, pk_mul, qIX, qIN, qOB, qOL, qLE1, qLE0, qLT1, qLT0, qEQ1, qEQ0, qM0, qM1, qR, qN0, qMM, qNL1, qNL0, qNE1, qNE0, qB1, qB0, qOT, qOF, qGT, gi_sc0, a6]
    have l118 : X8_replay_118L (nI 0) (sc (sc S3 78 83 0 0 r.n) 79 84 0 0 dm) = some ((), sc (sc (sc S3 78 83 0 0 r.n) 79 84 0 0 dm) 80 85 0 0 T) := by
      unfold X8_replay_118L
      refine cp_loop (body := fun (a : Int32) (S : St) => X8_replay_118 a S) (by omega) (fun i hi => ?_) ?_
      · show X8_replay_118 (nI i) (sc (sc (sc S3 78 83 0 0 r.n) 79 84 0 0 dm) 80 85 0 0 i) = _
        unfold X8_replay_118
        simp (disch := omega) only [qlj, nI_add, pk_mul, qIX, qIN, qOB, qOL, qLE1, qLE0, qLT1, qLT0, qEQ1, qEQ0, qM0, qM1, qR, qN0, qMM, qNL1, qNL0, qNE1, qNE0, qB1, qB0, qOT, qOF, qGT, gi_sc0, a8]
      · show X8_replay_118 (nI T) (sc (sc (sc S3 78 83 0 0 r.n) 79 84 0 0 dm) 80 85 0 0 T) = _
        unfold X8_replay_118
        simp (disch := omega) only [qlj, nI_add, pk_mul, qIX, qIN, qOB, qOL, qLE1, qLE0, qLT1, qLT0, qEQ1, qEQ0, qM0, qM1, qR, qN0, qMM, qNL1, qNL0, qNE1, qNE0, qB1, qB0, qOT, qOF, qGT, gi_sc0, a8]
    generalize hS4 : sc (sc (sc S3 78 83 0 0 r.n) 79 84 0 0 dm) 80 85 0 0 T = S4 at l118
    have g4 : ∀ x y, x ≠ 83 → x ≠ 84 → x ≠ 85 → gi S4 x y = gi S3 x y := fun x y ha hb hc => by
      rw [← hS4, gi_sc0 hc, gi_sc0 hb, gi_sc0 ha]
    have g83 : ∀ p, p < r.n → gi S4 83 p = gi S2 78 p := fun p hp => by
      rw [← hS4, gi_sc0 (by omega), gi_sc0 (by omega), gi_sc1 hp, g3 78 p (by omega)]
    have g84 : ∀ j, j < dm → gi S4 84 j = gi S2 79 j := fun j hj => by
      rw [← hS4, gi_sc0 (by omega), gi_sc1 hj, gi_sc0 (by omega), g3 79 j (by omega)]
    have g85 : ∀ τ, τ < T → gi S4 85 τ = gi S2 80 τ := fun τ hτ => by
      rw [← hS4, gi_sc1 hτ, gi_sc0 (by omega), gi_sc0 (by omega), g3 80 τ (by omega)]
    have gall : ∀ x y, ¬ PRw x y → ¬ (x = 75 ∧ (y = 3 ∨ y = 15 ∨ y = 16 ∨ y = 18 ∨ y = 20)) → x ≠ 83 → x ≠ 84 → x ≠ 85 → ¬ PCw 48 x y → gi S4 x y = gi S x y := by
      intro x y p1 p2 p3 p4 p5 p6
      rw [g4 x y p3 p4 p5]
      have : gi S3 x y = gi S2 x y := by
        by_cases hx : x = 75
        · subst hx; exact g75 y (by omega) (by omega) (by omega) (by omega)
        · exact g3 x y hx
      rw [this, f7.1 x y p1, qG0 (by omega), qIL, e5.1 x y p6]
    refine ⟨S4, ls_ok (v := v) (S1 := S1) ?_ ?_ ?_ ?_, ⟨r, hW, hR.cg (fun x y p q => ?_), hM.cg (fun y => ?_)⟩, ⟨nH, nw, w1, w2, ?_, ?_, ?_, fun j hj => ?_⟩, ?_, L, ch, t1, ?_, ?_, fun k hk => ?_⟩
    · unfold X7_replay
      simp (disch := omega) only [qlj, nI_add, pk_mul, qIX, qIN, qOB, qOL, qLE1, qLE0, qLT1, qLT0, qEQ1, qEQ0, qM0, qM1, qR, qN0, qMM, qNL1, qNL0, qNE1, qNE0, qB1, qB0, qOT, qOF, qGT, h2, qOBX, hR.2.2 0 (by omega), hR.2.2 2 (by omega), e1, h49]
    · unfold X8_replay X8_replay_16
      simp (disch := omega) only [qlj, nI_add, pk_mul, qIX, qIN, qOB, qOL, qLE1, qLE0, qLT1, qLT0, qEQ1, qEQ0, qM0, qM1, qR, qN0, qMM, qNL1, qNL0, qNE1, qNE0, qB1, qB0, qOT, qOF, qGT, h1, o10, f_r0, f1]
      rw [show gi (si S2 75 15 (nI 1)) 76 0 = nI r.n from by rw [qG0 (by omega)]; exact hm0]
      rw [show gi (si (si S2 75 15 (nI 1)) 75 16 (nI r.n)) 75 6 = nI dm from by rw [qG0 (by omega), qG0 (by omega)]; exact hd6]
      rw [show gi (si (si (si S2 75 15 (nI 1)) 75 16 (nI r.n)) 75 18 (nI dm)) 75 8 = nI T from by rw [qG0 (by omega), qG0 (by omega), qG0 (by omega)]; exact f3]
      rw [hS3, l62, qOB, l90, qOB, l118, qOB]
      have : gi S4 75 6 = v := by rw [g4 75 6 (by omega) (by omega) (by omega), a6]; exact hv
      rw [this]
    · rw [g4 75 3 (by omega) (by omega) (by omega), g75 3 (by omega) (by omega) (by omega) (by omega), f7.1 75 3 n3]; exact qG1 rfl rfl
    · have : gl S4 90 0 = gl S2 90 0 := by rw [← hS4, ← hS3]; rfl
      rw [this, f7.gl, qGS, qGL]
    · exact gall x y (by unfold PRw; omega) (by omega) (by omega) (by omega) (by omega) (by unfold PCw; omega)
    · exact gall 76 y (by unfold PRw; omega) (by omega) (by omega) (by omega) (by omega) (by unfold PCw; omega)
    · rw [gall _ _ (by unfold PRw; omega) (by omega) (by omega) (by omega) (by omega) (by unfold PCw; omega)]; exact w3
    · rw [gall _ _ (by unfold PRw; omega) (by omega) (by omega) (by omega) (by omega) (by unfold PCw; omega)]; exact w4
    · rw [gall _ _ (by unfold PRw; omega) (by omega) (by omega) (by omega) (by omega) (by unfold PCw; omega)]; exact w5
    · obtain ⟨q, q1, ⟨q2, q3, q4⟩, ⟨q5, q6, q7⟩⟩ := w6 j hj
      have hm := Nat.mod_lt (nw + 8 - j) (show 0 < 8 by omega)
      have ga : ∀ x y, 8 ≤ x → x ≤ 47 → gi S4 x y = gi S x y := fun x y p p' => gall x y (by unfold PRw; omega) (by omega) (by omega) (by omega) (by omega) (by unfold PCw; omega)
      have gb : ∀ y, gi S4 77 y = gi S 77 y := fun y => gall 77 y (by unfold PRw; omega) (by omega) (by omega) (by omega) (by omega) (by unfold PCw; omega)
      refine ⟨q, q1, ⟨?_, fun p hp => ?_, fun i hi => ?_⟩, ⟨?_, fun p hp => ?_, fun i hi => ?_⟩⟩
      · rw [ga _ _ (by omega) (by omega)]; exact q2
      · rw [ga _ _ (by omega) (by omega), ga _ _ (by omega) (by omega), ga _ _ (by omega) (by omega)]; exact q3 p hp
      · rw [ga _ _ (by omega) (by omega)]; exact q4 i hi
      · rw [gb]; exact q5
      · rw [gb, gb, gb]; exact q6 p hp
      · rw [gb]; exact q7 i hi
    · have gc : ∀ x y, 48 ≤ x → x ≤ 57 → gi S4 x y = gi S1 x y := fun x y p p' => by
        rw [g4 x y (by omega) (by omega) (by omega), g3 x y (by omega), f7.1 x y (by unfold PRw; omega), qG0 (by omega), qIL]
      refine Or.inr ⟨?_, ?_, r.n, dm, T, mc, mt, ml, r.g 1, hn, ?_, ?_, by omega, ?_, ?_, fun p hp => ?_, fun j hj => ?_, f4, ?_, ?_, hg1.2, e3.cg (fun x y hxy => gc x y (by omega) (by omega)), fun τ hτ => ?_, fun τ hτ => ?_⟩
      · rw [gc _ _ (by omega) (by omega)]; exact e2.2.1.1
      · rw [g4 _ _ (by omega) (by omega) (by omega)]; exact a15
      · rw [gc _ _ (by omega) (by omega)]; exact e2.2.1.2.1
      · rw [g4 _ _ (by omega) (by omega) (by omega)]; exact a16
      · rw [gc _ _ (by omega) (by omega), h49]; exact hv.symm
      · rw [g4 _ _ (by omega) (by omega) (by omega)]; exact a18
      · rw [gc _ _ (by omega) (by omega), g83 p hp, f2.2.2.2.2.2.1 p hp]
        exact qpl_F hW e2 p hp
      · rw [gc _ _ (by omega) (by omega), g84 j hj, f2.2.2.2.2.2.2.1 j (by rw [hD]; exact hj)]
        exact e2.2.1.2.2.2.2.2 j (by rw [hD]; exact hj)
      · rw [g4 _ _ (by omega) (by omega) (by omega)]; exact a20
      · rw [gc _ _ (by omega) (by omega)]; exact e2.2.1.2.2.2.1
      · rw [g85 τ hτ, f5 τ hτ, e4 τ]
      · rw [e4 τ]; exact f6 τ hτ
    · rw [gall _ _ (by unfold PRw; omega) (by omega) (by omega) (by omega) (by omega) (by unfold PCw; omega)]; exact t2
    · rw [gall _ _ (by unfold PRw; omega) (by omega) (by omega) (by omega) (by omega) (by unfold PCw; omega)]; exact t3
    · rw [gall _ _ (by unfold PRw; omega) (by omega) (by omega) (by omega) (by omega) (by unfold PCw; omega), gall 88 k (by unfold PRw; omega) (by omega) (by omega) (by omega) (by omega) (by unfold PCw; omega)]; exact t4 k hk
  · refine ls_f hI (e := 1) (k := 1) (r2 := nI 0) ?_ rfl ?_ (by omega) (by omega)
    · unfold X7_replay; simp (disch := omega) only [qlj, nI_add, pk_mul, qIX, qIN, qOB, qOL, qLE1, qLE0, qLT1, qLT0, qEQ1, qEQ0, qM0, qM1, qR, qN0, qMM, qNL1, qNL0, qNE1, qNE0, qB1, qB0, qOT, qOF, qGT, h2, qOBE]
    · unfold X8_replay X8_replay_16; simp (disch := omega) only [qlj, nI_add, pk_mul, qIX, qIN, qOB, qOL, qLE1, qLE0, qLT1, qLT0, qEQ1, qEQ0, qM0, qM1, qR, qN0, qMM, qNL1, qNL0, qNE1, qNE0, qB1, qB0, qOT, qOF, qGT, h1, f_r1, o10]
theorem f_rng (x : Int32) {n : Nat} (hn : n ≤ 40) : (∃ p, p < n ∧ x = nI p ∧ (∀ S, X8_in x (nI 0) (nI n - nI 1) S = some (nI 1, S))) ∨ ((∀ S, X8_in x (nI 0) (nI n - nI 1) S = some (nI 0, S)) ∧ (x < 0 ∨ (¬ x < 0 ∧ nI n ≤ x))) := by
  rcases pk_ix x (n := n) (show n < 2 ^ 31 by omega) with h | h | ⟨p, hp, rfl⟩
  · refine Or.inr ⟨fun S => ?_, Or.inl h⟩
    unfold X8_in
    exact if_pos h
  · have hT : (n : Int) ≤ x.toInt := by
      rw [Int32.le_iff_toInt_le, nI_toInt (show n < 2 ^ 31 by omega)] at h
      exact h
    have h0 : ¬ x < 0 := by
      rw [Int32.lt_iff_toInt_lt, Int32.toInt_zero]; omega
    refine Or.inr ⟨fun S => ?_, Or.inr ⟨h0, h⟩⟩
    have hlt : nI n - nI 1 < x := by
      rw [Int32.lt_iff_toInt_lt, pk_sub_toInt (show n < 2 ^ 30 by omega) (show 1 < 2 ^ 30 by omega)]
      omega
    unfold X8_in
    rw [show ∀ (a b : Option (Int32 × St)), oi (x < nI 0) a b = b from fun a b => if_neg h0]
    exact if_pos hlt
  · refine Or.inl ⟨p, hp, rfl, fun S => ?_⟩
    unfold X8_in
    simp (disch := omega) only [qlj, nI_add, pk_mul, qIX, qIN, qOB, qOL, qLE1, qLE0, qLT1, qLT0, qEQ1, qEQ0, qM0, qM1, qR, qN0, qMM, qNL1, qNL0, qNE1, qNE0, qB1, qB0, qOT, qOF, qGT, qSUB]
theorem ls14 {a b c : Int32} {S : St} (hI : Inv S) : ∃ S', LS_14 a b c S = some S' ∧ Inv S' := by
  obtain ⟨-, -, hL, -⟩ := id hI
  unfold LS_14
  rcases hL with ⟨l1, l2, l3⟩ | ⟨l1, l2, n, dm, T, mc, mt, ml, g, k1, k2, k3, k4, k5, k6, k7, k8, k9, k10, k11, k12, k13, k14, k15⟩
  · refine ⟨si S 75 3 (nI 0), ls_p (v := -nI 1) (S1 := S) ?_ ?_, hI.fq FQ.rf.s3⟩
    · unfold X7_fate X3_fateOf; simp (disch := omega) only [qlj, nI_add, pk_mul, qIX, qIN, qOB, qOL, qLE1, qLE0, qLT1, qLT0, qEQ1, qEQ0, qM0, qM1, qR, qN0, qMM, qNL1, qNL0, qNE1, qNE0, qB1, qB0, qOT, qOF, qGT, l1]
    · unfold X8_fate; simp (disch := omega) only [qlj, nI_add, pk_mul, qIX, qIN, qOB, qOL, qLE1, qLE0, qLT1, qLT0, qEQ1, qEQ0, qM0, qM1, qR, qN0, qMM, qNL1, qNL0, qNE1, qNE0, qB1, qB0, qOT, qOF, qGT, qG0, l2]
  · have l2' : gi (si S 75 3 (nI 0)) 75 15 = nI 1 := by rw [qG0 (by omega)]; exact l2
    have k3' : gi (si S 75 3 (nI 0)) 75 16 = nI n := by rw [qG0 (by omega)]; exact k3
    rcases f_rng a k1 with ⟨p, hp, rfl, h1⟩ | ⟨h1, h2⟩
    · refine ⟨si S 75 3 (nI 0), ls_p (v := gi S 83 p) (S1 := S) ?_ ?_, hI.fq FQ.rf.s3⟩
      · have := c_fateOf (k := 49) l1 k2 hp k1
        have h50 : gi S (49 + 1) p = gi S 83 p := k7 p hp
        unfold X7_fate
        rw [this, qOB, h50]
      · unfold X8_fate; simp (disch := omega) only [qlj, nI_add, pk_mul, qIX, qIN, qOB, qOL, qLE1, qLE0, qLT1, qLT0, qEQ1, qEQ0, qM0, qM1, qR, qN0, qMM, qNL1, qNL0, qNE1, qNE0, qB1, qB0, qOT, qOF, qGT, l2', o10, k3', h1, qG0]
    · refine ⟨si S 75 3 (nI 0), ls_p (v := -nI 1) (S1 := S) ?_ ?_, hI.fq FQ.rf.s3⟩
      · unfold X7_fate X3_fateOf
        rcases h2 with h2 | ⟨h2, h3⟩
        · have d : ∀ (x y : Option (Int32 × St)), oi (a < nI 0) x y = x := fun x y => if_pos h2
          simp (disch := omega) only [qlj, nI_add, pk_mul, qIX, qIN, qOB, qOL, qLE1, qLE0, qLT1, qLT0, qEQ1, qEQ0, qM0, qM1, qR, qN0, qMM, qNL1, qNL0, qNE1, qNE0, qB1, qB0, qOT, qOF, qGT, l1, o10, d]
        · have d : ∀ (x y : Option (Int32 × St)), oi (a < nI 0) x y = y := fun x y => if_neg h2
          have d2 : ∀ (x y : Option (Int32 × St)), oi (nI n ≤ a) x y = x := fun x y => if_pos h3
          simp (disch := omega) only [qlj, nI_add, pk_mul, qIX, qIN, qOB, qOL, qLE1, qLE0, qLT1, qLT0, qEQ1, qEQ0, qM0, qM1, qR, qN0, qMM, qNL1, qNL0, qNE1, qNE0, qB1, qB0, qOT, qOF, qGT, l1, o10, d, k2, d2]
      · unfold X8_fate; simp (disch := omega) only [qlj, nI_add, pk_mul, qIX, qIN, qOB, qOL, qLE1, qLE0, qLT1, qLT0, qEQ1, qEQ0, qM0, qM1, qR, qN0, qMM, qNL1, qNL0, qNE1, qNE0, qB1, qB0, qOT, qOF, qGT, l2', o10, k3', h1]
theorem ls17 {a b c : Int32} {S : St} (hI : Inv S) : ∃ S', LS_17 a b c S = some S' ∧ Inv S' := by
  obtain ⟨-, -, hL, -⟩ := id hI
  unfold LS_17
  rcases hL with ⟨l1, l2, l3⟩ | ⟨l1, l2, n, dm, T, mc, mt, ml, g, k1, k2, k3, k4, k5, k6, k7, k8, k9, k10, k11, k12, k13, k14, k15⟩
  · refine ⟨si S 75 3 (nI 0), ls_p (v := -nI 1) (S1 := S) ?_ ?_, hI.fq FQ.rf.s3⟩
    · unfold X7_dropped X3_dropNumbered; simp (disch := omega) only [qlj, nI_add, pk_mul, qIX, qIN, qOB, qOL, qLE1, qLE0, qLT1, qLT0, qEQ1, qEQ0, qM0, qM1, qR, qN0, qMM, qNL1, qNL0, qNE1, qNE0, qB1, qB0, qOT, qOF, qGT, l1]
    · unfold X8_dropped; simp (disch := omega) only [qlj, nI_add, pk_mul, qIX, qIN, qOB, qOL, qLE1, qLE0, qLT1, qLT0, qEQ1, qEQ0, qM0, qM1, qR, qN0, qMM, qNL1, qNL0, qNE1, qNE0, qB1, qB0, qOT, qOF, qGT, qG0, l2]
  · have l2' : gi (si S 75 3 (nI 0)) 75 15 = nI 1 := by rw [qG0 (by omega)]; exact l2
    have k6' : gi (si S 75 3 (nI 0)) 75 18 = nI dm := by rw [qG0 (by omega)]; exact k6
    rcases f_rng a k4 with ⟨p, hp, rfl, h1⟩ | ⟨h1, h2⟩
    · refine ⟨si S 75 3 (nI 0), ls_p (v := gi S 84 p) (S1 := S) ?_ ?_, hI.fq FQ.rf.s3⟩
      · have h51 : gi S (49 + 2) p = gi S 84 p := k8 p hp
        unfold X7_dropped X3_dropNumbered; simp (disch := omega) only [qlj, nI_add, pk_mul, qIX, qIN, qOB, qOL, qLE1, qLE0, qLT1, qLT0, qEQ1, qEQ0, qM0, qM1, qR, qN0, qMM, qNL1, qNL0, qNE1, qNE0, qB1, qB0, qOT, qOF, qGT, l1, o10, k5, h51]
      · unfold X8_dropped; simp (disch := omega) only [qlj, nI_add, pk_mul, qIX, qIN, qOB, qOL, qLE1, qLE0, qLT1, qLT0, qEQ1, qEQ0, qM0, qM1, qR, qN0, qMM, qNL1, qNL0, qNE1, qNE0, qB1, qB0, qOT, qOF, qGT, l2', o10, k6', h1, qG0]
    · refine ⟨si S 75 3 (nI 0), ls_p (v := -nI 1) (S1 := S) ?_ ?_, hI.fq FQ.rf.s3⟩
      · unfold X7_dropped X3_dropNumbered
        rcases h2 with h2 | ⟨h2, h3⟩
        · have d : ∀ (x y : Option (Int32 × St)), oi (a < nI 0) x y = x := fun x y => if_pos h2
          simp (disch := omega) only [qlj, nI_add, pk_mul, qIX, qIN, qOB, qOL, qLE1, qLE0, qLT1, qLT0, qEQ1, qEQ0, qM0, qM1, qR, qN0, qMM, qNL1, qNL0, qNE1, qNE0, qB1, qB0, qOT, qOF, qGT, l1, o10, d]
        · have d : ∀ (x y : Option (Int32 × St)), oi (a < nI 0) x y = y := fun x y => if_neg h2
          have d2 : ∀ (x y : Option (Int32 × St)), oi (nI dm ≤ a) x y = x := fun x y => if_pos h3
          simp (disch := omega) only [qlj, nI_add, pk_mul, qIX, qIN, qOB, qOL, qLE1, qLE0, qLT1, qLT0, qEQ1, qEQ0, qM0, qM1, qR, qN0, qMM, qNL1, qNL0, qNE1, qNE0, qB1, qB0, qOT, qOF, qGT, l1, o10, d, k5, d2]
      · unfold X8_dropped; simp (disch := omega) only [qlj, nI_add, pk_mul, qIX, qIN, qOB, qOL, qLE1, qLE0, qLT1, qLT0, qEQ1, qEQ0, qM0, qM1, qR, qN0, qMM, qNL1, qNL0, qNE1, qNE0, qB1, qB0, qOT, qOF, qGT, l2', o10, k6', h1]
theorem q_max0 {a b : Nat} (ha : a < 4611686018427387904) (hb : b < 4611686018427387904) : (if lN a - lN b < lN 0 then lN 0 else lN a - lN b) = lN (a - b) := by
  have hT : (lN a - lN b).toInt = (a : Int) - b := by
    rw [jL_n, jL_n, jL_sub]
    exact jL_T (by omega) (by omega)
  have h0 : (lN 0).toInt = 0 := rfl
  by_cases h : a < b
  · rw [if_pos (by rw [Int64.lt_iff_toInt_lt, hT, h0]; omega), show a - b = 0 by omega]
  · rw [if_neg (by rw [Int64.lt_iff_toInt_lt, hT, h0]; omega), lN_sub (by omega)]
theorem ls15 {a b c : Int32} {S : St} (hI : Inv S) : ∃ S', LS_15 a b c S = some S' ∧ Inv S' := by
  obtain ⟨-, -, hL, -⟩ := id hI
  unfold LS_15
  rcases hL with ⟨l1, l2, l3⟩ | ⟨l1, l2, n, dm, T, mc, mt, ml, g, k1, k2, k3, k4, k5, k6, k7, k8, k9, k10, k11, k12, ⟨m1, m2, m3, m4⟩, k14, k15⟩
  · refine ⟨si S 75 3 (nI 0), ls_p (v := -nI 1) (S1 := S) ?_ ?_, hI.fq FQ.rf.s3⟩
    · unfold X7_loadAt X3_loadAfter; simp (disch := omega) only [qlj, nI_add, pk_mul, qIX, qIN, qOB, qOL, qLE1, qLE0, qLT1, qLT0, qEQ1, qEQ0, qM0, qM1, qR, qN0, qMM, qNL1, qNL0, qNE1, qNE0, qB1, qB0, qOT, qOF, qGT, l1]
    · unfold X8_loadAt; simp (disch := omega) only [qlj, nI_add, pk_mul, qIX, qIN, qOB, qOL, qLE1, qLE0, qLT1, qLT0, qEQ1, qEQ0, qM0, qM1, qR, qN0, qMM, qNL1, qNL0, qNE1, qNE0, qB1, qB0, qOT, qOF, qGT, qG0, l2]
  · have l2' : gi (si S 75 3 (nI 0)) 75 15 = nI 1 := by rw [qG0 (by omega)]; exact l2
    have k10' : gi (si S 75 3 (nI 0)) 75 20 = nI T := by rw [qG0 (by omega)]; exact k10
    by_cases ha : a < 0
    · have hc2 : ∀ (x y : Option (Int32 × St)), oi (nI 0 ≤ a) x y = y := fun x y => if_neg (by rw [Int32.not_le]; exact ha)
      refine ⟨si S 75 3 (nI 0), ls_p (v := -nI 1) (S1 := S) ?_ ?_, hI.fq FQ.rf.s3⟩
      · unfold X7_loadAt X3_loadAfter; simp (disch := omega) only [qlj, nI_add, pk_mul, qIX, qIN, qOB, qOL, qLE1, qLE0, qLT1, qLT0, qEQ1, qEQ0, qM0, qM1, qR, qN0, qMM, qNL1, qNL0, qNE1, qNE0, qB1, qB0, qOT, qOF, qGT, l1, o10, hc2]
      · unfold X8_loadAt; simp (disch := omega) only [qlj, nI_add, pk_mul, qIX, qIN, qOB, qOL, qLE1, qLE0, qLT1, qLT0, qEQ1, qEQ0, qM0, qM1, qR, qN0, qMM, qNL1, qNL0, qNE1, qNE0, qB1, qB0, qOT, qOF, qGT, l2', o10, hc2]
    · obtain ⟨τ, hτ, rfl⟩ := nI_of ha
      have hτ' : τ < 2147483648 := hτ
      obtain ⟨p1, p2, p3⟩ := qfnd_sp (P := fun j => decide (τ < mt j)) mc
      generalize hK : qfnd (fun j => decide (τ < mt j)) mc = K at *
      have hlow : ∀ j, j < K → mt j ≤ τ := fun j hj => by have := p3 j hj; simpa using this
      have hloop : X3_loadAfter_18L 49 (nI τ) (lN 0, nI 0) S = some (lN (qmk mt ml g mc τ), S) := by
        have hq : qmk mt ml g mc τ = qmk mt ml g K τ := qmk_skip p1 (fun j h5 h6 => by
          have h7 : τ < mt K := by simpa using p2 (by omega)
          by_cases e : j = K
          · rw [e]; exact h7
          · have := m4 K j (by omega) h6; omega)
        rw [hq]
        unfold X3_loadAfter_18L
        refine lp_same (body := fun (a : Int64 × Int32) (S : St) => X3_loadAfter_18 49 (nI τ) a.1 a.2 S) K (fun i => (lN (qmk mt ml g i τ), nI i)) (fun i hi => ?_) ?_
        · have hm := m3 i (by omega)
          have h3 : gi S (49 + 3) i = nI (mt i) := hm.1
          have h4 : gi S (49 + 4) i = nI (ml i) := hm.2.1
          have h5 := hlow i hi
          have h6 : gi S 49 6 = nI mc := m2
          have x1 : (nI (ml i)).toInt64 = lN (ml i) := nI_l (show ml i < 2 ^ 31 by omega)
          have x2 : (nI g).toInt64 = lN g := nI_l (show g < 2 ^ 31 by omega)
          have x3 : (nI (τ - mt i)).toInt64 = lN (τ - mt i) := nI_l (show τ - mt i < 2 ^ 31 by omega)
          have hmul : g * (τ - mt i) ≤ 100 * 2147483648 := Nat.mul_le_mul k12 (by omega)
          have x4 := q_max0 (a := ml i) (b := g * (τ - mt i)) (by omega) (by omega)
          show X3_loadAfter_18 49 (nI τ) (lN (qmk mt ml g i τ)) (nI i) S = _
          rw [qmk, if_pos h5]
          unfold X3_loadAfter_18
          simp only [q64]
          simp (disch := omega) only [qlj, nI_add, pk_mul, qIX, qIN, qOB, qOL, qLE1, qLE0, qLT1, qLT0, qEQ1, qEQ0, qM0, qM1, qR, qN0, qMM, qNL1, qNL0, qNE1, qNE0, qB1, qB0, qOT, qOF, qGT, h6, h3, h4, k11, qSUB, x1, x2, x3, lN_mul, x4]
        · have h6 : gi S 49 6 = nI mc := m2
          show X3_loadAfter_18 49 (nI τ) (lN (qmk mt ml g K τ)) (nI K) S = _
          unfold X3_loadAfter_18
          by_cases h7 : K < mc
          · have hm := m3 K h7
            have h3 : gi S (49 + 3) K = nI (mt K) := hm.1
            have h8 : τ < mt K := by simpa using p2 h7
            simp (disch := omega) only [qlj, nI_add, pk_mul, qIX, qIN, qOB, qOL, qLE1, qLE0, qLT1, qLT0, qEQ1, qEQ0, qM0, qM1, qR, qN0, qMM, qNL1, qNL0, qNE1, qNE0, qB1, qB0, qOT, qOF, qGT, h6, h3]
          · simp (disch := omega) only [qlj, nI_add, pk_mul, qIX, qIN, qOB, qOL, qLE1, qLE0, qLT1, qLT0, qEQ1, qEQ0, qM0, qM1, qR, qN0, qMM, qNL1, qNL0, qNE1, qNE0, qB1, qB0, qOT, qOF, qGT, h6]
      have hx7 : X7_loadAt (nI τ) S = some (nI (qmk mt ml g mc τ), S) := by
        unfold X7_loadAt X3_loadAfter
        simp only [q64]
        simp (disch := omega) only [qlj, nI_add, pk_mul, qIX, qIN, qOB, qOL, qLE1, qLE0, qLT1, qLT0, qEQ1, qEQ0, qM0, qM1, qR, qN0, qMM, qNL1, qNL0, qNE1, qNE0, qB1, qB0, qOT, qOF, qGT, l1, o10, hloop, lN_i]
      refine ⟨si S 75 3 (nI 0), ls_p (v := nI (qmk mt ml g mc τ)) (S1 := S) hx7 ?_, hI.fq FQ.rf.s3⟩
      unfold X8_loadAt
      rcases Nat.lt_or_ge τ T with h | h
      · have h85 : gi (si S 75 3 (nI 0)) 85 τ = nI (qmk mt ml g mc τ) := by rw [qG0 (by omega)]; exact k14 τ h
        simp (disch := omega) only [qlj, nI_add, pk_mul, qIX, qIN, qOB, qOL, qLE1, qLE0, qLT1, qLT0, qEQ1, qEQ0, qM0, qM1, qR, qN0, qMM, qNL1, qNL0, qNE1, qNE0, qB1, qB0, qOT, qOF, qGT, l2', o10, k10', h85]
      · have h0 := k15 τ h
        simp (disch := omega) only [qlj, nI_add, pk_mul, qIX, qIN, qOB, qOL, qLE1, qLE0, qLT1, qLT0, qEQ1, qEQ0, qM0, qM1, qR, qN0, qMM, qNL1, qNL0, qNE1, qNE0, qB1, qB0, qOT, qOF, qGT, l2', o10, k10', h0]
theorem ls16 {a b c : Int32} {S : St} (hI : Inv S) : ∃ S', LS_16 a b c S = some S' ∧ Inv S' := by
  obtain ⟨-, -, hL, -⟩ := id hI
  unfold LS_16
  rcases hL with ⟨l1, l2, l3⟩ | ⟨l1, l2, n, dm, T, mc, mt, ml, g, k1, k2, k3, k4, k5, k6, k7, k8, k9, k10, k11, k12, ⟨m1, m2, m3, m4⟩, k14, k15⟩
  · have l3' : gi (si S 75 3 (nI 0)) 75 20 = nI 0 := by rw [qG0 (by omega)]; exact l3
    have l2' : gi (si S 75 3 (nI 0)) 75 15 = nI 0 := by rw [qG0 (by omega)]; exact l2
    have hl : X8_peak_20L (-nI 1, nI 0) (si S 75 3 (nI 0)) = some (-nI 1, si S 75 3 (nI 0)) := by
      unfold X8_peak_20L
      refine lp_end ?_
      show X8_peak_20 (-nI 1) (nI 0) (si S 75 3 (nI 0)) = _
      unfold X8_peak_20
      rw [l3']
      exact if_pos (Int32.le_refl _)
    refine ⟨si S 75 3 (nI 0), ls_p (v := -nI 1) (S1 := S) ?_ ?_, hI.fq FQ.rf.s3⟩
    · unfold X7_peak X3_greatestLoad; simp (disch := omega) only [qlj, nI_add, pk_mul, qIX, qIN, qOB, qOL, qLE1, qLE0, qLT1, qLT0, qEQ1, qEQ0, qM0, qM1, qR, qN0, qMM, qNL1, qNL0, qNE1, qNE0, qB1, qB0, qOT, qOF, qGT, l1]
    · unfold X8_peak X8_peak_17; simp (disch := omega) only [qlj, nI_add, pk_mul, qIX, qIN, qOB, qOL, qLE1, qLE0, qLT1, qLT0, qEQ1, qEQ0, qM0, qM1, qR, qN0, qMM, qNL1, qNL0, qNE1, qNE0, qB1, qB0, qOT, qOF, qGT, l2', hl]
  · have l2' : gi (si S 75 3 (nI 0)) 75 15 = nI 1 := by rw [qG0 (by omega)]; exact l2
    have k10' : gi (si S 75 3 (nI 0)) 75 20 = nI T := by rw [qG0 (by omega)]; exact k10
    have hb : ∀ j, j < mc → ml j ≤ 4000 := fun j hj => (m3 j hj).2.2.2
    have hmxl : ∀ i, i ≤ mc → qmx ml i ≤ 4000 := fun i hi => by
      rcases (qmx_sp (v := ml) i).2 with h | ⟨j, h1, h2⟩
      · omega
      · have := hb j (by omega); omega
    have hmxk : ∀ i, qmx (qmk mt ml g mc) i ≤ 4000 := fun i => by
      rcases (qmx_sp (v := qmk mt ml g mc) i).2 with h | ⟨j, h1, h2⟩
      · omega
      · rw [h2]; exact qmk_bd hb
    have h7 : X3_greatestLoad_13L 49 (nI 0, nI 0) S = some (nI (qmx ml mc), S) := by
      unfold X3_greatestLoad_13L
      refine lp_same (body := fun (a : Int32 × Int32) (S : St) => X3_greatestLoad_13 49 a.1 a.2 S) mc (fun i => (nI (qmx ml i), nI i)) (fun i hi => ?_) ?_
      · have hm := m3 i hi
        have h4 : gi S (49 + 4) i = nI (ml i) := hm.2.1
        have h6 : gi S 49 6 = nI mc := m2
        have d1 := hb i hi
        have d2 := hmxl i (by omega)
        show X3_greatestLoad_13 49 (nI (qmx ml i)) (nI i) S = _
        rw [qmx]
        unfold X3_greatestLoad_13
        by_cases h : ml i ≤ qmx ml i
        · rw [if_pos h]; simp (disch := omega) only [qlj, nI_add, pk_mul, qIX, qIN, qOB, qOL, qLE1, qLE0, qLT1, qLT0, qEQ1, qEQ0, qM0, qM1, qR, qN0, qMM, qNL1, qNL0, qNE1, qNE0, qB1, qB0, qOT, qOF, qGT, h6, h4, qTL0]
        · rw [if_neg h]; simp (disch := omega) only [qlj, nI_add, pk_mul, qIX, qIN, qOB, qOL, qLE1, qLE0, qLT1, qLT0, qEQ1, qEQ0, qM0, qM1, qR, qN0, qMM, qNL1, qNL0, qNE1, qNE0, qB1, qB0, qOT, qOF, qGT, h6, h4, qTL1]
      · have h6 : gi S 49 6 = nI mc := m2
        show X3_greatestLoad_13 49 (nI (qmx ml mc)) (nI mc) S = _
        unfold X3_greatestLoad_13
        simp (disch := omega) only [qlj, nI_add, pk_mul, qIX, qIN, qOB, qOL, qLE1, qLE0, qLT1, qLT0, qEQ1, qEQ0, qM0, qM1, qR, qN0, qMM, qNL1, qNL0, qNE1, qNE0, qB1, qB0, qOT, qOF, qGT, h6]
    have h8 : X8_peak_20L (nI 0, nI 0) (si S 75 3 (nI 0)) = some (nI (qmx (qmk mt ml g mc) T), si S 75 3 (nI 0)) := by
      unfold X8_peak_20L
      refine lp_same (body := fun (a : Int32 × Int32) (S : St) => X8_peak_20 a.1 a.2 S) T (fun i => (nI (qmx (qmk mt ml g mc) i), nI i)) (fun i hi => ?_) ?_
      · have h85 : gi (si S 75 3 (nI 0)) 85 i = nI (qmk mt ml g mc i) := by rw [qG0 (by omega)]; exact k14 i hi
        have d1 := qmk_bd (mt := mt) (g := g) (τ := i) hb
        have d2 := hmxk i
        show X8_peak_20 (nI (qmx (qmk mt ml g mc) i)) (nI i) (si S 75 3 (nI 0)) = _
        rw [qmx]
        unfold X8_peak_20
        by_cases h : qmk mt ml g mc i ≤ qmx (qmk mt ml g mc) i
        · rw [if_pos h]; simp (disch := omega) only [qlj, nI_add, pk_mul, qIX, qIN, qOB, qOL, qLE1, qLE0, qLT1, qLT0, qEQ1, qEQ0, qM0, qM1, qR, qN0, qMM, qNL1, qNL0, qNE1, qNE0, qB1, qB0, qOT, qOF, qGT, k10', h85]
        · rw [if_neg h]; simp (disch := omega) only [qlj, nI_add, pk_mul, qIX, qIN, qOB, qOL, qLE1, qLE0, qLT1, qLT0, qEQ1, qEQ0, qM0, qM1, qR, qN0, qMM, qNL1, qNL0, qNE1, qNE0, qB1, qB0, qOT, qOF, qGT, k10', h85]
      · show X8_peak_20 (nI (qmx (qmk mt ml g mc) T)) (nI T) (si S 75 3 (nI 0)) = _
        unfold X8_peak_20
        simp (disch := omega) only [qlj, nI_add, pk_mul, qIX, qIN, qOB, qOL, qLE1, qLE0, qLT1, qLT0, qEQ1, qEQ0, qM0, qM1, qR, qN0, qMM, qNL1, qNL0, qNE1, qNE0, qB1, qB0, qOT, qOF, qGT, k10']
    rw [qmx_eq m4 k15] at h8
    refine ⟨si S 75 3 (nI 0), ls_p (v := nI (qmx ml mc)) (S1 := S) ?_ ?_, hI.fq FQ.rf.s3⟩
    · unfold X7_peak X3_greatestLoad; simp (disch := omega) only [qlj, nI_add, pk_mul, qIX, qIN, qOB, qOL, qLE1, qLE0, qLT1, qLT0, qEQ1, qEQ0, qM0, qM1, qR, qN0, qMM, qNL1, qNL0, qNE1, qNE0, qB1, qB0, qOT, qOF, qGT, l1, o10, h7]
    · unfold X8_peak X8_peak_17; simp (disch := omega) only [qlj, nI_add, pk_mul, qIX, qIN, qOB, qOL, qLE1, qLE0, qLT1, qLT0, qEQ1, qEQ0, qM0, qM1, qR, qN0, qMM, qNL1, qNL0, qNE1, qNE0, qB1, qB0, qOT, qOF, qGT, l2', o10, h8]
