/-! ===== serving keeps the queue in order; bytes one by one, or in pieces ===== -/
theorem qbp_sp {r : Rd} {Q : Qt} : qbp r Q ≤ Q.m ∧ (qbp r Q < Q.m → Q.R (Q.w (qbp r Q)) ≠ r.z (Q.w (qbp r Q))) ∧ (∀ j, j < qbp r Q → Q.R (Q.w j) = r.z (Q.w j)) := by
  obtain ⟨a, b, c⟩ := qfnd_sp (P := qbg r.z Q.w Q.R) Q.m
  unfold qbp
  exact ⟨a, fun h => by have := b h; simpa [qbg] using this, fun j hj => by have := c j hj; simpa [qbg] using this⟩
theorem qck_QI {r : Rd} {Q : Qt} {cur b s : Nat} (hI : QI r cur Q) (hm : 0 < Q.m) (hs : 1 ≤ s) (hs2 : s ≤ Q.R (Q.w (qch r Q))) (hf : ∀ p, p < cur → r.f p < 6) : QI r cur (qck r b s Q) := by
  have hk := qch_lt (r := r) hm
  have hlf : qlf r Q < 6 := by
    unfold qlf
    split
    · exact hI.2.2.2.2
    · exact hf _ (hI.2.1 _ hk).1
  have hu : ∀ i, i < Q.m → Q.R (Q.w i) ≠ r.z (Q.w i) → i = qch r Q := fun i hi hb => ((qch_bg hI hi hb).2).symm
  obtain ⟨h1, h2, h3, h4, h5⟩ := hI
  unfold qck
  split
  · have hd : ∀ i, i < Q.m - 1 → (if i < qch r Q then i else i + 1) < Q.m ∧ (if i < qch r Q then i else i + 1) ≠ qch r Q := by
      intro i hi
      split <;> omega
    have hR : ∀ i, i < Q.m - 1 → qup Q.R (Q.w (qch r Q)) 0 (qdel Q.w (qch r Q) i) = Q.R (Q.w (if i < qch r Q then i else i + 1)) ∧ qdel Q.w (qch r Q) i = Q.w (if i < qch r Q then i else i + 1) := by
      intro i hi
      rw [qdel_get]
      exact ⟨qup_n (fun e => (hd i hi).2 (h1 _ _ (hd i hi).1 hk e)), rfl⟩
    refine ⟨fun i j hi hj e => ?_, fun i hi => ?_, fun i j hi hj e1 e2 => ?_, ?_, hlf⟩
    · simp only [qt_m, qt_w, qt_R, qt_lf, qt_F, qt_dm, qt_D, qt_cn, qt_nc] at hi hj e
      rw [qdel_get, qdel_get] at e
      have := h1 _ _ (hd i hi).1 (hd j hj).1 e
      split at this <;> split at this <;> omega
    · simp only [qt_m, qt_w, qt_R, qt_lf, qt_F, qt_dm, qt_D, qt_cn, qt_nc] at hi ⊢
      rw [(hR i hi).1, (hR i hi).2]
      exact h2 _ (hd i hi).1
    · simp only [qt_m, qt_w, qt_R, qt_lf, qt_F, qt_dm, qt_D, qt_cn, qt_nc] at hi hj e1 e2
      rw [(hR i hi).1, (hR i hi).2] at e1
      exact absurd (hu _ (hd i hi).1 e1) (hd i hi).2
    · simp only [qt_m, qt_w, qt_R, qt_lf, qt_F, qt_dm, qt_D, qt_cn, qt_nc]; omega
  · rename_i hne
    have hR : ∀ i, i < Q.m → i ≠ qch r Q → qup Q.R (Q.w (qch r Q)) (Q.R (Q.w (qch r Q)) - s) (Q.w i) = Q.R (Q.w i) := fun i hi hn => qup_n (fun e => hn (h1 _ _ hi hk e))
    refine ⟨h1, fun i hi => ?_, fun i j hi hj e1 e2 => ?_, h4, hlf⟩
    · simp only [qt_m, qt_w, qt_R, qt_lf, qt_F, qt_dm, qt_D, qt_cn, qt_nc] at hi ⊢
      by_cases hn : i = qch r Q
      · subst hn
        have := h2 _ hk
        rw [qup_s]
        exact ⟨this.1, by omega, by omega⟩
      · rw [hR i hi hn]
        exact h2 i hi
    · simp only [qt_m, qt_w, qt_R, qt_lf, qt_F, qt_dm, qt_D, qt_cn, qt_nc] at hi hj e1 e2
      have hx : ∀ i, i < Q.m → qup Q.R (Q.w (qch r Q)) (Q.R (Q.w (qch r Q)) - s) (Q.w i) ≠ r.z (Q.w i) → i = qch r Q := by
        intro i hi e
        by_cases hn : i = qch r Q
        · exact hn
        · rw [hR i hi hn] at e
          exact hu i hi e
      rw [hx i hi e1, hx j hj e2]
theorem qck_ld {r : Rd} {Q : Qt} {cur b s : Nat} (hI : QI r cur Q) (hm : 0 < Q.m) (hs2 : s ≤ Q.R (Q.w (qch r Q))) : qld (qck r b s Q) + s = qld Q := by
  have hk := qch_lt (r := r) hm
  obtain ⟨h1, h2, h3, h4, h5⟩ := hI
  unfold qck
  split
  · rename_i he
    obtain ⟨n, hn⟩ : ∃ n, Q.m = n + 1 := ⟨Q.m - 1, by omega⟩
    have e := qsm_del (v := fun k => Q.R (Q.w k)) (k := qch r Q) (m := n) (by omega)
    unfold qld
    simp only [qt_m, qt_w, qt_R, qt_lf, qt_F, qt_dm, qt_D, qt_cn, qt_nc] at ⊢
    rw [hn, ← e, he, Nat.add_sub_cancel]
    congr 1
    refine qsm_congr (fun j hj => ?_)
    rw [qdel_get]
    exact qup_n (fun e => by
      have := h1 _ _ (by split <;> omega) hk e
      split at this <;> omega)
  · unfold qld
    simp only [qt_m, qt_w, qt_R, qt_lf, qt_F, qt_dm, qt_D, qt_cn, qt_nc]
    refine qsm_one (k := qch r Q) hk (fun j hj hn => qup_n (fun e => hn (h1 _ _ hj hk e))) ?_
    show qup _ _ _ _ + s = _
    rw [qup_s]
    omega
theorem qld_0 {r : Rd} {Q : Qt} {cur : Nat} (hI : QI r cur Q) : qld Q = 0 ↔ Q.m = 0 := by
  constructor
  · intro h
    have := qsm_ge (v := fun k => Q.R (Q.w k)) (m := Q.m) (fun k hk => (hI.2.1 k hk).2.1)
    unfold qld at h
    omega
  · intro h; unfold qld; rw [h]; rfl
theorem qb1_QI {r : Rd} {Q : Qt} {cur b : Nat} (hI : QI r cur Q) (hf : ∀ p, p < cur → r.f p < 6) : QI r cur (qb1 r b Q) := by
  unfold qb1
  split
  · exact hI
  · exact qck_QI hI (by omega) (Nat.le_refl 1) (hI.2.1 _ (qch_lt (by omega))).2.1 hf
theorem qrun_QI {r : Rd} {cur : Nat} (hf : ∀ p, p < cur → r.f p < 6) : ∀ (s b : Nat) (Q : Qt), QI r cur Q → QI r cur (qrun r b s Q) := by
  intro s
  induction s with
  | zero => intro b Q h; exact h
  | succ s ih => intro b Q h; exact ih (b + 1) _ (qb1_QI h hf)
theorem qrun_ld {r : Rd} {cur : Nat} (hf : ∀ p, p < cur → r.f p < 6) : ∀ (s b : Nat) (Q : Qt), QI r cur Q → qld (qrun r b s Q) = qld Q - s := by
  intro s
  induction s with
  | zero => intro b Q h; rfl
  | succ s ih =>
    intro b Q h
    show qld (qrun r (b + 1) s (qb1 r b Q)) = _
    rw [ih (b + 1) _ (qb1_QI h hf)]
    unfold qb1
    split
    · rename_i hm
      rw [(qld_0 h).mpr hm]; omega
    · have := qck_ld (r := r) (b := b) (s := 1) h (by omega) (h.2.1 _ (qch_lt (by omega))).2.1
      omega
theorem qrun_0 {r : Rd} : ∀ (s b : Nat) (Q : Qt), Q.m = 0 → qrun r b s Q = Q := by
  intro s
  induction s with
  | zero => intro b Q h; rfl
  | succ s ih =>
    intro b Q h
    show qrun r (b + 1) s (qb1 r b Q) = Q
    have e : qb1 r b Q = Q := if_pos h
    rw [e]
    exact ih (b + 1) Q h
/-- a piece of one packet is as many single bytes -/
theorem qrun_ck {r : Rd} {cur : Nat} (hf : ∀ p, p < cur → r.f p < 6) : ∀ (s b : Nat) (Q : Qt), QI r cur Q → 0 < Q.m → 1 ≤ s → s ≤ Q.R (Q.w (qch r Q)) → qrun r b s Q = qck r b s Q := by
  intro s
  induction s with
  | zero => intro b Q _ _ h; omega
  | succ s ih =>
    intro b Q hI hm hs hs2
    have hb : qb1 r b Q = qck r b 1 Q := if_neg (by omega)
    by_cases hs0 : s = 0
    · subst hs0
      show qb1 r b Q = _
      exact hb
    · have hk := qch_lt (r := r) hm
      have hz := (hI.2.1 _ hk).2.2
      have h1 : qck r b 1 Q = (Q.m, Q.w, qup Q.R (Q.w (qch r Q)) (Q.R (Q.w (qch r Q)) - 1), qlf r Q, Q.F, Q.dm, Q.D, Q.cn, Q.nc) := if_neg (by omega)
      have hI1 : QI r cur (qck r b 1 Q) := qck_QI hI hm (Nat.le_refl 1) (by omega) hf
      show qrun r (b + 1) s (qb1 r b Q) = _
      rw [hb]
      have hg := qch_bg (r := r) (Q := qck r b 1 Q) (i := qch r Q) hI1 (by rw [h1]; exact hk) (by
        rw [h1]
        show qup Q.R (Q.w (qch r Q)) (Q.R (Q.w (qch r Q)) - 1) (Q.w (qch r Q)) ≠ r.z (Q.w (qch r Q))
        rw [qup_s]
        omega)
      have hl : qlf r (qck r b 1 Q) = qlf r Q := by
        have e : (qck r b 1 Q).lf = qlf r Q := by rw [h1]; rfl
        rw [← e]
        exact if_pos (by rw [hg.1, h1]; exact hk)
      have hR : (qck r b 1 Q).R ((qck r b 1 Q).w (qch r (qck r b 1 Q))) = Q.R (Q.w (qch r Q)) - 1 := by
        rw [hg.2, h1]
        exact qup_s
      rw [ih (b + 1) _ hI1 (by rw [h1]; exact hm) (by omega) (by rw [hR]; omega)]
      unfold qck
      rw [show (if Q.R (Q.w (qch r Q)) = 1 then (Q.m - 1, qdel Q.w (qch r Q), qup Q.R (Q.w (qch r Q)) 0, qlf r Q, qup Q.F (Q.w (qch r Q)) (nI ((b + 1 - 1) / r.g 1)), Q.dm, Q.D, Q.cn, Q.nc) else (Q.m, Q.w, qup Q.R (Q.w (qch r Q)) (Q.R (Q.w (qch r Q)) - 1), qlf r Q, Q.F, Q.dm, Q.D, Q.cn, Q.nc)) = qck r b 1 Q from rfl]
      rw [hR, hl, hg.2, h1]
      simp only [qt_m, qt_w, qt_R, qt_lf, qt_F, qt_dm, qt_D, qt_cn, qt_nc]
      rw [qup_up, qup_up]
      by_cases he : Q.R (Q.w (qch r Q)) = s + 1
      · rw [if_pos (show Q.R (Q.w (qch r Q)) - 1 = s by omega), if_pos he, show b + 1 + s - 1 = b + (s + 1) - 1 by omega]
      · rw [if_neg (show ¬ Q.R (Q.w (qch r Q)) - 1 = s by omega), if_neg he, show Q.R (Q.w (qch r Q)) - 1 - s = Q.R (Q.w (qch r Q)) - (s + 1) by omega]
/-- fates are stamped with ticks between the packet's own and the last one -/
def QF (r : Rd) (cur : Nat) (Q : Qt) : Prop := (∀ p, cur ≤ p → Q.F p = -nI 3) ∧ ∀ p, p < cur → Q.F p = -nI 3 ∨ Q.F p = -nI 2 ∨ ∃ x, Q.F p = nI x ∧ r.t p ≤ x ∧ x ≤ 4600
theorem qb1_QF {r : Rd} {Q : Qt} {cur b : Nat} (hI : QI r cur Q) (hF : QF r cur Q) (hb : ∀ p, p < cur → r.t p ≤ b / r.g 1) (hb2 : b / r.g 1 ≤ 4600) : QF r cur (qb1 r b Q) := by
  unfold qb1
  split
  · exact hF
  · have hk := qch_lt (r := r) (Q := Q) (by omega)
    have hw := (hI.2.1 _ hk).1
    unfold qck
    split
    · refine ⟨fun p hp => ?_, fun p hp => ?_⟩
      · show qup Q.F _ _ p = _
        rw [qup_n (by omega)]
        exact hF.1 p hp
      · show qup Q.F _ _ p = _ ∨ qup Q.F _ _ p = _ ∨ ∃ x, qup Q.F _ _ p = _ ∧ _
        by_cases e : p = Q.w (qch r Q)
        · subst e
          rw [qup_s, Nat.add_sub_cancel]
          exact Or.inr (Or.inr ⟨_, rfl, hb _ hw, hb2⟩)
        · rw [qup_n e]
          exact hF.2 p hp
    · exact hF
theorem qrun_QF {r : Rd} {cur : Nat} (hf : ∀ p, p < cur → r.f p < 6) : ∀ (s b : Nat) (Q : Qt), QI r cur Q → QF r cur Q → (∀ p, p < cur → r.t p ≤ b / r.g 1) → (b + s) / r.g 1 ≤ 4600 → QF r cur (qrun r b s Q) := by
  intro s
  induction s with
  | zero => intro b Q _ h _ _; exact h
  | succ s ih =>
    intro b Q hI hF h1 h2
    have e1 : b / r.g 1 ≤ (b + 1) / r.g 1 := Nat.div_le_div_right (by omega)
    have e2 : b / r.g 1 ≤ (b + (s + 1)) / r.g 1 := Nat.div_le_div_right (by omega)
    exact ih (b + 1) _ (qb1_QI hI hf) (qb1_QF hI hF h1 (by omega)) (fun p hp => Nat.le_trans (h1 p hp) e1) (by rw [show b + 1 + s = b + (s + 1) by omega]; exact h2)
/-- what a run leaves: drops, counts, the least refused amount -/
theorem qrun_st {r : Rd} : ∀ (s b : Nat) (Q : Qt), (qrun r b s Q).dm = Q.dm ∧ (qrun r b s Q).D = Q.D ∧ (qrun r b s Q).cn = Q.cn ∧ (qrun r b s Q).nc = Q.nc := by
  intro s
  induction s with
  | zero => intro b Q; exact ⟨rfl, rfl, rfl, rfl⟩
  | succ s ih =>
    intro b Q
    have e : (qb1 r b Q).dm = Q.dm ∧ (qb1 r b Q).D = Q.D ∧ (qb1 r b Q).cn = Q.cn ∧ (qb1 r b Q).nc = Q.nc := by
      unfold qb1 qck
      split
      · exact ⟨rfl, rfl, rfl, rfl⟩
      · split <;> exact ⟨rfl, rfl, rfl, rfl⟩
    obtain ⟨h1, h2, h3, h4⟩ := ih (b + 1) (qb1 r b Q)
    exact ⟨h1.trans e.1, h2.trans e.2.1, h3.trans e.2.2.1, h4.trans e.2.2.2⟩
