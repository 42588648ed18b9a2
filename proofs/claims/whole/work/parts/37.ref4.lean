/-! ===== the reference's replay ===== -/
def qAp (r : Rd) (c π s p : Nat) : Qt := qA r c π s p (qpl r c π s p)
def qB (r : Rd) (c π s : Nat) : Nat → Nat → Qt
  | 0, _ => qQ0
  | p + 1, τ => qrun r (r.t p * r.g 1) ((τ - r.t p) * r.g 1) (qAp r c π s p)
theorem qB_s {r : Rd} {c π s p τ : Nat} : qB r c π s (p + 1) τ = qrun r (r.t p * r.g 1) ((τ - r.t p) * r.g 1) (qAp r c π s p) := rfl
/-- the load at the end of a tick, by the packets below p -/
def qL (r : Rd) (c π s : Nat) : Nat → Nat → Nat
  | 0, _ => 0
  | p + 1, τ => if r.t p ≤ τ then qld (qAp r c π s p) - (τ + 1 - r.t p) * r.g 1 else qL r c π s p τ
theorem qpl_s {r : Rd} {c π s p : Nat} : qpl r c π s (p + 1) = qrun r (r.t p * r.g 1) (if p + 1 < r.n then (r.t (p + 1) - r.t p) * r.g 1 else qld (qAp r c π s p)) (qAp r c π s p) := rfl
theorem qAp_I {r : Rd} {c π s p : Nat} (hW : RW r) (hp : p < r.n) : QI r (p + 1) (qAp r c π s p) ∧ QF r (p + 1) (qAp r c π s p) := by
  obtain ⟨a, b⟩ := qpl_I (c := c) (π := π) (s := s) hW p (by omega)
  exact qA_QI a b (hW.2.1 p hp).2.2.1
theorem qA_cn {r : Rd} {c π s p x : Nat} {Q : Qt} (h : Q.cn ≤ x) : (qA r c π s p Q).cn ≤ x + 1 := by
  unfold qA
  split
  · have hr : (qroom r c π p 41 Q).2.cn ≤ x := qroom_ind (fun Q => Q.cn ≤ x) (fun x Q h => h) (fun k Q hk h => h) 41 Q h
    have ha : (qadm r c π p Q).2.cn ≤ x + 1 := by
      unfold qadm
      split
      · exact Nat.le_succ_of_le h
      · split
        · exact Nat.le_succ_of_le hr
        · split
          · split <;> exact Nat.le_succ_of_le hr
          · split
            · exact Nat.succ_le_succ hr
            · exact Nat.le_succ_of_le hr
    unfold qarr
    split <;> exact ha
  · omega
theorem qpl_cn {r : Rd} {c π s : Nat} : ∀ p, (qpl r c π s p).cn ≤ p := by
  intro p
  induction p with
  | zero => exact Nat.le_refl _
  | succ p ih =>
    rw [qpl_s, (qrun_st _ _ _).2.2.1]
    exact qA_cn ih
theorem qB_cn {r : Rd} {c π s p τ : Nat} : (qB r c π s p τ).cn ≤ p := by
  cases p with
  | zero => exact Nat.le_refl _
  | succ p =>
    rw [qB_s]
    rw [(qrun_st _ _ _).2.2.1]
    exact qA_cn (qpl_cn p)
theorem qB_I {r : Rd} {c π s p τ : Nat} (hW : RW r) (hp : p ≤ r.n) : QI r p (qB r c π s p τ) := by
  cases p with
  | zero => exact qQ0_I.1
  | succ p =>
    rw [qB_s]
    exact qrun_QI (fun q hq => (hW.2.1 q (by omega)).2.1) _ _ _ (qAp_I hW (by omega)).1
theorem qB_pl {r : Rd} {c π s p : Nat} (hp : p < r.n) : qB r c π s p (r.t p) = qpl r c π s p := by
  cases p with
  | zero => rfl
  | succ p => rw [qpl_s, if_pos hp]; rfl
theorem qB_A {r : Rd} {c π s p : Nat} : qB r c π s (p + 1) (r.t p) = qAp r c π s p := by
  rw [qB_s]
  rw [Nat.sub_self, Nat.zero_mul]
  rfl
theorem qB_run {r : Rd} {c π s p τ : Nat} (h : ∀ q, q < p → r.t q ≤ τ) : qrun r (τ * r.g 1) (r.g 1) (qB r c π s p τ) = qB r c π s p (τ + 1) := by
  cases p with
  | zero => exact qrun_0 _ _ _ rfl
  | succ p =>
    have h1 := h p (by omega)
    rw [qB_s, qB_s]
    rw [show (τ + 1 - r.t p) * r.g 1 = (τ - r.t p) * r.g 1 + r.g 1 by rw [show τ + 1 - r.t p = (τ - r.t p) + 1 by omega, Nat.add_mul, Nat.one_mul], qrun_add, ← Nat.add_mul, show r.t p + (τ - r.t p) = τ by omega]
theorem qB_ld {r : Rd} {c π s p τ : Nat} (hW : RW r) (hp : p < r.n) : qld (qB r c π s (p + 1) τ) = qld (qAp r c π s p) - (τ - r.t p) * r.g 1 := by
  rw [qB_s]
  exact qrun_ld (fun q hq => (hW.2.1 q (by omega)).2.1) _ _ _ (qAp_I hW hp).1
theorem qAp_out {r : Rd} {c π s p : Nat} (h : s / 2 ^ r.f p % 2 ≠ 1) : qAp r c π s p = qpl r c π s p := if_neg h
theorem qL_skip {r : Rd} {c π s p τ : Nat} (hW : RW r) (hp : p < r.n) (h : s / 2 ^ r.f p % 2 ≠ 1) : qL r c π s (p + 1) τ = qL r c π s p τ := by
  rw [qL]
  split
  · rename_i h1
    rw [qAp_out h]
    cases p with
    | zero => exact Nat.zero_sub _
    | succ p =>
      have h2 := hW.2.2.1 p (p + 1) (by omega) hp
      rw [← qB_pl hp, qB_ld hW (by omega), qL, if_pos (by omega), Nat.sub_sub, ← Nat.add_mul, show r.t (p + 1) - r.t p + (τ + 1 - r.t (p + 1)) = τ + 1 - r.t p by omega]
  · rfl
theorem qL_to {r : Rd} {c π s p τ : Nat} (hW : RW r) (h : ∀ q, p ≤ q → q < r.n → s / 2 ^ r.f q % 2 ≠ 1 ∨ τ < r.t q) : ∀ j, p + j ≤ r.n → qL r c π s (p + j) τ = qL r c π s p τ := by
  intro j
  induction j with
  | zero => intro _; rfl
  | succ j ih =>
    intro hj
    rw [← ih (by omega), ← Nat.add_assoc]
    rcases h (p + j) (by omega) (by omega) with h1 | h1
    · exact qL_skip hW (by omega) h1
    · rw [qL, if_neg (by omega)]
theorem qL_n {r : Rd} {c π s p τ : Nat} (hW : RW r) (hp : p ≤ r.n) (h : ∀ q, p ≤ q → q < r.n → s / 2 ^ r.f q % 2 ≠ 1 ∨ τ < r.t q) : qL r c π s r.n τ = qL r c π s p τ := by
  have := qL_to (c := c) (π := π) hW h (r.n - p) (by omega)
  rwa [show p + (r.n - p) = r.n by omega] at this
/-- the load of the reference's queue at the end of a tick -/
theorem qB_L {r : Rd} {c π s p τ : Nat} (hW : RW r) (hp : p ≤ r.n) (h0 : ∀ q, q < p → r.t q ≤ τ) (h : ∀ q, p ≤ q → q < r.n → s / 2 ^ r.f q % 2 ≠ 1 ∨ τ < r.t q) : qld (qB r c π s p (τ + 1)) = qL r c π s r.n τ := by
  rw [qL_n hW hp h]
  cases p with
  | zero => rfl
  | succ p => rw [qB_ld hW (by omega), qL, if_pos (h0 p (by omega))]
/-- more bytes than there are -/
theorem qrun_end {r : Rd} {cur : Nat} (hf : ∀ p, p < cur → r.f p < 6) {b Y : Nat} {Q : Qt} (hI : QI r cur Q) (h : qld Q ≤ Y) : qrun r b Y Q = qrun r b (qld Q) Q := by
  have h1 := qrun_add (r := r) (qld Q) (Y - qld Q) b Q
  rw [show qld Q + (Y - qld Q) = Y by omega] at h1
  rw [h1]
  refine qrun_0 _ _ _ ?_
  have h2 := qrun_ld hf (qld Q) b Q hI
  exact (qld_0 (qrun_QI hf _ _ _ hI)).mp (by omega)
theorem qpl_end {r : Rd} {c π s l : Nat} (hW : RW r) (hl : l < r.n) (h : ∀ q, l < q → q < r.n → s / 2 ^ r.f q % 2 ≠ 1) : qpl r c π s r.n = qrun r (r.t l * r.g 1) (qld (qAp r c π s l)) (qAp r c π s l) := by
  have hf : ∀ q, q < r.n → r.f q < 6 := fun q hq => (hW.2.1 q hq).2.1
  have key : ∀ j, l + 1 + j ≤ r.n → (l + 1 + j < r.n → qpl r c π s (l + 1 + j) = qrun r (r.t l * r.g 1) ((r.t (l + 1 + j) - r.t l) * r.g 1) (qAp r c π s l)) ∧ (l + 1 + j = r.n → qpl r c π s (l + 1 + j) = qrun r (r.t l * r.g 1) (qld (qAp r c π s l)) (qAp r c π s l)) := by
    intro j
    induction j with
    | zero =>
      intro _
      refine ⟨fun h1 => ?_, fun h1 => ?_⟩
      · show qpl r c π s (l + 1) = _
        rw [qpl_s, if_pos h1]
      · show qpl r c π s (l + 1) = _
        rw [qpl_s, if_neg (by omega)]
    | succ j ih =>
      intro hj
      have h1 := (ih (by omega)).1 (by omega)
      have h2 := hW.2.2.1 l (l + 1 + j) (by omega) (by omega)
      have h3 := qAp_out (c := c) (π := π) (h (l + 1 + j) (by omega) (by omega))
      have hI := (qAp_I (c := c) (π := π) (s := s) hW hl).1
      have hfl : ∀ q, q < l + 1 → r.f q < 6 := fun q hq => hf q (by omega)
      refine ⟨fun h4 => ?_, fun h4 => ?_⟩
      · show qpl r c π s (l + 1 + j + 1) = _
        have h4' : l + 1 + j + 1 < r.n := h4
        have h5 := hW.2.2.1 (l + 1 + j) (l + 1 + j + 1) (by omega) h4'
        rw [qpl_s, if_pos h4', h3, h1, show r.t (l + 1 + j) * r.g 1 = r.t l * r.g 1 + (r.t (l + 1 + j) - r.t l) * r.g 1 by rw [← Nat.add_mul]; congr 1; omega, ← qrun_add, ← Nat.add_mul]
        congr 2
        show _ = r.t (l + 1 + j + 1) - r.t l
        omega
      · show qpl r c π s (l + 1 + j + 1) = _
        rw [qpl_s, if_neg (by omega), h3, h1, qrun_ld hfl _ _ _ hI, show r.t (l + 1 + j) * r.g 1 = r.t l * r.g 1 + (r.t (l + 1 + j) - r.t l) * r.g 1 by rw [← Nat.add_mul]; congr 1; omega, ← qrun_add]
        exact qrun_end hfl hI (by omega)
  have := (key (r.n - (l + 1)) (by omega)).2 (by omega)
  rwa [show l + 1 + (r.n - (l + 1)) = r.n by omega] at this
theorem qpl_none {r : Rd} {c π s : Nat} (h : ∀ q, q < r.n → s / 2 ^ r.f q % 2 ≠ 1) : ∀ p, p ≤ r.n → qpl r c π s p = qQ0 := by
  intro p
  induction p with
  | zero => intro _; rfl
  | succ p ih =>
    intro hp
    rw [qpl_s, qAp_out (h p (by omega)), ih (by omega)]
    exact qrun_0 _ _ _ rfl
/-- the reference's last state is the timeline's -/
theorem qB_end {r : Rd} {c π s e T : Nat} (hW : RW r) (he : e ≤ r.n) (h : ∀ q, e ≤ q → q < r.n → s / 2 ^ r.f q % 2 ≠ 1) (h0 : (qB r c π s e T).m = 0) : qB r c π s e T = qpl r c π s r.n := by
  cases e with
  | zero => exact (qpl_none (fun q hq => h q (Nat.zero_le _) hq) _ (Nat.le_refl _)).symm
  | succ l =>
    have h1 := (qld_0 (qB_I hW he)).mpr h0
    rw [qB_ld hW (by omega)] at h1
    rw [qpl_end (l := l) hW (by omega) (fun q h2 h3 => h q (by omega) h3)]
    rw [qB_s]
    exact qrun_end (cur := l + 1) (fun q hq => (hW.2.1 q (by omega)).2.1) (qAp_I hW (by omega)).1 (by omega)
theorem q_bit {s f : Nat} (hs : s < 64) (hf : f < 6) : ((nI s >>> (nI f &&& nI 31)) &&& nI 1) = nI (s / 2 ^ f % 2) := by
  have h1 : nI s >>> (nI f &&& nI 31) = nI (s / 2 ^ f) := by
    refine pk_shrN (show s < 2 ^ 31 by omega) _ f ?_
    have : f = 0 ∨ f = 1 ∨ f = 2 ∨ f = 3 ∨ f = 4 ∨ f = 5 := by omega
    rcases this with rfl | rfl | rfl | rfl | rfl | rfl <;> decide
  have h2 : s / 2 ^ f ≤ s := Nat.div_le_self _ _
  rw [h1]
  exact pk_andN (show s / 2 ^ f < 2 ^ 32 by omega) 1 rfl
theorem q_endT {α : Type} {e p : Nat} {x y : Option α} (he : e ≤ 40) (hp : p ≤ 40) : oi (qix e < nI p) x y = if e ≤ p then x else y := by
  unfold qix
  by_cases h : 0 < e
  · rw [if_pos h]
    by_cases h2 : e ≤ p
    · rw [if_pos h2]; simp (disch := omega) only [qlit, nI_add, pk_mul, qIX, qIN, qOB, qOL, qLE1, qLE0, qLT1, qLT0, qEQ1, qEQ0, qM0, qM1, qR, qN0, qMM, qNL1, qNL0, qNE1, qNE0, qB1, qB0, qOT, qOF, qGT]
    · rw [if_neg h2]; simp (disch := omega) only [qlit, nI_add, pk_mul, qIX, qIN, qOB, qOL, qLE1, qLE0, qLT1, qLT0, qEQ1, qEQ0, qM0, qM1, qR, qN0, qMM, qNL1, qNL0, qNE1, qNE0, qB1, qB0, qOT, qOF, qGT]
  · rw [if_neg h, if_pos (by omega)]; simp (disch := omega) only [qlit, nI_add, pk_mul, qIX, qIN, qOB, qOL, qLE1, qLE0, qLT1, qLT0, qEQ1, qEQ0, qM0, qM1, qR, qN0, qMM, qNL1, qNL0, qNE1, qNE0, qB1, qB0, qOT, qOF, qGT]
theorem q_endL {α : Type} {e p : Nat} {x y : Option α} (he : e ≤ 40) (hp : p ≤ 40) : oi (nI p ≤ qix e) x y = if p < e then x else y := by
  unfold qix
  by_cases h : 0 < e
  · rw [if_pos h]
    by_cases h2 : p < e
    · rw [if_pos h2]; simp (disch := omega) only [qlit, nI_add, pk_mul, qIX, qIN, qOB, qOL, qLE1, qLE0, qLT1, qLT0, qEQ1, qEQ0, qM0, qM1, qR, qN0, qMM, qNL1, qNL0, qNE1, qNE0, qB1, qB0, qOT, qOF, qGT]
    · rw [if_neg h2]; simp (disch := omega) only [qlit, nI_add, pk_mul, qIX, qIN, qOB, qOL, qLE1, qLE0, qLT1, qLT0, qEQ1, qEQ0, qM0, qM1, qR, qN0, qMM, qNL1, qNL0, qNE1, qNE0, qB1, qB0, qOT, qOF, qGT]
  · rw [if_neg h, if_neg (by omega)]; simp (disch := omega) only [qlit, nI_add, pk_mul, qIX, qIN, qOB, qOL, qLE1, qLE0, qLT1, qLT0, qEQ1, qEQ0, qM0, qM1, qR, qN0, qMM, qNL1, qNL0, qNE1, qNE0, qB1, qB0, qOT, qOF, qGT]
theorem r_arr92 {r : Rd} {c π s e τ : Nat} (hW : RW r) (hc2 : c ≤ 1000) (hpi : π ≤ 4) (hs : s < 64) (he : e ≤ r.n) (hτ : τ ≤ 5000) : ∀ (j p : Nat) (S : St), j = e - p → p ≤ e → RM r c π S → QR r S (qB r c π s p τ) → gi S 75 8 = nI τ → (∀ q, p ≤ q → q < e → τ ≤ r.t q) → (∀ q, q < p → r.t q ≤ τ) →
    ∃ p' S', X8_replays_92L (nI s) (qix e) (nI p) S = some (nI p', S') ∧ p ≤ p' ∧ p' ≤ e ∧ QR r S' (qB r c π s p' τ) ∧ Fr PRf S S' ∧ (∀ q, p' ≤ q → q < e → τ < r.t q) ∧ (∀ q, q < p' → r.t q ≤ τ) := by
  intro j
  induction j with
  | zero =>
    intro p S hj hp hM hQ h8 h1 h2
    have hn := hW.1
    refine ⟨p, S, lp_end ?_, Nat.le_refl _, hp, hQ, Fr.rf, fun q a b => by omega, h2⟩
    show X8_replays_92 (nI s) (qix e) (nI p) S = _
    unfold X8_replays_92
    rw [q_endT (by omega) (by omega), if_pos (by omega)]
  | succ j ih =>
    intro p S hj hp hM hQ h8 h1 h2
    have hn := hW.1
    have hz := hW.2.1 p (by omega)
    have ho := r_of hW hM (show p < r.n by omega)
    by_cases ht : r.t p = τ
    · have hB : qB r c π s p τ = qpl r c π s p := by rw [← ht]; exact qB_pl (by omega)
      have hA : qB r c π s (p + 1) τ = qAp r c π s p := by rw [← ht]; exact qB_A
      have hI := qB_I (c := c) (π := π) (s := s) (τ := τ) hW (show p ≤ r.n by omega)
      have hcn := qB_cn (r := r) (c := c) (π := π) (s := s) (p := p) (τ := τ)
      have hlt : s / 2 ^ r.f p % 2 < 2 := Nat.mod_lt _ (by omega)
      have step : ∃ S1, X8_replays_92 (nI s) (qix e) (nI p) S = some (.inl (nI (p + 1)), S1) ∧ QR r S1 (qB r c π s (p + 1) τ) ∧ Fr PRf S S1 := by
        unfold X8_replays_92
        rw [q_endT (by omega) (by omega), if_neg (by omega)]
        by_cases hin : s / 2 ^ r.f p % 2 = 1
        · obtain ⟨S1, e1, e2, e3⟩ := r_arrives hW hM hQ hI (by omega) hc2 hpi (by omega)
          simp (disch := omega) only [qlit, nI_add, pk_mul, qIX, qIN, qOB, qOL, qLE1, qLE0, qLT1, qLT0, qEQ1, qEQ0, qM0, qM1, qR, qN0, qMM, qNL1, qNL0, qNE1, qNE0, qB1, qB0, qOT, qOF, qGT, ho.1, ho.2.1, h8, q_bit hs hz.2.1, e1]
          refine ⟨S1, rfl, ?_, e3⟩
          rw [hA, qAp, qA, if_pos hin, ← hB]
          exact e2
        · simp (disch := omega) only [qlit, nI_add, pk_mul, qIX, qIN, qOB, qOL, qLE1, qLE0, qLT1, qLT0, qEQ1, qEQ0, qM0, qM1, qR, qN0, qMM, qNL1, qNL0, qNE1, qNE0, qB1, qB0, qOT, qOF, qGT, ho.1, ho.2.1, h8, q_bit hs hz.2.1]
          refine ⟨S, rfl, ?_, Fr.rf⟩
          rw [hA, qAp_out hin, ← hB]
          exact hQ
      obtain ⟨S1, e1, e2, e3⟩ := step
      obtain ⟨p', S2, e4, e5, e6, e7, e8, e9, e10⟩ := ih (p + 1) S1 (by omega) (by omega) (hM.fr e3) e2 (by rw [e3.1 75 8 (by unfold PRf; omega)]; exact h8) (fun q a b => h1 q (by omega) b) (fun q a => by
        by_cases h : q = p
        · subst h; omega
        · exact h2 q (by omega))
      exact ⟨p', S2, lp_go e1 e4, by omega, e6, e7, e3.tr e8, e9, e10⟩
    · have h3 := h1 p (Nat.le_refl _) (by omega)
      refine ⟨p, S, lp_end ?_, Nat.le_refl _, hp, hQ, Fr.rf, fun q a b => ?_, h2⟩
      · show X8_replays_92 (nI s) (qix e) (nI p) S = _
        unfold X8_replays_92
        rw [q_endT (by omega) (by omega), if_neg (by omega)]
        simp (disch := omega) only [qlit, nI_add, pk_mul, qIX, qIN, qOB, qOL, qLE1, qLE0, qLT1, qLT0, qEQ1, qEQ0, qM0, qM1, qR, qN0, qMM, qNL1, qNL0, qNE1, qNE0, qB1, qB0, qOT, qOF, qGT, ho.1, h8]
      · have := hW.2.2.1 p q a (by omega)
        omega
def PRw (a b : Nat) : Prop := (a = 75 ∧ 6 ≤ b ∧ b ≤ 14) ∨ (78 ≤ a ∧ a ≤ 82)
theorem Fr.w {S T : St} (h : Fr PRf S T) : Fr PRw S T := h.mono (fun a b hp => by unfold PRf at hp; unfold PRw; omega)
theorem RM.fw {r : Rd} {c π : Nat} {S T : St} (h : RM r c π S) (e : Fr PRw S T) : RM r c π T := h.cg (fun b => e.1 76 b (by unfold PRw; omega))
theorem QR.l {r : Rd} {S : St} {Q : Qt} {j : Nat} {x y : Int32} (h : QR r S Q) : QR r (si (si S 80 j x) 75 8 y) Q := by
  obtain ⟨q1, q2, q3, q4, q5, q6, q7, q8, q9⟩ := h
  exact ⟨q1, q2, q3, q4, q5, q6, q7, q8, q9⟩
theorem r_tick {r : Rd} {c π s e τ p : Nat} {S : St} (hW : RW r) (hc2 : c ≤ 1000) (hpi : π ≤ 4) (hs : s < 64) (he : e ≤ r.n) (hτ : τ < 4700) (hp : p ≤ e) (hout : ∀ q, e ≤ q → q < r.n → s / 2 ^ r.f q % 2 ≠ 1) (hM : RM r c π S) (hQ : QR r S (qB r c π s p τ)) (h8 : gi S 75 8 = nI τ) (h1 : ∀ q, p ≤ q → q < e → τ ≤ r.t q) (h2 : ∀ q, q < p → r.t q < τ) (h3 : ∀ j, j < τ → gi S 80 j = nI (qL r c π s r.n j)) :
    ∃ p' S', (ob (X8_replays_92L (nI s) (qix e) (nI p) S) (fun b18 S19 => ob (X8_serves (gi S19 75 8) S19) (fun r20 S21 => og (inb (gi S21 75 8) 4700) (ol (si S21 80 (ix (gi S21 75 8)) (gi S21 75 12)) (fun T22 => ol (si T22 75 8 ((gi T22 75 8) + (1 : Int32))) (fun T23 => (some (.inl b18, T23) : Option ((Int32 ⊕ Unit) × St)))))))) = some (.inl (nI p'), S') ∧ p' ≤ e ∧ RM r c π S' ∧ QR r S' (qB r c π s p' (τ + 1)) ∧ gi S' 75 8 = nI (τ + 1) ∧ (∀ q, p' ≤ q → q < e → τ + 1 ≤ r.t q) ∧ (∀ q, q < p' → r.t q < τ + 1) ∧ (∀ j, j < τ + 1 → gi S' 80 j = nI (qL r c π s r.n j)) ∧ Fr PRw S S' := by
  obtain ⟨p', S1, e4, e5, e6, e7, e8, e9, e10⟩ := r_arr92 hW hc2 hpi hs he (show τ ≤ 5000 by omega) (e - p) p S rfl hp hM hQ h8 h1 (fun q hq => Nat.le_of_lt (h2 q hq))
  have hM1 := hM.fr e8
  have h81 : gi S1 75 8 = nI τ := by rw [e8.1 75 8 (by unfold PRf; omega)]; exact h8
  obtain ⟨S2, f1, f2, f3⟩ := r_serves (τ := τ) hW hM1 e7 (qB_I hW (by omega)) (by omega)
  rw [qB_run e10] at f2
  have h82 : gi S2 75 8 = nI τ := by rw [f3.1 75 8 (by unfold PRf; omega)]; exact h81
  have hl := qB_L (c := c) (π := π) (s := s) (τ := τ) hW (show p' ≤ r.n by omega) e10 (fun q a b => by
    by_cases h : q < e
    · exact Or.inr (e9 q a h)
    · exact Or.inl (hout q (by omega) b))
  have h12 : gi S2 75 12 = nI (qL r c π s r.n τ) := by rw [← hl]; exact f2.2.1
  rw [e4, qOB]
  simp (disch := omega) only [qlit, nI_add, pk_mul, qIX, qIN, qOB, qOL, qLE1, qLE0, qLT1, qLT0, qEQ1, qEQ0, qM0, qM1, qR, qN0, qMM, qNL1, qNL0, qNE1, qNE0, qB1, qB0, qOT, qOF, qGT, h81, f1, h82, h12, qG0]
  refine ⟨p', _, rfl, e6, ?_, f2.l, qG1 rfl rfl, fun q a b => e9 q a b, fun q a => by have := e10 q a; omega, fun j hj => ?_, ?_⟩
  · exact (hM1.fr f3).cg (fun b => rfl)
  · by_cases h : j = τ
    · subst h; simp (disch := omega) only [qlit, nI_add, pk_mul, qIX, qIN, qOB, qOL, qLE1, qLE0, qLT1, qLT0, qEQ1, qEQ0, qM0, qM1, qR, qN0, qMM, qNL1, qNL0, qNE1, qNE0, qB1, qB0, qOT, qOF, qGT, qG0, qG1]
    · simp (disch := omega) only [qlit, nI_add, pk_mul, qIX, qIN, qOB, qOL, qLE1, qLE0, qLT1, qLT0, qEQ1, qEQ0, qM0, qM1, qR, qN0, qMM, qNL1, qNL0, qNE1, qNE0, qB1, qB0, qOT, qOF, qGT, qG0]
      rw [f3.1 80 j (by unfold PRf; omega), e8.1 80 j (by unfold PRf; omega)]
      exact h3 j (by omega)
  · exact ((e8.w.tr f3.w).si (by unfold PRw; omega)).si (by unfold PRw; omega)
theorem r_replays {r : Rd} {c π s : Nat} {S : St} (hW : RW r) (hM : RM r c π S) (hc2 : c ≤ 1000) (hpi : π ≤ 4) (hs : s < 64) :
    ∃ S' T, X8_replays (nI s) S = some ((), S') ∧ QR r S' (qpl r c π s r.n) ∧ gi S' 75 8 = nI T ∧ T ≤ 4700 ∧ (∀ τ, τ < T → gi S' 80 τ = nI (qL r c π s r.n τ)) ∧ (∀ τ, T ≤ τ → qL r c π s r.n τ = 0) ∧ Fr PRw S S' := by
  have hn := hW.1
  have hg1 := hW.2.2.2.2.1
  generalize hS0 : si (si (si (si (si (si S 75 6 (nI 0)) 75 10 (nI 0)) 75 12 (nI 0)) 75 13 (nI 0)) 75 14 (nI 5)) 75 8 (nI 0) = S0
  have hF0 : Fr PRw S S0 := by
    rw [← hS0]
    exact (((((Fr.rf.si (by unfold PRw; omega)).si (by unfold PRw; omega)).si (by unfold PRw; omega)).si (by unfold PRw; omega)).si (by unfold PRw; omega)).si (by unfold PRw; omega)
  have hM0 := hM.fw hF0
  have hlst := qlst_sp (P := fun q => decide (s / 2 ^ r.f q % 2 = 1)) r.n
  have h34 : ∃ S1, X8_replays_34L (nI s) (-nI 1, nI 0) S0 = some (qix (qlst (fun q => decide (s / 2 ^ r.f q % 2 = 1)) r.n), S1) ∧ (∀ p, p < r.n → gi S1 78 p = -nI 3) ∧ Fr (fun a _ => a = 78) S0 S1 := by
    unfold X8_replays_34L
    have key : ∃ b S1, lp (fun (a : Int32 × Int32) (S : St) => X8_replays_34 (nI s) a.1 a.2 S) (-nI 1, nI 0) S0 = some (b, S1) ∧ (b = qix (qlst (fun q => decide (s / 2 ^ r.f q % 2 = 1)) r.n) ∧ (∀ p, p < r.n → gi S1 78 p = -nI 3) ∧ Fr (fun a _ => a = 78) S0 S1) := by
      refine lp_cnt (body := fun (a : Int32 × Int32) (S : St) => X8_replays_34 (nI s) a.1 a.2 S) r.n (fun i a T => a = (qix (qlst (fun q => decide (s / 2 ^ r.f q % 2 = 1)) i), nI i) ∧ (∀ p, p < i → gi T 78 p = -nI 3) ∧ Fr (fun a _ => a = 78) S0 T) (fun b T => b = qix (qlst (fun q => decide (s / 2 ^ r.f q % 2 = 1)) r.n) ∧ (∀ p, p < r.n → gi T 78 p = -nI 3) ∧ Fr (fun a _ => a = 78) S0 T) (a := (-nI 1, nI 0)) (S := S0) ⟨rfl, fun p hp => absurd hp (Nat.not_lt_zero _), Fr.rf⟩ ?_ ?_
      · rintro i a T hi ⟨rfl, h1, h2⟩
        have hz := hW.2.1 i hi
        have hMT : RM r c π (si T 78 i (-nI 3)) := hM0.cg (fun b => by rw [qG0 (by omega), h2.1 76 b (by show ¬ 76 = 78; omega)])
        have ho := r_of hW hMT hi
        have hlt : s / 2 ^ r.f i % 2 < 2 := Nat.mod_lt _ (by omega)
        have hM00 : gi T 76 0 = nI r.n := by rw [h2.1 76 0 (by show ¬ 76 = 78; omega)]; exact hM0.1
        show ∃ a' S', X8_replays_34 (nI s) (qix _) (nI i) T = _ ∧ _
        unfold X8_replays_34
        have hr : (∀ p, p < i + 1 → gi (si T 78 i (-nI 3)) 78 p = -nI 3) ∧ Fr (fun a _ => a = 78) S0 (si T 78 i (-nI 3)) := by
          refine ⟨fun p hp => ?_, h2.si rfl⟩
          by_cases h : p = i
          · subst h; exact qG1 rfl rfl
          · rw [qG0 (by omega)]; exact h1 p (by omega)
        by_cases hin : s / 2 ^ r.f i % 2 = 1
        · simp (disch := omega) only [qlit, nI_add, pk_mul, qIX, qIN, qOB, qOL, qLE1, qLE0, qLT1, qLT0, qEQ1, qEQ0, qM0, qM1, qR, qN0, qMM, qNL1, qNL0, qNE1, qNE0, qB1, qB0, qOT, qOF, qGT, hM00, ho.2.1, q_bit hs hz.2.1]
          refine ⟨_, _, rfl, ?_, hr⟩
          rw [qlst, if_pos (by simp [hin])]
          simp [qix]
        · simp (disch := omega) only [qlit, nI_add, pk_mul, qIX, qIN, qOB, qOL, qLE1, qLE0, qLT1, qLT0, qEQ1, qEQ0, qM0, qM1, qR, qN0, qMM, qNL1, qNL0, qNE1, qNE0, qB1, qB0, qOT, qOF, qGT, hM00, ho.2.1, q_bit hs hz.2.1]
          refine ⟨_, _, rfl, ?_, hr⟩
          rw [qlst, if_neg (by simp [hin])]
      · rintro a T ⟨rfl, h1, h2⟩
        have hM00 : gi T 76 0 = nI r.n := by rw [h2.1 76 0 (by show ¬ 76 = 78; omega)]; exact hM0.1
        refine ⟨_, T, ?_, rfl, h1, h2⟩
        show X8_replays_34 (nI s) (qix _) (nI r.n) T = _
        unfold X8_replays_34
        simp (disch := omega) only [qlit, nI_add, pk_mul, qIX, qIN, qOB, qOL, qLE1, qLE0, qLT1, qLT0, qEQ1, qEQ0, qM0, qM1, qR, qN0, qMM, qNL1, qNL0, qNE1, qNE0, qB1, qB0, qOT, qOF, qGT, hM00]
    obtain ⟨b, S1, e1, e2, e3, e4⟩ := key
    exact ⟨S1, by rw [e1, e2], e3, e4⟩
  obtain ⟨S1, g1, g2, g3⟩ := h34
  generalize he : qlst (fun q => decide (s / 2 ^ r.f q % 2 = 1)) r.n = e at *
  have hen : e ≤ r.n := hlst.1
  have hout : ∀ q, e ≤ q → q < r.n → s / 2 ^ r.f q % 2 ≠ 1 := fun q a b => by simpa using hlst.2.2 q a b
  have g3w : Fr PRw S0 S1 := g3.mono (fun a b h => by unfold PRw; omega)
  have hM1 := hM0.fw g3w
  have hg : ∀ b, gi S1 75 b = gi S0 75 b := fun b => g3.1 75 b (by show ¬ 75 = 78; omega)
  have hQ1 : QR r S1 (qB r c π s 0 0) := by
    refine ⟨?_, ?_, ?_, ?_, ?_, fun p hp => g2 p hp, fun j hj => absurd hj (Nat.not_lt_zero _), fun j hj => absurd hj (Nat.not_lt_zero _), fun j hj => absurd hj (Nat.not_lt_zero _)⟩
    all_goals rw [hg, ← hS0]; simp (disch := omega) only [qlit, nI_add, pk_mul, qIX, qIN, qOB, qOL, qLE1, qLE0, qLT1, qLT0, qEQ1, qEQ0, qM0, qM1, qR, qN0, qMM, qNL1, qNL0, qNE1, qNE0, qB1, qB0, qOT, qOF, qGT, qG0, qG1]; rfl
  have h81 : gi S1 75 8 = nI 0 := by rw [hg, ← hS0]; exact qG1 rfl rfl
  have hloop : ∃ b S', X8_replays_80L (nI s) (qix e) (nI 0) S1 = some (b, S') ∧ ∃ T, QR r S' (qpl r c π s r.n) ∧ gi S' 75 8 = nI T ∧ T ≤ 4700 ∧ (∀ τ, τ < T → gi S' 80 τ = nI (qL r c π s r.n τ)) ∧ (∀ τ, T ≤ τ → qL r c π s r.n τ = 0) ∧ Fr PRw S1 S' := by
    unfold X8_replays_80L
    refine lp_inv (body := fun (a : Int32) (S : St) => X8_replays_80 (nI s) (qix e) a S) (fun n a T => ∃ p τ, a = nI p ∧ n = 5000 - τ ∧ τ ≤ 4600 ∧ p ≤ e ∧ RM r c π T ∧ QR r T (qB r c π s p τ) ∧ gi T 75 8 = nI τ ∧ (∀ q, p ≤ q → q < e → τ ≤ r.t q) ∧ (∀ q, q < p → r.t q < τ) ∧ (∀ j, j < τ → gi T 80 j = nI (qL r c π s r.n j)) ∧ Fr PRw S1 T) _ ?_ 5000 (nI 0) S1 ⟨0, 0, rfl, rfl, by omega, Nat.zero_le _, hM1, hQ1, h81, fun q _ _ => Nat.zero_le _, fun q hq => absurd hq (Nat.not_lt_zero _), fun j hj => absurd hj (Nat.not_lt_zero _), Fr.rf⟩
    rintro n a T ⟨p, τ, rfl, rfl, hτ, hp, hMT, hQT, h8, h1, h2, h3, hFT⟩
    have hgo : ∀ (hx : τ < 4600) (hbody : X8_replays_80 (nI s) (qix e) (nI p) T = (ob (X8_replays_92L (nI s) (qix e) (nI p) T) (fun b18 S19 => ob (X8_serves (gi S19 75 8) S19) (fun r20 S21 => og (inb (gi S21 75 8) 4700) (ol (si S21 80 (ix (gi S21 75 8)) (gi S21 75 12)) (fun T22 => ol (si T22 75 8 ((gi T22 75 8) + (1 : Int32))) (fun T23 => (some (.inl b18, T23) : Option ((Int32 ⊕ Unit) × St))))))))), ∃ a' S' n', X8_replays_80 (nI s) (qix e) (nI p) T = some (.inl a', S') ∧ n' < 5000 - τ ∧ ∃ p τ, a' = nI p ∧ n' = 5000 - τ ∧ τ ≤ 4600 ∧ p ≤ e ∧ RM r c π S' ∧ QR r S' (qB r c π s p τ) ∧ gi S' 75 8 = nI τ ∧ (∀ q, p ≤ q → q < e → τ ≤ r.t q) ∧ (∀ q, q < p → r.t q < τ) ∧ (∀ j, j < τ → gi S' 80 j = nI (qL r c π s r.n j)) ∧ Fr PRw S1 S' := by
      intro hx hbody
      obtain ⟨p', S', k1, k2, k3, k4, k5, k6, k7, k8, k9⟩ := r_tick hW hc2 hpi hs hen (by omega) hp hout hMT hQT h8 h1 h2 h3
      exact ⟨nI p', S', 5000 - (τ + 1), hbody.trans k1, by omega, p', τ + 1, rfl, rfl, by omega, k2, k3, k4, k5, k6, k7, k8, hFT.tr k9⟩
    by_cases hpe : p < e
    · have ht := h1 p (Nat.le_refl _) hpe
      have hz := hW.2.1 p (by omega)
      refine Or.inr (hgo (by omega) ?_)
      unfold X8_replays_80
      rw [q_endL (by omega) (by omega), if_pos hpe]
    · have hpe' : p = e := by omega
      subst hpe'
      have hm40 := (q_bd hW (qB_I (c := c) (π := π) (s := s) (τ := τ) hW hen) hen).1
      by_cases hm : (qB r c π s p τ).m = 0
      · refine Or.inl ⟨(), T, ?_, τ, ?_, h8, by omega, h3, fun τ' hτ' => ?_, hFT⟩
        · show X8_replays_80 (nI s) (qix p) (nI p) T = _
          unfold X8_replays_80
          rw [q_endL (by omega) (by omega), if_neg (by omega)]
          simp (disch := omega) only [qlit, nI_add, pk_mul, qIX, qIN, qOB, qOL, qLE1, qLE0, qLT1, qLT0, qEQ1, qEQ0, qM0, qM1, qR, qN0, qMM, qNL1, qNL0, qNE1, qNE0, qB1, qB0, qOT, qOF, qGT, hQT.1]
        · rw [← qB_end hW hen hout hm]; exact hQT
        · rw [qL_n hW hen (fun q a b => Or.inl (hout q a b))]
          cases p with
          | zero => rfl
          | succ l =>
            have k1 := (qld_0 (qB_I hW hen)).mpr hm
            rw [qB_ld hW (by omega)] at k1
            have k2 := h2 l (by omega)
            rw [qL, if_pos (by omega)]
            have k3 : (τ - r.t l) * r.g 1 ≤ (τ' + 1 - r.t l) * r.g 1 := Nat.mul_le_mul_right _ (by omega)
            omega
      · have hb : τ < 4600 := by
          cases p with
          | zero => exact absurd rfl hm
          | succ l =>
            have k1 : ¬ qld (qB r c π s (l + 1) τ) = 0 := fun h => hm ((qld_0 (qB_I hW hen)).mp h)
            rw [qB_ld hW (by omega)] at k1
            have k2 := (q_bd hW (qAp_I (c := c) (π := π) (s := s) hW (show l < r.n by omega)).1 (by omega)).2.2.1
            have k3 := (hW.2.1 l (by omega)).1
            have k4 : (τ - r.t l) * 1 ≤ (τ - r.t l) * r.g 1 := Nat.mul_le_mul_left _ hg1.1
            omega
        refine Or.inr (hgo hb ?_)
        unfold X8_replays_80
        rw [q_endL (by omega) (by omega), if_neg (by omega)]
        simp (disch := omega) only [qlit, nI_add, pk_mul, qIX, qIN, qOB, qOL, qLE1, qLE0, qLT1, qLT0, qEQ1, qEQ0, qM0, qM1, qR, qN0, qMM, qNL1, qNL0, qNE1, qNE0, qB1, qB0, qOT, qOF, qGT, hQT.1]
  obtain ⟨b, S2, k1, T, k2, k3, k4, k5, k6, k7⟩ := hloop
  unfold X8_replays
  simp only [qlit, qOL]
  rw [hS0, g1, qOB, k1, qOB]
  exact ⟨S2, T, rfl, k2, k3, k4, k5, k6, hF0.tr (g3w.tr k7)⟩
