/-! ===== the class's replay ===== -/
/-- the load at the end of a tick, by marks -/
def qmk (mt ml : Nat → Nat) (g : Nat) : Nat → Nat → Nat
  | 0, _ => 0
  | j + 1, τ => if mt j ≤ τ then ml j - g * (τ - mt j) else qmk mt ml g j τ
theorem qmk_cg {mt ml mt' ml' : Nat → Nat} {g τ : Nat} : ∀ {m : Nat}, (∀ j, j < m → mt j = mt' j ∧ ml j = ml' j) → qmk mt ml g m τ = qmk mt' ml' g m τ := by
  intro m
  induction m with
  | zero => intro _; rfl
  | succ m ih =>
    intro h
    rw [qmk, qmk, (h m (by omega)).1, (h m (by omega)).2, ih (fun j hj => h j (by omega))]
def MK (k mc : Nat) (mt ml : Nat → Nat) (S : St) : Prop := mc ≤ 40 ∧ gi S (k + 1) 6 = nI mc ∧ (∀ j, j < mc → gi S (k + 4) j = nI (mt j) ∧ gi S (k + 5) j = nI (ml j) ∧ mt j ≤ 500 ∧ ml j ≤ 4000) ∧ (∀ i j, i < j → j < mc → mt i < mt j)
theorem MK.cg {k mc : Nat} {mt ml : Nat → Nat} {S T : St} (h : MK k mc mt ml S) (e : ∀ a b, (a = k + 1 ∧ b = 6) ∨ a = k + 4 ∨ a = k + 5 → gi T a b = gi S a b) : MK k mc mt ml T := by
  obtain ⟨h1, h2, h3, h4⟩ := h
  refine ⟨h1, ?_, fun j hj => ?_, h4⟩
  · rw [e _ _ (Or.inl ⟨rfl, rfl⟩)]; exact h2
  · rw [e _ _ (Or.inr (Or.inl rfl)), e _ _ (Or.inr (Or.inr rfl))]; exact h3 j hj
theorem MK.fr {k mc : Nat} {mt ml : Nat → Nat} {S T : St} (h : MK k mc mt ml S) (e : Fr (PC k) S T) : MK k mc mt ml T := h.cg (fun a b hab => e.1 a b (by unfold PC; omega))
def PCw (k : Nat) (a _b : Nat) : Prop := k ≤ a ∧ a ≤ k + 9
theorem Fr.cw {k : Nat} {S T : St} (h : Fr (PC k) S T) : Fr (PCw k) S T := h.mono (fun a b hp => by unfold PC at hp; unfold PCw; omega)
theorem RC.fw {r : Rd} {k : Nat} {S T : St} (h : RC r S) (hk : 6 ≤ k) (e : Fr (PCw k) S T) : RC r T := h.cg (fun a b h1 h2 => e.1 a b (by unfold PCw; omega))
theorem c_note {k mc t l : Nat} {mt ml : Nat → Nat} {S : St} (h : MK k mc mt ml S) (hm : mc < 40) (ht : t ≤ 500) (hl : l ≤ 4000) (hi : ∀ j, j < mc → mt j < t) :
    ∃ S', X3_noteLoad (k + 1) (nI t) (nI l) S = some ((), S') ∧ MK k (mc + 1) (qup mt mc t) (qup ml mc l) S' ∧ Fr (fun a b => (a = k + 1 ∧ b = 6) ∨ a = k + 4 ∨ a = k + 5) S S' := by
  obtain ⟨h1, h2, h3, h4⟩ := h
  unfold X3_noteLoad
  simp (disch := omega) only [qlit, nI_add, pk_mul, qIX, qIN, qOB, qOL, qLE1, qLE0, qLT1, qLT0, qEQ1, qEQ0, qM0, qM1, qR, qN0, qMM, qNL1, qNL0, qNE1, qNE0, qB1, qB0, qOT, qOF, qGT, h2, qG0]
  refine ⟨_, rfl, ⟨by omega, ?_, fun j hj => ?_, fun i j hij hj => ?_⟩, ?_⟩
  · simp (disch := omega) only [qlit, nI_add, pk_mul, qIX, qIN, qOB, qOL, qLE1, qLE0, qLT1, qLT0, qEQ1, qEQ0, qM0, qM1, qR, qN0, qMM, qNL1, qNL0, qNE1, qNE0, qB1, qB0, qOT, qOF, qGT, qG1]
  · by_cases e : j = mc
    · subst e
      simp (disch := omega) only [qlit, nI_add, pk_mul, qIX, qIN, qOB, qOL, qLE1, qLE0, qLT1, qLT0, qEQ1, qEQ0, qM0, qM1, qR, qN0, qMM, qNL1, qNL0, qNE1, qNE0, qB1, qB0, qOT, qOF, qGT, qG0, qG1, qup_s]
      exact ⟨trivial, trivial, ht, hl⟩
    · simp (disch := omega) only [qlit, nI_add, pk_mul, qIX, qIN, qOB, qOL, qLE1, qLE0, qLT1, qLT0, qEQ1, qEQ0, qM0, qM1, qR, qN0, qMM, qNL1, qNL0, qNE1, qNE0, qB1, qB0, qOT, qOF, qGT, qG0, qup_n e]
      exact h3 j (by omega)
  · rw [qup_n (show i ≠ mc by omega)]
    by_cases e : j = mc
    · subst e; rw [qup_s]; exact hi i hij
    · rw [qup_n e]; exact h4 i j hij (by omega)
  · refine ((Fr.rf.si ?_).si ?_).si ?_
    all_goals omega
theorem c_behind {r : Rd} {c π s k p mc : Nat} {mt ml : Nat → Nat} {S : St} (hW : RW r) (hR : RC r S) (hk : 6 ≤ k) (hp : p < r.n) (hQ : QC r c (p + 1) k S (qAp r c π s p)) (hM : MK k mc mt ml S) (hmc : mc ≤ p) (hi : ∀ j, j < mc → mt j < r.t p) :
    ∃ S', X5_serveBehind k (nI p) S = some ((), S') ∧ QC r c (p + 1) k S' (qpl r c π s (p + 1)) ∧ MK k (mc + 1) (qup mt mc (r.t p)) (qup ml mc (qld (qAp r c π s p) - r.g 1)) S' ∧ Fr (PCw k) S S' := by
  have hI := (qAp_I (c := c) (π := π) (s := s) hW hp).1
  obtain ⟨b1, b2, b3, b4⟩ := q_bd hW hI (by omega)
  have hn40 := hW.1
  have hg1 := hW.2.2.2.2.1
  have hz := hW.2.1 p hp
  have hf : ∀ q, q < p + 1 → r.f q < 6 := fun q hq => (hW.2.1 q (by omega)).2.1
  rw [qpl_s]
  generalize hA : qAp r c π s p = Q at *
  have hK6 : gi S k 6 = nI (r.g 1) := hQ.1.2.2.1
  have hL3 : gi S (k + 6) 3 = nI (qld Q) := hQ.2.2.2.1
  have mt0 := (hR.2.1 p hp).1
  obtain ⟨S1, e1, e2, e3⟩ := c_note (t := r.t p) (l := qld Q - r.g 1) hM (by omega) hz.1 (by omega) hi
  have hR1 : RC r S1 := hR.cg (fun a b h1 h2 => e3.1 a b (by omega))
  have hQ1 : QC r c (p + 1) k S1 Q := ⟨hQ.1.cg (fun b => e3.1 _ _ (by omega)), hQ.2.1.cg (fun a b h => e3.1 _ _ (by omega)), hQ.2.2.cg (fun a b h => e3.1 _ _ (by omega))⟩
  have hmax : (if nI 0 < nI (qld Q) - nI (r.g 1) then nI (qld Q) - nI (r.g 1) else nI 0) = nI (qld Q - r.g 1) := by
    by_cases h : r.g 1 < qld Q
    · rw [qSUB (by omega), qTL1 (by omega) (by omega)]
    · have hle : ¬ nI 0 < nI (qld Q) - nI (r.g 1) := by
        rw [Int32.lt_iff_toInt_lt, pk_sub_toInt (show qld Q < 2 ^ 30 by omega) (show r.g 1 < 2 ^ 30 by omega), nI_toInt (show 0 < 2 ^ 31 by omega)]
        omega
      rw [if_neg hle, show qld Q - r.g 1 = 0 by omega]
  have hby : ∃ B, X5_bytesUntilNext k (nI p) S = some (nI B, S) ∧ B ≤ qld Q ∧ qrun r (r.t p * r.g 1) (if p + 1 < r.n then (r.t (p + 1) - r.t p) * r.g 1 else qld Q) Q = qrun r (r.t p * r.g 1) B Q := by
    unfold X5_bytesUntilNext
    by_cases h : p + 1 < r.n
    · have hs := hW.2.2.1 p (p + 1) (by omega) h
      have mt1 := (hR.2.1 (p + 1) h).1
      have hz1 := hW.2.1 (p + 1) h
      have hmul : r.g 1 * (r.t (p + 1) - r.t p) ≤ 100 * 500 := Nat.mul_le_mul (by omega) (by omega)
      rw [if_pos h, Nat.mul_comm (r.t (p + 1) - r.t p)]
      simp (disch := omega) only [qlit, nI_add, pk_mul, qIX, qIN, qOB, qOL, qLE1, qLE0, qLT1, qLT0, qEQ1, qEQ0, qM0, qM1, qR, qN0, qMM, qNL1, qNL0, qNE1, qNE0, qB1, qB0, qOT, qOF, qGT, hR.1, mt1, mt0, hK6, hL3, qSUB]
      by_cases h2 : r.g 1 * (r.t (p + 1) - r.t p) < qld Q
      · rw [qTL1 h2 (by omega)]
        exact ⟨_, rfl, by omega, rfl⟩
      · rw [qTL0 (by omega) (by omega)]
        exact ⟨_, rfl, Nat.le_refl _, qrun_end hf hI (by omega)⟩
    · rw [if_neg h]
      simp (disch := omega) only [qlit, nI_add, pk_mul, qIX, qIN, qOB, qOL, qLE1, qLE0, qLT1, qLT0, qEQ1, qEQ0, qM0, qM1, qR, qN0, qMM, qNL1, qNL0, qNE1, qNE0, qB1, qB0, qOT, qOF, qGT, hR.1, hL3]
      exact ⟨_, rfl, Nat.le_refl _, rfl⟩
  obtain ⟨B, g1, g2, g3⟩ := hby
  obtain ⟨S2, f1, f2, f3⟩ := c_serveL (by_ := B) hW hk (show p + 1 ≤ r.n by omega) hz.1 (by omega) B 0 0 Q S1 rfl (Nat.zero_le _) (by omega) (by omega) (fun _ => by omega) hR1 hQ1 hI
  unfold X5_serveBehind
  simp (disch := omega) only [qlit, nI_add, pk_mul, qIX, qIN, qOB, qOL, qLE1, qLE0, qLT1, qLT0, qEQ1, qEQ0, qM0, qM1, qR, qN0, qMM, qNL1, qNL0, qNE1, qNE0, qB1, qB0, qOT, qOF, qGT, mt0, g1, hL3, hK6, hmax, e1, f1]
  refine ⟨S2, rfl, ?_, e2.fr f3, ?_⟩
  · rw [g3]; exact f2
  · exact (e3.mono (fun a b h => by unfold PCw; omega)).tr f3.cw
theorem c_contains {s f : Nat} {S : St} (hs : s < 64) (hf : f < 6) : X7_contains (nI s) (nI f) S = some (nI (s / 2 ^ f % 2), S) := by
  have hlt : s / 2 ^ f % 2 < 2 := Nat.mod_lt _ (by omega)
  unfold X7_contains
  by_cases h : s / 2 ^ f % 2 = 1
  · simp (disch := omega) only [qlit, nI_add, pk_mul, qIX, qIN, qOB, qOL, qLE1, qLE0, qLT1, qLT0, qEQ1, qEQ0, qM0, qM1, qR, qN0, qMM, qNL1, qNL0, qNE1, qNE0, qB1, qB0, qOT, qOF, qGT, q_bit hs hf]
    rw [h]
  · simp (disch := omega) only [qlit, nI_add, pk_mul, qIX, qIN, qOB, qOL, qLE1, qLE0, qLT1, qLT0, qEQ1, qEQ0, qM0, qM1, qR, qN0, qMM, qNL1, qNL0, qNE1, qNE0, qB1, qB0, qOT, qOF, qGT, q_bit hs hf]
    rw [show s / 2 ^ f % 2 = 0 by omega]
/-- after the packets below p: the queue and the marks -/
def CP (r : Rd) (c π s k p : Nat) (S : St) : Prop := RC r S ∧ QC r c p k S (qpl r c π s p) ∧ ∃ mc mt ml, MK k mc mt ml S ∧ mc ≤ p ∧ (∀ j, j < mc → p < r.n → mt j < r.t p) ∧ (∀ τ, (0 < p → p < r.n → r.t p = r.t (p - 1) → τ < r.t p) → qmk mt ml (r.g 1) mc τ = qL r c π s p τ)
theorem c_step {r : Rd} {c π s k p : Nat} {S : St} (hW : RW r) (hk : 6 ≤ k) (hc2 : c ≤ 1000) (hpi : π ≤ 4) (hs : s < 64) (hp : p < r.n) (h : CP r c π s k p S) :
    ∃ S', X5_play_63 k (nI s) (nI π) (nI p) S = some (.inl (nI (p + 1)), S') ∧ CP r c π s k (p + 1) S' ∧ Fr (PCw k) S S' := by
  obtain ⟨hR, hQ, mc, mt, ml, hM, hmc, hmt, hql⟩ := h
  have hn40 := hW.1
  have hg1 := hW.2.2.2.2.1
  have hz := hW.2.1 p hp
  have mr := hR.2.1 p hp
  obtain ⟨hI, hF⟩ := qpl_I (c := c) (π := π) (s := s) hW p (by omega)
  have hnc := qpl_nc1 (r := r) (c := c) (π := π) (s := s) p
  have hlt : s / 2 ^ r.f p % 2 < 2 := Nat.mod_lt _ (by omega)
  have hA : ∃ S1, X5_play_63 k (nI s) (nI π) (nI p) S = X5_play_148 k (nI s) (nI π) (nI p) S1 ∧ QC r c (p + 1) k S1 (qAp r c π s p) ∧ Fr (PC k) S S1 := by
    unfold X5_play_63
    by_cases hin : s / 2 ^ r.f p % 2 = 1
    · obtain ⟨S1, e1, e2, e3⟩ := c_admits hW hR hk hQ hI hp hc2 hpi hnc
      have hI1 : QI r p (qadm r c π p (qpl r c π s p)).2 := qadm_ind (fun Q => QI r p Q) (fun x Q h => qI_nc h) (fun k Q hk h => qI_rem h hk) (fun Q h => qI_cn h) _ hI
      have hR1 := hR.fr hk e3
      have mr1 := hR1.2.1 p hp
      have hq : qAp r c π s p = qarr r c π p (qpl r c π s p) := if_pos hin
      rw [hq, qarr]
      rcases hG : qadm r c π p (qpl r c π s p) with ⟨g, Q1⟩
      rw [hG] at e1 e2 hI1
      simp only at e1 e2 hI1
      simp (disch := omega) only [qlit, nI_add, pk_mul, qIX, qIN, qOB, qOL, qLE1, qLE0, qLT1, qLT0, qEQ1, qEQ0, qM0, qM1, qR, qN0, qMM, qNL1, qNL0, qNE1, qNE0, qB1, qB0, qOT, qOF, qGT, hR.1, mr.2.1, c_contains hs hz.2.1, hin, e1]
      have q10 : ∀ (x y : Option ((Int32 ⊕ Unit) × St)), oi (nI 1 = nI 0) x y = y := fun x y => if_neg (by decide)
      cases g with
      | false =>
        obtain ⟨S2, f1, f2, f3⟩ := c_drp hW e2 hI1 hp
        refine ⟨S2, ?_, f2, e3.tr f3⟩
        simp (disch := omega) only [qlit, nI_add, pk_mul, qIX, qIN, qOB, qOL, qLE1, qLE0, qLT1, qLT0, qEQ1, qEQ0, qM0, qM1, qR, qN0, qMM, qNL1, qNL0, qNE1, qNE0, qB1, qB0, qOT, qOF, qGT, qif_t, qif_f, f1]
      | true =>
        obtain ⟨S2, f1, f2, f3⟩ := c_acc hW e2 hI1 hp
        refine ⟨S2, ?_, f2, e3.tr f3⟩
        simp (disch := omega) only [qlit, nI_add, pk_mul, qIX, qIN, qOB, qOL, qLE1, qLE0, qLT1, qLT0, qEQ1, qEQ0, qM0, qM1, qR, qN0, qMM, qNL1, qNL0, qNE1, qNE0, qB1, qB0, qOT, qOF, qGT, qif_t, qif_f, mr1.2.2, f1]
    · have hb : s / 2 ^ r.f p % 2 = 0 := by omega
      rw [qAp_out hin]
      simp (disch := omega) only [qlit, nI_add, pk_mul, qIX, qIN, qOB, qOL, qLE1, qLE0, qLT1, qLT0, qEQ1, qEQ0, qM0, qM1, qR, qN0, qMM, qNL1, qNL0, qNE1, qNE0, qB1, qB0, qOT, qOF, qGT, hR.1, mr.2.1, c_contains hs hz.2.1, hb]
      exact ⟨_, rfl, c_out hQ hF, Fr.rf.si (by unfold PC; omega)⟩
  obtain ⟨S1, e1, e2, e3⟩ := hA
  have hR1 := hR.fr hk e3
  have hM1 := hM.fr e3
  have mr1 := hR1.2.1 p hp
  rw [e1]
  unfold X5_play_148
  by_cases hlast : p + 1 < r.n ∧ r.t (p + 1) = r.t p
  · have mr2 := hR1.2.1 (p + 1) hlast.1
    have hz2 := hW.2.1 (p + 1) hlast.1
    have hl : X5_isLastOfItsTick k (nI p) S1 = some (nI 0, S1) := by
      unfold X5_isLastOfItsTick
      simp (disch := omega) only [qlit, nI_add, pk_mul, qIX, qIN, qOB, qOL, qLE1, qLE0, qLT1, qLT0, qEQ1, qEQ0, qM0, qM1, qR, qN0, qMM, qNL1, qNL0, qNE1, qNE0, qB1, qB0, qOT, qOF, qGT, hR1.1, mr2.1, mr1.1]
    simp (disch := omega) only [qlit, nI_add, pk_mul, qIX, qIN, qOB, qOL, qLE1, qLE0, qLT1, qLT0, qEQ1, qEQ0, qM0, qM1, qR, qN0, qMM, qNL1, qNL0, qNE1, qNE0, qB1, qB0, qOT, qOF, qGT, hl]
    have hq : qpl r c π s (p + 1) = qAp r c π s p := by
      rw [qpl_s, if_pos hlast.1, hlast.2, Nat.sub_self, Nat.zero_mul]
      rfl
    refine ⟨S1, rfl, ⟨hR1, by rw [hq]; exact e2, mc, mt, ml, hM1, by omega, fun j hj _ => by rw [hlast.2]; exact hmt j hj hp, fun τ hτ => ?_⟩, e3.cw⟩
    have h1 := hτ (by omega) hlast.1 (by rw [hlast.2]; rfl)
    rw [qL, if_neg (by omega)]
    refine hql τ (fun _ _ _ => by omega)
  · have hl : X5_isLastOfItsTick k (nI p) S1 = some (nI 1, S1) := by
      unfold X5_isLastOfItsTick
      by_cases h2 : p + 1 < r.n
      · have mr2 := hR1.2.1 (p + 1) h2
        have hz2 := hW.2.1 (p + 1) h2
        have h3 := hW.2.2.1 p (p + 1) (by omega) h2
        have h4 : r.t p < r.t (p + 1) := by
          rcases Nat.lt_or_ge (r.t p) (r.t (p + 1)) with h | h
          · exact h
          · exact absurd ⟨h2, by omega⟩ hlast
        simp (disch := omega) only [qlit, nI_add, pk_mul, qIX, qIN, qOB, qOL, qLE1, qLE0, qLT1, qLT0, qEQ1, qEQ0, qM0, qM1, qR, qN0, qMM, qNL1, qNL0, qNE1, qNE0, qB1, qB0, qOT, qOF, qGT, hR1.1, mr2.1, mr1.1]
      · simp (disch := omega) only [qlit, nI_add, pk_mul, qIX, qIN, qOB, qOL, qLE1, qLE0, qLT1, qLT0, qEQ1, qEQ0, qM0, qM1, qR, qN0, qMM, qNL1, qNL0, qNE1, qNE0, qB1, qB0, qOT, qOF, qGT, hR1.1]
    obtain ⟨S2, f1, f2, f3, f4⟩ := c_behind hW hR1 hk hp e2 hM1 hmc (fun j hj => hmt j hj hp)
    simp (disch := omega) only [qlit, nI_add, pk_mul, qIX, qIN, qOB, qOL, qLE1, qLE0, qLT1, qLT0, qEQ1, qEQ0, qM0, qM1, qR, qN0, qMM, qNL1, qNL0, qNE1, qNE0, qB1, qB0, qOT, qOF, qGT, hl, f1]
    refine ⟨S2, rfl, ⟨hR1.fw hk f4, f2, mc + 1, _, _, f3, by omega, fun j hj hpn => ?_, fun τ hτ => ?_⟩, e3.cw.tr f4⟩
    · have h3 := hW.2.2.1 p (p + 1) (by omega) hpn
      have h4 : r.t p < r.t (p + 1) := by
        rcases Nat.lt_or_ge (r.t p) (r.t (p + 1)) with h | h
        · exact h
        · exact absurd ⟨hpn, by omega⟩ hlast
      by_cases e : j = mc
      · subst e; rw [qup_s]; exact h4
      · rw [qup_n e]
        have := hmt j (by omega) hp
        omega
    · rw [qmk, qup_s, qup_s, qL]
      by_cases h3 : r.t p ≤ τ
      · rw [if_pos h3, if_pos h3, Nat.sub_sub]
        congr 1
        rw [show τ + 1 - r.t p = (τ - r.t p) + 1 by omega, Nat.add_mul, Nat.one_mul, Nat.mul_comm (r.g 1)]
        omega
      · rw [if_neg h3, if_neg h3, ← hql τ (fun _ _ _ => by omega)]
        exact qmk_cg (fun j hj => ⟨qup_n (by omega), qup_n (by omega)⟩)
theorem c_play {r : Rd} {c π s k : Nat} {S : St} (hW : RW r) (hR : RC r S) (hk : 6 ≤ k) (hc2 : c ≤ 1000) (hpi : π ≤ 4) (hs : s < 64) :
    ∃ S' mc mt ml, X5_play k (nI s) (nI c) (nI π) S = some ((), S') ∧ QC r c r.n k S' (qpl r c π s r.n) ∧ MK k mc mt ml S' ∧ (∀ τ, qmk mt ml (r.g 1) mc τ = qL r c π s r.n τ) ∧ Fr (PCw k) S S' := by
  have hn40 := hW.1
  have hg1 := hW.2.2.2.2.1
  have h51 : gi S 5 1 = nI (r.g 1) := hR.2.2 1 (by omega)
  generalize hS0 : si (si (si (si (si (si (si (si (si (si (si (si (si S k 4 (nI c)) k 5 (nI 1001)) k 6 (nI (r.g 1))) k 7 (nI 0)) k 8 (nI 5)) (k + 6) 0 (nI 0)) (k + 6) 3 (nI 0)) (k + 6) 4 (-nI 1)) (k + 1) 0 (nI 1)) (k + 1) 1 (nI r.n)) (k + 1) 5 (nI (r.g 1))) (k + 1) 3 (nI 0)) (k + 1) 6 (nI 0) = S0
  have hF0 : Fr (PCw k) S S0 := by
    rw [← hS0]
    refine Fr.si (Fr.si (Fr.si (Fr.si (Fr.si (Fr.si (Fr.si (Fr.si (Fr.si (Fr.si (Fr.si (Fr.si (Fr.si Fr.rf ?_) ?_) ?_) ?_) ?_) ?_) ?_) ?_) ?_) ?_) ?_) ?_) ?_
    all_goals (unfold PCw; omega)
  have hP0 : CP r c π s k 0 S0 := by
    refine ⟨hR.fw hk hF0, ⟨⟨?_, ?_, ?_, ?_, fun _ => ?_⟩, ⟨?_, ?_, ?_, ?_, fun p hp => absurd hp (Nat.not_lt_zero _), fun j hj => absurd hj (Nat.not_lt_zero _)⟩, ⟨?_, ?_, ?_, fun j hj => absurd hj (Nat.not_lt_zero _), fun j hj => absurd hj (Nat.not_lt_zero _)⟩⟩, 0, fun _ => 0, fun _ => 0, ⟨by omega, ?_, fun j hj => absurd hj (Nat.not_lt_zero _), fun i j _ hj => absurd hj (Nat.not_lt_zero _)⟩, Nat.le_refl _, fun j hj => absurd hj (Nat.not_lt_zero _), fun τ _ => rfl⟩
    all_goals rw [← hS0]
    · simp (disch := omega) only [qlit, nI_add, pk_mul, qIX, qIN, qOB, qOL, qLE1, qLE0, qLT1, qLT0, qEQ1, qEQ0, qM0, qM1, qR, qN0, qMM, qNL1, qNL0, qNE1, qNE0, qB1, qB0, qOT, qOF, qGT, qG0, qG1]
    · simp (disch := omega) only [qlit, nI_add, pk_mul, qIX, qIN, qOB, qOL, qLE1, qLE0, qLT1, qLT0, qEQ1, qEQ0, qM0, qM1, qR, qN0, qMM, qNL1, qNL0, qNE1, qNE0, qB1, qB0, qOT, qOF, qGT, qG0, qG1]; rfl
    · simp (disch := omega) only [qlit, nI_add, pk_mul, qIX, qIN, qOB, qOL, qLE1, qLE0, qLT1, qLT0, qEQ1, qEQ0, qM0, qM1, qR, qN0, qMM, qNL1, qNL0, qNE1, qNE0, qB1, qB0, qOT, qOF, qGT, qG0, qG1]
    · simp (disch := omega) only [qlit, nI_add, pk_mul, qIX, qIN, qOB, qOL, qLE1, qLE0, qLT1, qLT0, qEQ1, qEQ0, qM0, qM1, qR, qN0, qMM, qNL1, qNL0, qNE1, qNE0, qB1, qB0, qOT, qOF, qGT, qG0, qG1]; show _ = nI (0 % r.g 6); rw [Nat.zero_mod]
    · simp (disch := omega) only [qlit, nI_add, pk_mul, qIX, qIN, qOB, qOL, qLE1, qLE0, qLT1, qLT0, qEQ1, qEQ0, qM0, qM1, qR, qN0, qMM, qNL1, qNL0, qNE1, qNE0, qB1, qB0, qOT, qOF, qGT, qG0, qG1]; rfl
    · simp (disch := omega) only [qlit, nI_add, pk_mul, qIX, qIN, qOB, qOL, qLE1, qLE0, qLT1, qLT0, qEQ1, qEQ0, qM0, qM1, qR, qN0, qMM, qNL1, qNL0, qNE1, qNE0, qB1, qB0, qOT, qOF, qGT, qG0, qG1]
    · simp (disch := omega) only [qlit, nI_add, pk_mul, qIX, qIN, qOB, qOL, qLE1, qLE0, qLT1, qLT0, qEQ1, qEQ0, qM0, qM1, qR, qN0, qMM, qNL1, qNL0, qNE1, qNE0, qB1, qB0, qOT, qOF, qGT, qG0, qG1]
    · simp (disch := omega) only [qlit, nI_add, pk_mul, qIX, qIN, qOB, qOL, qLE1, qLE0, qLT1, qLT0, qEQ1, qEQ0, qM0, qM1, qR, qN0, qMM, qNL1, qNL0, qNE1, qNE0, qB1, qB0, qOT, qOF, qGT, qG0, qG1]; rfl
    · simp (disch := omega) only [qlit, nI_add, pk_mul, qIX, qIN, qOB, qOL, qLE1, qLE0, qLT1, qLT0, qEQ1, qEQ0, qM0, qM1, qR, qN0, qMM, qNL1, qNL0, qNE1, qNE0, qB1, qB0, qOT, qOF, qGT, qG0, qG1]
    · simp (disch := omega) only [qlit, nI_add, pk_mul, qIX, qIN, qOB, qOL, qLE1, qLE0, qLT1, qLT0, qEQ1, qEQ0, qM0, qM1, qR, qN0, qMM, qNL1, qNL0, qNE1, qNE0, qB1, qB0, qOT, qOF, qGT, qG0, qG1]; rfl
    · simp (disch := omega) only [qlit, nI_add, pk_mul, qIX, qIN, qOB, qOL, qLE1, qLE0, qLT1, qLT0, qEQ1, qEQ0, qM0, qM1, qR, qN0, qMM, qNL1, qNL0, qNE1, qNE0, qB1, qB0, qOT, qOF, qGT, qG0, qG1]; rfl
    · simp (disch := omega) only [qlit, nI_add, pk_mul, qIX, qIN, qOB, qOL, qLE1, qLE0, qLT1, qLT0, qEQ1, qEQ0, qM0, qM1, qR, qN0, qMM, qNL1, qNL0, qNE1, qNE0, qB1, qB0, qOT, qOF, qGT, qG0, qG1]; exact (qbgn_0 (fun i hi => absurd hi (Nat.not_lt_zero _))).symm
    · simp (disch := omega) only [qlit, nI_add, pk_mul, qIX, qIN, qOB, qOL, qLE1, qLE0, qLT1, qLT0, qEQ1, qEQ0, qM0, qM1, qR, qN0, qMM, qNL1, qNL0, qNE1, qNE0, qB1, qB0, qOT, qOF, qGT, qG0, qG1]
  have hloop : ∃ b S', X5_play_63L k (nI s) (nI π) (nI 0) S0 = some (b, S') ∧ (CP r c π s k r.n S' ∧ Fr (PCw k) S0 S') := by
    unfold X5_play_63L
    refine lp_cnt (body := fun (a : Int32) (S : St) => X5_play_63 k (nI s) (nI π) a S) r.n (fun i a T => a = nI i ∧ CP r c π s k i T ∧ Fr (PCw k) S0 T) _ ⟨rfl, hP0, Fr.rf⟩ ?_ ?_
    · rintro i a T hi ⟨rfl, h1, h2⟩
      obtain ⟨S', e1, e2, e3⟩ := c_step hW hk hc2 hpi hs hi h1
      exact ⟨_, S', e1, rfl, e2, h2.tr e3⟩
    · rintro a T ⟨rfl, h1, h2⟩
      refine ⟨(), T, ?_, h1, h2⟩
      show X5_play_63 k (nI s) (nI π) (nI r.n) T = _
      unfold X5_play_63
      simp (disch := omega) only [qlit, nI_add, pk_mul, qIX, qIN, qOB, qOL, qLE1, qLE0, qLT1, qLT0, qEQ1, qEQ0, qM0, qM1, qR, qN0, qMM, qNL1, qNL0, qNE1, qNE0, qB1, qB0, qOT, qOF, qGT, h1.1.1]
  obtain ⟨b, S1, e1, ⟨hR1, hQ1, mc, mt, ml, hM1, hmc, hmt, hql⟩, e3⟩ := hloop
  refine ⟨S1, mc, mt, ml, ?_, hQ1, hM1, fun τ => hql τ (fun _ h => absurd h (Nat.lt_irrefl _)), hF0.tr e3⟩
  have h10 : gi (si (si (si (si (si (si (si (si S k 4 (nI c)) k 5 (nI 1001)) k 6 (nI (r.g 1))) k 7 (nI 0)) k 8 (nI 5)) (k + 6) 0 (nI 0)) (k + 6) 3 (nI 0)) (k + 6) 4 (-nI 1)) 1 0 = nI r.n := by
    simp (disch := omega) only [qlit, nI_add, pk_mul, qIX, qIN, qOB, qOL, qLE1, qLE0, qLT1, qLT0, qEQ1, qEQ0, qM0, qM1, qR, qN0, qMM, qNL1, qNL0, qNE1, qNE0, qB1, qB0, qOT, qOF, qGT, qG0]; exact hR.1
  have h16 : gi (si (si (si (si (si (si (si (si S k 4 (nI c)) k 5 (nI 1001)) k 6 (nI (r.g 1))) k 7 (nI 0)) k 8 (nI 5)) (k + 6) 0 (nI 0)) (k + 6) 3 (nI 0)) (k + 6) 4 (-nI 1)) k 6 = nI (r.g 1) := by
    simp (disch := omega) only [qlit, nI_add, pk_mul, qIX, qIN, qOB, qOL, qLE1, qLE0, qLT1, qLT0, qEQ1, qEQ0, qM0, qM1, qR, qN0, qMM, qNL1, qNL0, qNE1, qNE0, qB1, qB0, qOT, qOF, qGT, qG0, qG1]
  have h51' : gi (si (si S k 4 (nI c)) k 5 (nI 1001)) 5 1 = nI (r.g 1) := by
    simp (disch := omega) only [qlit, nI_add, pk_mul, qIX, qIN, qOB, qOL, qLE1, qLE0, qLT1, qLT0, qEQ1, qEQ0, qM0, qM1, qR, qN0, qMM, qNL1, qNL0, qNE1, qNE0, qB1, qB0, qOT, qOF, qGT, qG0]; exact h51
  unfold X5_play X2_empty X3_begin
  simp only [qlit, qOL, qOB]
  rw [h51', h10, h16, hS0, e1, qOB]
