/-! ===== arrivals, as they are meant ===== -/
def qamax (v : Nat → Nat) : Nat → Nat
  | 0 => 0
  | m + 1 => if v (qamax v m) < v m then m else qamax v m
theorem qamax_sp {v : Nat → Nat} : ∀ (m : Nat), qamax v (m + 1) ≤ m ∧ (∀ j, j ≤ m → v j ≤ v (qamax v (m + 1))) := by
  intro m
  induction m with
  | zero =>
    have e : qamax v 1 = 0 := by simp [qamax]
    rw [e]
    exact ⟨Nat.le_refl _, fun j hj => by have : j = 0 := by omega
                                         subst this; exact Nat.le_refl _⟩
  | succ m ih =>
    obtain ⟨h1, h2⟩ := ih
    rw [qamax]
    by_cases hb : v (qamax v (m + 1)) < v (m + 1)
    · rw [if_pos hb]
      refine ⟨Nat.le_refl _, fun j hj => ?_⟩
      by_cases e : j = m + 1
      · subst e; exact Nat.le_refl _
      · have := h2 j (by omega); omega
    · rw [if_neg hb]
      refine ⟨by omega, fun j hj => ?_⟩
      by_cases e : j = m + 1
      · subst e; omega
      · exact h2 j (by omega)
def qwh (r : Rd) (Q : Qt) (k : Nat) : Bool := decide (Q.R (Q.w k) = r.z (Q.w k))
def qam (r : Rd) (p : Nat) (Q : Qt) (fl : Nat) : Nat := (if r.f p = fl then r.z p else 0) + qsm (fun k => if Q.R (Q.w k) = r.z (Q.w k) ∧ r.f (Q.w k) = fl then r.z (Q.w k) else 0) Q.m
def qlg (r : Rd) (p : Nat) (Q : Qt) : Nat := qamax (qam r p Q) 6
def qlw (r : Rd) (Q : Qt) (fl : Nat) : Nat := qlst (fun k => decide (Q.R (Q.w k) = r.z (Q.w k) ∧ r.f (Q.w k) = fl)) Q.m
/-- which place gives way; m: none -/
def qvic (r : Rd) (π p : Nat) (Q : Qt) : Nat := if π = 1 then qfnd (qwh r Q) Q.m else if π = 2 then (if qlg r p Q = r.f p then Q.m else qlw r Q (qlg r p Q) - 1) else Q.m
def qnc (x : Nat) (Q : Qt) : Qt := (Q.m, Q.w, Q.R, Q.lf, Q.F, Q.dm, Q.D, Q.cn, min Q.nc x)
def qdrp (p : Nat) (Q : Qt) : Qt := (Q.m, Q.w, Q.R, Q.lf, qup Q.F p (-nI 2), Q.dm + 1, qup Q.D Q.dm p, Q.cn, Q.nc)
def qrem (k : Nat) (Q : Qt) : Qt := (Q.m - 1, qdel Q.w k, Q.R, Q.lf, qup Q.F (Q.w k) (-nI 2), Q.dm + 1, qup Q.D Q.dm (Q.w k), Q.cn, Q.nc)
def qacc (r : Rd) (p : Nat) (Q : Qt) : Qt := (Q.m + 1, qup Q.w Q.m p, qup Q.R p (r.z p), Q.lf, Q.F, Q.dm, Q.D, Q.cn, Q.nc)
def qcn (Q : Qt) : Qt := (Q.m, Q.w, Q.R, Q.lf, Q.F, Q.dm, Q.D, Q.cn + 1, Q.nc)
def qroom (r : Rd) (c π p : Nat) : Nat → Qt → Bool × Qt
  | 0, Q => (true, Q)
  | n + 1, Q => if qld Q + r.z p ≤ c then (true, Q) else if qvic r π p Q < Q.m then qroom r c π p n (qrem (qvic r π p Q) (qnc (qld Q + r.z p) Q)) else (false, qnc (qld Q + r.z p) Q)
def qown (r : Rd) (p : Nat) (Q : Qt) : Nat := r.z p + qsm (fun k => if r.f (Q.w k) = r.f p then Q.R (Q.w k) else 0) Q.m
def qth (r : Rd) (p : Nat) (Q : Qt) : Nat := (4 * qown r p Q + r.g 4 - 1) / r.g 4
def qadm (r : Rd) (c π p : Nat) (Q : Qt) : Bool × Qt :=
  if c < r.z p then (false, qnc (r.z p) Q)
  else if (qroom r c π p 41 Q).1 = false then (false, (qroom r c π p 41 Q).2)
  else if π = 3 then (if qld (qroom r c π p 41 Q).2 + qth r p (qroom r c π p 41 Q).2 ≤ c then (true, (qroom r c π p 41 Q).2) else (false, qnc (qld (qroom r c π p 41 Q).2 + qth r p (qroom r c π p 41 Q).2) (qroom r c π p 41 Q).2))
  else if π = 4 ∧ r.g 5 ≤ qld (qroom r c π p 41 Q).2 then (decide (((qroom r c π p 41 Q).2.cn + 1) % r.g 6 ≠ 0), qcn (qroom r c π p 41 Q).2)
  else (true, (qroom r c π p 41 Q).2)
def qarr (r : Rd) (c π p : Nat) (Q : Qt) : Qt := if (qadm r c π p Q).1 = true then qacc r p (qadm r c π p Q).2 else qdrp p (qadm r c π p Q).2
def qA (r : Rd) (c π s p : Nat) (Q : Qt) : Qt := if s / 2 ^ r.f p % 2 = 1 then qarr r c π p Q else Q
def qQ0 : Qt := (0, fun _ => 0, fun _ => 0, 5, fun _ => -nI 3, 0, fun _ => 0, 0, 1001)
def qpl (r : Rd) (c π s : Nat) : Nat → Qt
  | 0 => qQ0
  | p + 1 => qrun r (r.t p * r.g 1) (if p + 1 < r.n then (r.t (p + 1) - r.t p) * r.g 1 else qld (qA r c π s p (qpl r c π s p))) (qA r c π s p (qpl r c π s p))
/-- a recording as it may be -/
def RW (r : Rd) : Prop :=
  r.n ≤ 40 ∧ (∀ p, p < r.n → r.t p ≤ 500 ∧ r.f p < 6 ∧ 1 ≤ r.z p ∧ r.z p ≤ 100) ∧ (∀ p q, p ≤ q → q < r.n → r.t p ≤ r.t q) ∧
  (1 ≤ r.g 0 ∧ r.g 0 ≤ 1000) ∧ (1 ≤ r.g 1 ∧ r.g 1 ≤ 100) ∧ r.g 2 ≤ 4 ∧ r.g 3 ≤ 2 ∧ (1 ≤ r.g 4 ∧ r.g 4 ≤ 16) ∧ r.g 5 ≤ 1000 ∧ (2 ≤ r.g 6 ∧ r.g 6 ≤ 9) ∧ r.g 7 ≤ 2 ∧ (∀ f, f < 6 → r.g (8 + f) ≤ 9)
theorem qld_nc {x : Nat} {Q : Qt} : qld (qnc x Q) = qld Q := rfl
theorem qld_drp {x : Nat} {Q : Qt} : qld (qdrp x Q) = qld Q := rfl
theorem qld_cn {Q : Qt} : qld (qcn Q) = qld Q := rfl
theorem qld_rem {k : Nat} {Q : Qt} (hk : k < Q.m) : qld (qrem k Q) + Q.R (Q.w k) = qld Q := by
  obtain ⟨n, hn⟩ : ∃ n, Q.m = n + 1 := ⟨Q.m - 1, by omega⟩
  have e := qsm_del (v := fun k => Q.R (Q.w k)) (k := k) (m := n) (by omega)
  unfold qld qrem
  simp only [qt_m, qt_w, qt_R]
  rw [hn, ← e, Nat.add_sub_cancel]
  congr 1
  refine qsm_congr (fun j hj => ?_)
  show Q.R (qdel Q.w k j) = _
  rw [qdel_get]
theorem qld_acc {r : Rd} {p : Nat} {Q : Qt} (hI : QI r p Q) : qld (qacc r p Q) = qld Q + r.z p := by
  unfold qld qacc
  simp only [qt_m, qt_w, qt_R]
  show qsm _ Q.m + qup Q.R p (r.z p) (qup Q.w Q.m p Q.m) = _
  rw [qup_s, qup_s]
  congr 1
  refine qsm_congr (fun j hj => ?_)
  show qup Q.R p (r.z p) (qup Q.w Q.m p j) = _
  rw [qup_n (show j ≠ Q.m by omega), qup_n (show Q.w j ≠ p from fun e => by have := (hI.2.1 j hj).1; omega)]
theorem qI_nc {r : Rd} {cur x : Nat} {Q : Qt} (hI : QI r cur Q) : QI r cur (qnc x Q) := hI
theorem qI_cn {r : Rd} {cur : Nat} {Q : Qt} (hI : QI r cur Q) : QI r cur (qcn Q) := hI
theorem qI_rem {r : Rd} {cur k : Nat} {Q : Qt} (hI : QI r cur Q) (hk : k < Q.m) : QI r cur (qrem k Q) := by
  obtain ⟨h1, h2, h3, h4, h5⟩ := hI
  have hd : ∀ i, i < Q.m - 1 → (if i < k then i else i + 1) < Q.m ∧ (if i < k then i else i + 1) ≠ k := by
    intro i hi
    split <;> omega
  unfold qrem QI
  simp only [qt_m, qt_w, qt_R, qt_lf, qt_F, qt_dm, qt_D, qt_cn, qt_nc]
  refine ⟨fun i j hi hj e => ?_, fun i hi => ?_, fun i j hi hj e1 e2 => ?_, by omega, h5⟩
  · rw [qdel_get, qdel_get] at e
    have := h1 _ _ (hd i hi).1 (hd j hj).1 e
    split at this <;> split at this <;> omega
  · rw [qdel_get]
    exact h2 _ (hd i hi).1
  · rw [qdel_get] at e1 e2
    have := h3 _ _ (hd i hi).1 (hd j hj).1 e1 e2
    split at this <;> split at this <;> omega
theorem qI_drp {r : Rd} {p : Nat} {Q : Qt} (hI : QI r p Q) : QI r (p + 1) (qdrp p Q) := by
  obtain ⟨h1, h2, h3, h4, h5⟩ := hI
  unfold qdrp QI
  simp only [qt_m, qt_w, qt_R, qt_lf, qt_F, qt_dm, qt_D, qt_cn, qt_nc]
  exact ⟨h1, fun i hi => ⟨by have := (h2 i hi).1; omega, (h2 i hi).2⟩, h3, by omega, h5⟩
theorem qI_up {r : Rd} {p : Nat} {Q : Qt} (hI : QI r p Q) : QI r (p + 1) Q := by
  obtain ⟨h1, h2, h3, h4, h5⟩ := hI
  exact ⟨h1, fun i hi => ⟨by have := (h2 i hi).1; omega, (h2 i hi).2⟩, h3, by omega, h5⟩
theorem qI_acc {r : Rd} {p : Nat} {Q : Qt} (hI : QI r p Q) (hz : 1 ≤ r.z p) : QI r (p + 1) (qacc r p Q) := by
  obtain ⟨h1, h2, h3, h4, h5⟩ := hI
  have hw : ∀ i, i < Q.m → Q.w i ≠ p := fun i hi e => by have := (h2 i hi).1; omega
  unfold qacc QI
  simp only [qt_m, qt_w, qt_R, qt_lf, qt_F, qt_dm, qt_D, qt_cn, qt_nc]
  have hc : ∀ i, i < Q.m + 1 → (i < Q.m ∧ qup Q.w Q.m p i = Q.w i) ∨ (i = Q.m ∧ qup Q.w Q.m p i = p) := by
    intro i hi
    by_cases e : i = Q.m
    · exact Or.inr ⟨e, by rw [e, qup_s]⟩
    · exact Or.inl ⟨by omega, qup_n e⟩
  refine ⟨fun i j hi hj e => ?_, fun i hi => ?_, fun i j hi hj e1 e2 => ?_, by omega, h5⟩
  · rcases hc i hi with ⟨a, b⟩ | ⟨a, b⟩ <;> rcases hc j hj with ⟨a', b'⟩ | ⟨a', b'⟩ <;> rw [b, b'] at e
    · exact h1 i j a a' e
    · exact absurd e (hw i a)
    · exact absurd e.symm (hw j a')
    · omega
  · rcases hc i hi with ⟨a, b⟩ | ⟨a, b⟩ <;> rw [b]
    · rw [qup_n (hw i a)]
      exact ⟨by have := (h2 i a).1; omega, (h2 i a).2⟩
    · rw [qup_s]
      exact ⟨by omega, hz, Nat.le_refl _⟩
  · rcases hc i hi with ⟨a, b⟩ | ⟨a, b⟩ <;> rw [b] at e1
    · rcases hc j hj with ⟨a', b'⟩ | ⟨a', b'⟩ <;> rw [b'] at e2
      · rw [qup_n (hw i a)] at e1
        rw [qup_n (hw j a')] at e2
        exact h3 i j a a' e1 e2
      · rw [qup_s] at e2; exact absurd rfl e2
    · rw [qup_s] at e1; exact absurd rfl e1
theorem qroom_ind {r : Rd} {c π p : Nat} (P : Qt → Prop) (h1 : ∀ x Q, P Q → P (qnc x Q)) (h2 : ∀ k Q, k < Q.m → P Q → P (qrem k Q)) : ∀ (n : Nat) (Q : Qt), P Q → P (qroom r c π p n Q).2 := by
  intro n
  induction n with
  | zero => intro Q h; exact h
  | succ n ih =>
    intro Q h
    unfold qroom
    split
    · exact h
    · split
      · rename_i hv
        exact ih _ (h2 _ _ hv (h1 _ _ h))
      · exact h1 _ _ h
theorem qadm_ind {r : Rd} {c π p : Nat} (P : Qt → Prop) (h1 : ∀ x Q, P Q → P (qnc x Q)) (h2 : ∀ k Q, k < Q.m → P Q → P (qrem k Q)) (h3 : ∀ Q, P Q → P (qcn Q)) (Q : Qt) (h : P Q) : P (qadm r c π p Q).2 := by
  have hr := qroom_ind (r := r) (c := c) (π := π) (p := p) P h1 h2 41 Q h
  unfold qadm
  split
  · exact h1 _ _ h
  · split
    · exact hr
    · split
      · split
        · exact hr
        · exact h1 _ _ hr
      · split
        · exact h3 _ hr
        · exact hr
theorem qarr_QI {r : Rd} {c π p : Nat} {Q : Qt} (hI : QI r p Q) (hz : 1 ≤ r.z p) : QI r (p + 1) (qarr r c π p Q) := by
  have h := qadm_ind (r := r) (c := c) (π := π) (p := p) (fun Q => QI r p Q) (fun x Q h => qI_nc h) (fun k Q hk h => qI_rem h hk) (fun Q h => qI_cn h) Q hI
  unfold qarr
  split
  · exact qI_acc h hz
  · exact qI_drp h
theorem qF_up {r : Rd} {p : Nat} {Q : Qt} (hF : QF r p Q) : QF r (p + 1) Q :=
  ⟨fun q hq => hF.1 q (by omega), fun q hq => by
    by_cases e : q = p
    · exact Or.inl (hF.1 q (by omega))
    · exact hF.2 q (by omega)⟩
theorem qF_set {r : Rd} {p q : Nat} {Q Q' : Qt} (hF : QF r p Q) (hq : q < p) (e : Q'.F = qup Q.F q (-nI 2)) : QF r p Q' := by
  unfold QF
  rw [e]
  refine ⟨fun x hx => by rw [qup_n (by omega)]; exact hF.1 x hx, fun x hx => ?_⟩
  by_cases h : x = q
  · subst h; rw [qup_s]; exact Or.inr (Or.inl rfl)
  · rw [qup_n h]; exact hF.2 x hx
theorem qarr_QF {r : Rd} {c π p : Nat} {Q : Qt} (hI : QI r p Q) (hF : QF r p Q) : QF r (p + 1) (qarr r c π p Q) := by
  have h := qadm_ind (r := r) (c := c) (π := π) (p := p) (fun Q => QI r p Q ∧ QF r p Q) (fun x Q h => h) (fun k Q hk h => ⟨qI_rem h.1 hk, qF_set h.2 (h.1.2.1 k hk).1 rfl⟩) (fun Q h => h) Q ⟨hI, hF⟩
  unfold qarr
  split
  · exact qF_up h.2
  · exact qF_set (qF_up h.2) (Nat.lt_succ_self p) rfl
theorem qA_QI {r : Rd} {c π s p : Nat} {Q : Qt} (hI : QI r p Q) (hF : QF r p Q) (hz : 1 ≤ r.z p) : QI r (p + 1) (qA r c π s p Q) ∧ QF r (p + 1) (qA r c π s p Q) := by
  unfold qA
  split
  · exact ⟨qarr_QI hI hz, qarr_QF hI hF⟩
  · exact ⟨qI_up hI, qF_up hF⟩
theorem qld_le {r : Rd} {cur : Nat} {Q : Qt} (hI : QI r cur Q) (hW : RW r) (hc : cur ≤ r.n) : qld Q ≤ 100 * Q.m := qsm_le (fun k hk => by
  have h1 := hI.2.1 k hk
  have h2 := hW.2.1 (Q.w k) (by omega)
  show Q.R (Q.w k) ≤ 100
  omega)
theorem qQ0_I {r : Rd} : QI r 0 qQ0 ∧ QF r 0 qQ0 :=
  ⟨⟨fun i j hi => absurd hi (Nat.not_lt_zero _), fun i hi => absurd hi (Nat.not_lt_zero _), fun i j hi => absurd hi (Nat.not_lt_zero _), Nat.le_refl _, by decide⟩, fun _ _ => rfl, fun p hp => absurd hp (Nat.not_lt_zero _)⟩
theorem qpl_I {r : Rd} {c π s : Nat} (hW : RW r) : ∀ p, p ≤ r.n → QI r p (qpl r c π s p) ∧ QF r p (qpl r c π s p) := by
  intro p
  induction p with
  | zero => intro _; exact qQ0_I
  | succ p ih =>
    intro hp
    obtain ⟨hI, hF⟩ := ih (by omega)
    have hz := hW.2.1 p (by omega)
    obtain ⟨hI1, hF1⟩ := qA_QI (c := c) (π := π) (s := s) hI hF hz.2.2.1
    have hf : ∀ q, q < p + 1 → r.f q < 6 := fun q hq => (hW.2.1 q (by omega)).2.1
    have hg := hW.2.2.2.2.1
    unfold qpl
    refine ⟨qrun_QI hf _ _ _ hI1, qrun_QF hf _ _ _ hI1 hF1 (fun q hq => ?_) ?_⟩
    · rw [Nat.mul_div_cancel _ (by omega)]
      exact hW.2.2.1 q p (by omega) (by omega)
    · split
      · rename_i h1
        have h2 := hW.2.2.1 p (p + 1) (by omega) h1
        have h3 := (hW.2.1 (p + 1) h1).1
        rw [← Nat.add_mul, show r.t p + (r.t (p + 1) - r.t p) = r.t (p + 1) by omega, Nat.mul_div_cancel _ (by omega)]
        omega
      · have h2 := qld_le hI1 hW (by omega)
        have h3 := hI1.2.2.2.1
        have h4 := hW.1
        rw [Nat.add_comm, Nat.add_mul_div_right _ _ (by omega)]
        have h5 : qld (qA r c π s p (qpl r c π s p)) / r.g 1 ≤ qld (qA r c π s p (qpl r c π s p)) := Nat.div_le_self _ _
        omega
/-! ===== a greater capacity below the least refused amount changes nothing ===== -/
theorem qroom_nc {r : Rd} {c c' π p : Nat} (hc : c ≤ c') : ∀ (n : Nat) (Q : Qt), (qroom r c π p n Q).2.nc ≤ Q.nc ∧ (c' < (qroom r c π p n Q).2.nc → qroom r c' π p n Q = qroom r c π p n Q) := by
  intro n
  induction n with
  | zero => intro Q; exact ⟨Nat.le_refl _, fun _ => rfl⟩
  | succ n ih =>
    intro Q
    rw [qroom, qroom]
    by_cases h1 : qld Q + r.z p ≤ c
    · rw [if_pos h1, if_pos (show qld Q + r.z p ≤ c' by omega)]
      exact ⟨Nat.le_refl _, fun _ => rfl⟩
    · rw [if_neg h1]
      by_cases h2 : qvic r π p Q < Q.m
      · rw [if_pos h2]
        obtain ⟨a, b⟩ := ih (qrem (qvic r π p Q) (qnc (qld Q + r.z p) Q))
        have e : (qrem (qvic r π p Q) (qnc (qld Q + r.z p) Q)).nc = min Q.nc (qld Q + r.z p) := rfl
        refine ⟨by omega, fun h => ?_⟩
        rw [if_neg (show ¬ qld Q + r.z p ≤ c' by omega), if_pos h2]
        exact b h
      · rw [if_neg h2]
        have e : (qnc (qld Q + r.z p) Q).nc = min Q.nc (qld Q + r.z p) := rfl
        refine ⟨by show (qnc (qld Q + r.z p) Q).nc ≤ _; omega, fun h => ?_⟩
        have h' : c' < (qnc (qld Q + r.z p) Q).nc := h
        rw [if_neg (show ¬ qld Q + r.z p ≤ c' by omega), if_neg h2]
theorem qadm_nc {r : Rd} {c c' π p : Nat} (hc : c ≤ c') (Q : Qt) : (qadm r c π p Q).2.nc ≤ Q.nc ∧ (c' < (qadm r c π p Q).2.nc → qadm r c' π p Q = qadm r c π p Q) := by
  obtain ⟨a, b⟩ := qroom_nc (r := r) (π := π) (p := p) hc 41 Q
  have e0 : ∀ x, (qnc x Q).nc = min Q.nc x := fun _ => rfl
  have e1 : ∀ x, (qnc x (qroom r c π p 41 Q).2).nc = min (qroom r c π p 41 Q).2.nc x := fun _ => rfl
  unfold qadm
  by_cases h1 : c < r.z p
  · rw [if_pos h1]
    have := e0 (r.z p)
    refine ⟨by show (qnc (r.z p) Q).nc ≤ _; omega, fun h => ?_⟩
    have h' : c' < (qnc (r.z p) Q).nc := h
    rw [if_pos (show c' < r.z p by omega)]
  · rw [if_neg h1, if_neg (show ¬ c' < r.z p by omega)]
    by_cases h2 : (qroom r c π p 41 Q).1 = false
    · rw [if_pos h2]
      refine ⟨a, fun h => ?_⟩
      rw [b h, if_pos h2]
    · rw [if_neg h2]
      by_cases h3 : π = 3
      · rw [if_pos h3]
        by_cases h4 : qld (qroom r c π p 41 Q).2 + qth r p (qroom r c π p 41 Q).2 ≤ c
        · rw [if_pos h4]
          refine ⟨a, fun h => ?_⟩
          rw [b h, if_neg h2, if_pos h3, if_pos (Nat.le_trans h4 hc)]
        · rw [if_neg h4]
          have := e1 (qld (qroom r c π p 41 Q).2 + qth r p (qroom r c π p 41 Q).2)
          refine ⟨by show (qnc _ (qroom r c π p 41 Q).2).nc ≤ _; omega, fun h => ?_⟩
          have h' : c' < (qnc (qld (qroom r c π p 41 Q).2 + qth r p (qroom r c π p 41 Q).2) (qroom r c π p 41 Q).2).nc := h
          rw [b (by omega), if_neg h2, if_pos h3, if_neg (by omega)]
      · rw [if_neg h3]
        by_cases h4 : π = 4 ∧ r.g 5 ≤ qld (qroom r c π p 41 Q).2
        · rw [if_pos h4]
          refine ⟨a, fun h => ?_⟩
          rw [b h, if_neg h2, if_neg h3, if_pos h4]
        · rw [if_neg h4]
          refine ⟨a, fun h => ?_⟩
          rw [b h, if_neg h2, if_neg h3, if_neg h4]
theorem qA_nc {r : Rd} {c c' π s p : Nat} (hc : c ≤ c') (Q : Qt) : (qA r c π s p Q).nc ≤ Q.nc ∧ (c' < (qA r c π s p Q).nc → qA r c' π s p Q = qA r c π s p Q) := by
  unfold qA
  split
  · obtain ⟨a, b⟩ := qadm_nc (r := r) (π := π) (p := p) hc Q
    unfold qarr
    split
    · refine ⟨a, fun h => ?_⟩
      rw [b h, if_pos (by assumption)]
    · refine ⟨a, fun h => ?_⟩
      rw [b h, if_neg (by assumption)]
  · exact ⟨Nat.le_refl _, fun _ => rfl⟩
theorem qpl_nc {r : Rd} {c c' π s : Nat} (hc : c ≤ c') : ∀ p, c' < (qpl r c π s p).nc → qpl r c' π s p = qpl r c π s p := by
  intro p
  induction p with
  | zero => intro _; rfl
  | succ p ih =>
    intro h
    unfold qpl at h
    rw [(qrun_st _ _ _).2.2.2] at h
    obtain ⟨a, b⟩ := qA_nc (r := r) (π := π) (s := s) (p := p) hc (qpl r c π s p)
    unfold qpl
    rw [ih (by omega), b h]
theorem qpl_nc1 {r : Rd} {c π s : Nat} : ∀ p, (qpl r c π s p).nc ≤ 1001 := by
  intro p
  induction p with
  | zero => exact Nat.le_refl _
  | succ p ih =>
    unfold qpl
    rw [(qrun_st _ _ _).2.2.2]
    have := (qA_nc (r := r) (π := π) (s := s) (p := p) (Nat.le_refl c) (qpl r c π s p)).1
    omega
/-- a set counts by the flows that have packets -/
theorem qpl_set {r : Rd} {c π s s' : Nat} (h : ∀ p, p < r.n → s / 2 ^ r.f p % 2 = s' / 2 ^ r.f p % 2) : ∀ p, p ≤ r.n → qpl r c π s p = qpl r c π s' p := by
  intro p
  induction p with
  | zero => intro _; rfl
  | succ p ih =>
    intro hp
    unfold qpl
    rw [ih (by omega)]
    unfold qA
    rw [h p (by omega)]
