/-! ===== sums, searches and removals over places ===== -/
def qsm (v : Nat → Nat) : Nat → Nat
  | 0 => 0
  | m + 1 => qsm v m + v m
theorem qsm_congr {v v' : Nat → Nat} : ∀ {m : Nat}, (∀ k, k < m → v k = v' k) → qsm v m = qsm v' m := by
  intro m
  induction m with
  | zero => intro _; rfl
  | succ m ih => intro h; unfold qsm; rw [ih (fun k hk => h k (by omega)), h m (by omega)]
theorem qsm_del {v : Nat → Nat} {k : Nat} : ∀ {m : Nat}, k < m + 1 → qsm (fun j => v (if j < k then j else j + 1)) m + v k = qsm v (m + 1) := by
  intro m
  induction m with
  | zero => intro h; have : k = 0 := by omega
            subst this; simp [qsm]
  | succ m ih =>
    intro h
    by_cases hk : k = m + 1
    · subst hk
      have e : qsm (fun j => v (if j < m + 1 then j else j + 1)) (m + 1) = qsm v (m + 1) := qsm_congr (fun j hj => by rw [if_pos hj])
      rw [e]; rfl
    · have := ih (by omega)
      show qsm _ m + v (if m < k then m else m + 1) + v k = qsm v (m + 1) + v (m + 1)
      rw [if_neg (by omega)]
      omega
theorem qsm_one {v v' : Nat → Nat} {k d : Nat} : ∀ {m : Nat}, k < m → (∀ j, j < m → j ≠ k → v' j = v j) → v' k + d = v k → qsm v' m + d = qsm v m := by
  intro m
  induction m with
  | zero => intro h; omega
  | succ m ih =>
    intro h h1 h2
    unfold qsm
    by_cases hk : k = m
    · subst hk
      rw [qsm_congr (fun j hj => h1 j (by omega) (by omega))]
      omega
    · have := ih (by omega) (fun j hj hn => h1 j (by omega) hn) h2
      rw [h1 m (by omega) (fun e => hk e.symm)]
      omega
theorem qsm_le {v : Nat → Nat} {c : Nat} : ∀ {m : Nat}, (∀ k, k < m → v k ≤ c) → qsm v m ≤ c * m := by
  intro m
  induction m with
  | zero => intro _; exact Nat.zero_le _
  | succ m ih =>
    intro h
    have h1 := ih (fun k hk => h k (by omega))
    have h2 := h m (by omega)
    unfold qsm
    rw [Nat.mul_succ]
    omega
theorem qsm_ge {v : Nat → Nat} : ∀ {m : Nat}, (∀ k, k < m → 1 ≤ v k) → m ≤ qsm v m := by
  intro m
  induction m with
  | zero => intro _; exact Nat.zero_le _
  | succ m ih =>
    intro h
    have h1 := ih (fun k hk => h k (by omega))
    have h2 := h m (by omega)
    unfold qsm
    omega
theorem qsm_get {v : Nat → Nat} {k : Nat} : ∀ {m : Nat}, k < m → v k ≤ qsm v m := by
  intro m
  induction m with
  | zero => intro h; omega
  | succ m ih =>
    intro h
    unfold qsm
    by_cases hk : k = m
    · subst hk; omega
    · have := ih (by omega); omega
theorem qsm_mono {v : Nat → Nat} {a b : Nat} (h : a ≤ b) : qsm v a ≤ qsm v b := by
  induction b with
  | zero => have : a = 0 := by omega
            subst this; exact Nat.le_refl _
  | succ b ih =>
    by_cases e : a = b + 1
    · subst e; exact Nat.le_refl _
    · have := ih (by omega)
      show qsm v a ≤ qsm v b + v b
      omega
/-- the first place of m where P holds; m if there is none -/
def qfnd (P : Nat → Bool) : Nat → Nat
  | 0 => 0
  | m + 1 => if qfnd P m < m then qfnd P m else if P m = true then m else m + 1
theorem qfnd_sp {P : Nat → Bool} : ∀ (m : Nat), qfnd P m ≤ m ∧ (qfnd P m < m → P (qfnd P m) = true) ∧ (∀ j, j < qfnd P m → P j = false) := by
  intro m
  induction m with
  | zero => exact ⟨Nat.le_refl _, fun h => absurd h (by simp [qfnd]), fun j hj => by simp [qfnd] at hj⟩
  | succ m ih =>
    obtain ⟨h1, h2, h3⟩ := ih
    unfold qfnd
    by_cases ha : qfnd P m < m
    · rw [if_pos ha]
      exact ⟨by omega, fun _ => h2 ha, h3⟩
    · rw [if_neg ha]
      have e : qfnd P m = m := by omega
      rw [e] at h3
      by_cases hb : P m = true
      · rw [if_pos hb]
        exact ⟨by omega, fun _ => hb, h3⟩
      · rw [if_neg hb]
        refine ⟨Nat.le_refl _, fun h => by omega, fun j hj => ?_⟩
        by_cases hj2 : j = m
        · subst hj2; simpa using hb
        · exact h3 j (by omega)
theorem qfnd_eq {P : Nat → Bool} {m k : Nat} (hk : k < m) (h1 : P k = true) (h2 : ∀ j, j < k → P j = false) : qfnd P m = k := by
  obtain ⟨a, b, c⟩ := qfnd_sp (P := P) m
  rcases Nat.lt_trichotomy (qfnd P m) k with h | h | h
  · have := h2 _ h; rw [b (by omega)] at this; cases this
  · exact h
  · have := c _ h; rw [h1] at this; cases this
theorem qfnd_no {P : Nat → Bool} {m : Nat} (h : ∀ j, j < m → P j = false) : qfnd P m = m := by
  obtain ⟨a, b, c⟩ := qfnd_sp (P := P) m
  by_cases hh : qfnd P m < m
  · have := h _ hh; rw [b hh] at this; cases this
  · omega
theorem qfnd_ex {P : Nat → Bool} {m j : Nat} (h : j < m) (hp : P j = true) : qfnd P m ≤ j := by
  obtain ⟨a, b, c⟩ := qfnd_sp (P := P) m
  rcases Nat.lt_or_ge j (qfnd P m) with h | h
  · have := c _ h; rw [hp] at this; cases this
  · exact h
theorem qfnd_congr {P P' : Nat → Bool} : ∀ {m : Nat}, (∀ k, k < m → P k = P' k) → qfnd P m = qfnd P' m := by
  intro m
  induction m with
  | zero => intro _; rfl
  | succ m ih => intro h; unfold qfnd; rw [ih (fun k hk => h k (by omega)), h m (by omega)]
/-- the last place of m where P holds, plus 1; 0 if there is none -/
def qlst (P : Nat → Bool) : Nat → Nat
  | 0 => 0
  | m + 1 => if P m = true then m + 1 else qlst P m
theorem qlst_sp {P : Nat → Bool} : ∀ (m : Nat), qlst P m ≤ m ∧ (0 < qlst P m → P (qlst P m - 1) = true) ∧ (∀ j, qlst P m ≤ j → j < m → P j = false) := by
  intro m
  induction m with
  | zero => exact ⟨Nat.le_refl _, fun h => by simp [qlst] at h, fun j _ hj => by omega⟩
  | succ m ih =>
    obtain ⟨h1, h2, h3⟩ := ih
    unfold qlst
    by_cases hb : P m = true
    · rw [if_pos hb]
      exact ⟨by omega, fun _ => hb, fun j h4 h5 => by omega⟩
    · rw [if_neg hb]
      refine ⟨by omega, h2, fun j h4 h5 => ?_⟩
      by_cases hj2 : j = m
      · subst hj2; simpa using hb
      · exact h3 j h4 (by omega)
theorem qlst_ex {P : Nat → Bool} {m j : Nat} (h : j < m) (hp : P j = true) : j < qlst P m := by
  obtain ⟨a, b, c⟩ := qlst_sp (P := P) m
  rcases Nat.lt_or_ge j (qlst P m) with h2 | h2
  · exact h2
  · have := c _ h2 h; rw [hp] at this; cases this
/-- the first place of m with the least value -/
def qamin (v : Nat → Nat) : Nat → Nat
  | 0 => 0
  | m + 1 => if v m < v (qamin v m) then m else qamin v m
theorem qamin_sp {v : Nat → Nat} : ∀ (m : Nat), qamin v (m + 1) ≤ m ∧ (∀ j, j ≤ m → v (qamin v (m + 1)) ≤ v j) ∧ (∀ j, j < qamin v (m + 1) → v (qamin v (m + 1)) < v j) := by
  intro m
  induction m with
  | zero =>
    have e : qamin v 1 = 0 := by simp [qamin]
    rw [e]
    exact ⟨Nat.le_refl _, fun j hj => by have : j = 0 := by omega
                                         subst this; exact Nat.le_refl _, fun j hj => by omega⟩
  | succ m ih =>
    obtain ⟨h1, h2, h3⟩ := ih
    rw [qamin]
    by_cases hb : v (m + 1) < v (qamin v (m + 1))
    · rw [if_pos hb]
      refine ⟨Nat.le_refl _, fun j hj => ?_, fun j hj => ?_⟩
      · by_cases e : j = m + 1
        · subst e; exact Nat.le_refl _
        · have := h2 j (by omega); omega
      · have := h2 j (by omega); omega
    · rw [if_neg hb]
      refine ⟨by omega, fun j hj => ?_, h3⟩
      by_cases e : j = m + 1
      · subst e; omega
      · exact h2 j (by omega)
theorem qamin_eq {v : Nat → Nat} {m k : Nat} (hk : k < m) (h1 : ∀ j, j < m → v k ≤ v j) (h2 : ∀ j, j < k → v k < v j) : qamin v m = k := by
  cases m with
  | zero => omega
  | succ m =>
    obtain ⟨a, b, c⟩ := qamin_sp (v := v) m
    have e1 := h1 (qamin v (m + 1)) (by omega)
    have e2 := b k (by omega)
    rcases Nat.lt_trichotomy (qamin v (m + 1)) k with h | h | h
    · have := h2 _ h; omega
    · exact h
    · have := c _ h; omega
theorem qamin_congr {v v' : Nat → Nat} {m : Nat} (h : ∀ k, k < m → v k = v' k) : qamin v m = qamin v' m := by
  cases m with
  | zero => rfl
  | succ m =>
    obtain ⟨a, b, c⟩ := qamin_sp (v := v') m
    refine qamin_eq (by omega) (fun j hj => ?_) (fun j hj => ?_)
    · rw [h _ (by omega), h j hj]; exact b j (by omega)
    · rw [h _ (by omega), h j (by omega)]; exact c j hj
def qdel (w : Nat → Nat) (k j : Nat) : Nat := if j < k then w j else w (j + 1)
def qup {α : Type} (v : Nat → α) (p : Nat) (x : α) (q : Nat) : α := if q = p then x else v q
theorem qup_s {α : Type} {v : Nat → α} {p : Nat} {x : α} : qup v p x p = x := if_pos rfl
theorem qup_n {α : Type} {v : Nat → α} {p q : Nat} {x : α} (h : q ≠ p) : qup v p x q = v q := if_neg h
theorem qup_up {α : Type} {v : Nat → α} {p : Nat} {x y : α} : qup (qup v p x) p y = qup v p y := by
  funext q
  unfold qup
  split <;> simp_all
theorem qdel_get {w : Nat → Nat} {k j : Nat} : qdel w k j = w (if j < k then j else j + 1) := by
  unfold qdel; split <;> rfl
/-! ===== the queue of a replay, as it is meant ===== -/
/-- packets: how many, times, flows, sizes; settings -/
abbrev Rd : Type := Nat × (Nat → Nat) × (Nat → Nat) × (Nat → Nat) × (Nat → Nat)
def Rd.n (r : Rd) : Nat := r.1
def Rd.t (r : Rd) : Nat → Nat := r.2.1
def Rd.f (r : Rd) : Nat → Nat := r.2.2.1
def Rd.z (r : Rd) : Nat → Nat := r.2.2.2.1
def Rd.g (r : Rd) : Nat → Nat := r.2.2.2.2
/-- what waits: how many, which, bytes left; the latest flow; fates; drops; what early drop has counted; the least amount that was refused -/
abbrev Qt : Type := Nat × (Nat → Nat) × (Nat → Nat) × Nat × (Nat → Int32) × Nat × (Nat → Nat) × Nat × Nat
def Qt.m (Q : Qt) : Nat := Q.1
def Qt.w (Q : Qt) : Nat → Nat := Q.2.1
def Qt.R (Q : Qt) : Nat → Nat := Q.2.2.1
def Qt.lf (Q : Qt) : Nat := Q.2.2.2.1
def Qt.F (Q : Qt) : Nat → Int32 := Q.2.2.2.2.1
def Qt.dm (Q : Qt) : Nat := Q.2.2.2.2.2.1
def Qt.D (Q : Qt) : Nat → Nat := Q.2.2.2.2.2.2.1
def Qt.cn (Q : Qt) : Nat := Q.2.2.2.2.2.2.2.1
def Qt.nc (Q : Qt) : Nat := Q.2.2.2.2.2.2.2.2
theorem qt_m {m : Nat} {w R : Nat → Nat} {lf : Nat} {F : Nat → Int32} {dm : Nat} {D : Nat → Nat} {cn nc : Nat} : Qt.m (m, w, R, lf, F, dm, D, cn, nc) = m := rfl
theorem qt_w {m : Nat} {w R : Nat → Nat} {lf : Nat} {F : Nat → Int32} {dm : Nat} {D : Nat → Nat} {cn nc : Nat} : Qt.w (m, w, R, lf, F, dm, D, cn, nc) = w := rfl
theorem qt_R {m : Nat} {w R : Nat → Nat} {lf : Nat} {F : Nat → Int32} {dm : Nat} {D : Nat → Nat} {cn nc : Nat} : Qt.R (m, w, R, lf, F, dm, D, cn, nc) = R := rfl
theorem qt_lf {m : Nat} {w R : Nat → Nat} {lf : Nat} {F : Nat → Int32} {dm : Nat} {D : Nat → Nat} {cn nc : Nat} : Qt.lf (m, w, R, lf, F, dm, D, cn, nc) = lf := rfl
theorem qt_F {m : Nat} {w R : Nat → Nat} {lf : Nat} {F : Nat → Int32} {dm : Nat} {D : Nat → Nat} {cn nc : Nat} : Qt.F (m, w, R, lf, F, dm, D, cn, nc) = F := rfl
theorem qt_dm {m : Nat} {w R : Nat → Nat} {lf : Nat} {F : Nat → Int32} {dm : Nat} {D : Nat → Nat} {cn nc : Nat} : Qt.dm (m, w, R, lf, F, dm, D, cn, nc) = dm := rfl
theorem qt_D {m : Nat} {w R : Nat → Nat} {lf : Nat} {F : Nat → Int32} {dm : Nat} {D : Nat → Nat} {cn nc : Nat} : Qt.D (m, w, R, lf, F, dm, D, cn, nc) = D := rfl
theorem qt_cn {m : Nat} {w R : Nat → Nat} {lf : Nat} {F : Nat → Int32} {dm : Nat} {D : Nat → Nat} {cn nc : Nat} : Qt.cn (m, w, R, lf, F, dm, D, cn, nc) = cn := rfl
theorem qt_nc {m : Nat} {w R : Nat → Nat} {lf : Nat} {F : Nat → Int32} {dm : Nat} {D : Nat → Nat} {cn nc : Nat} : Qt.nc (m, w, R, lf, F, dm, D, cn, nc) = nc := rfl
theorem rd_n {n : Nat} {t f z g : Nat → Nat} : Rd.n (n, t, f, z, g) = n := rfl
theorem rd_t {n : Nat} {t f z g : Nat → Nat} : Rd.t (n, t, f, z, g) = t := rfl
theorem rd_f {n : Nat} {t f z g : Nat → Nat} : Rd.f (n, t, f, z, g) = f := rfl
theorem rd_z {n : Nat} {t f z g : Nat → Nat} : Rd.z (n, t, f, z, g) = z := rfl
theorem rd_g {n : Nat} {t f z g : Nat → Nat} : Rd.g (n, t, f, z, g) = g := rfl
def qld (Q : Qt) : Nat := qsm (fun k => Q.R (Q.w k)) Q.m
def qbg (z w R : Nat → Nat) (k : Nat) : Bool := decide (R (w k) ≠ z (w k))
def qtn (g : Nat → Nat) (lf fl : Nat) : Nat := if g 3 = 0 then 0 else if g 3 = 1 then g (8 + fl) * 6 + fl else if lf < fl then fl - lf else fl + 6 - lf
/-- the place of the packet that has begun; m: none -/
def qbp (r : Rd) (Q : Qt) : Nat := qfnd (qbg r.z Q.w Q.R) Q.m
def qch (r : Rd) (Q : Qt) : Nat := if qbp r Q < Q.m then qbp r Q else qamin (fun k => qtn r.g Q.lf (r.f (Q.w k))) Q.m
def qlf (r : Rd) (Q : Qt) : Nat := if qbp r Q < Q.m then Q.lf else r.f (Q.w (qch r Q))
/-- s bytes of the packet that is chosen, from the clock b on -/
def qck (r : Rd) (b s : Nat) (Q : Qt) : Qt :=
  if Q.R (Q.w (qch r Q)) = s then (Q.m - 1, qdel Q.w (qch r Q), qup Q.R (Q.w (qch r Q)) 0, qlf r Q, qup Q.F (Q.w (qch r Q)) (nI ((b + s - 1) / r.g 1)), Q.dm, Q.D, Q.cn, Q.nc)
  else (Q.m, Q.w, qup Q.R (Q.w (qch r Q)) (Q.R (Q.w (qch r Q)) - s), qlf r Q, Q.F, Q.dm, Q.D, Q.cn, Q.nc)
def qb1 (r : Rd) (b : Nat) (Q : Qt) : Qt := if Q.m = 0 then Q else qck r b 1 Q
def qrun (r : Rd) : Nat → Nat → Qt → Qt
  | _, 0, Q => Q
  | b, s + 1, Q => qrun r (b + 1) s (qb1 r b Q)
theorem qrun_add {r : Rd} : ∀ (a b c : Nat) (Q : Qt), qrun r c (a + b) Q = qrun r (c + a) b (qrun r c a Q) := by
  intro a
  induction a with
  | zero => intro b c Q; rw [Nat.zero_add]; rfl
  | succ a ih =>
    intro b c Q
    rw [show a + 1 + b = (a + b) + 1 by omega]
    show qrun r (c + 1) (a + b) (qb1 r c Q) = qrun r (c + (a + 1)) b (qrun r (c + 1) a (qb1 r c Q))
    rw [ih, show c + 1 + a = c + (a + 1) by omega]
def QI (r : Rd) (cur : Nat) (Q : Qt) : Prop :=
  (∀ i j, i < Q.m → j < Q.m → Q.w i = Q.w j → i = j) ∧ (∀ k, k < Q.m → Q.w k < cur ∧ 1 ≤ Q.R (Q.w k) ∧ Q.R (Q.w k) ≤ r.z (Q.w k)) ∧ (∀ i j, i < Q.m → j < Q.m → Q.R (Q.w i) ≠ r.z (Q.w i) → Q.R (Q.w j) ≠ r.z (Q.w j) → i = j) ∧ Q.dm + Q.m ≤ cur ∧ Q.lf < 6
theorem qch_lt {r : Rd} {Q : Qt} (h : 0 < Q.m) : qch r Q < Q.m := by
  unfold qch
  split
  · assumption
  · obtain ⟨k, hk⟩ : ∃ k, Q.m = k + 1 := ⟨Q.m - 1, by omega⟩
    rw [hk]
    have := (qamin_sp (v := fun k => qtn r.g Q.lf (r.f (Q.w k))) k).1
    omega
/-- a packet that has begun is the one that is chosen -/
theorem qch_bg {r : Rd} {Q : Qt} {cur i : Nat} (hI : QI r cur Q) (hi : i < Q.m) (hb : Q.R (Q.w i) ≠ r.z (Q.w i)) : qbp r Q = i ∧ qch r Q = i := by
  have h1 : qbp r Q = i := by
    refine qfnd_eq hi (by simpa [qbg] using hb) (fun j hj => ?_)
    by_cases hc : Q.R (Q.w j) = r.z (Q.w j)
    · simp [qbg, hc]
    · have := hI.2.2.1 i j hi (by omega) hb hc
      omega
  refine ⟨h1, ?_⟩
  unfold qch
  rw [h1, if_pos hi]
