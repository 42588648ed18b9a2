abbrev vwCl : List vw_C := [(RX1, TX1, 3), (RX2, TX2, 5), (RX3, TX3, 9), (RX4, TX4, 5), (RX5, TX5, 9), (RX6, TX6, 5), (RX7, TX7, 8), (RX8, TX8, 31)]
/-! ===== the cells of the system, in a fixed order; their shapes; the world of a state ===== -/
/-- addresses of the cells, of the enum's constants; array classes (0 int, 1 long, 2 Recording, 3 Command); class numbers and slots; addresses of what stood there before -/
abbrev Ga : Type := (Nat → Nat) × (Nat → Nat) × (Nat → ClassId) × va_G × (Nat → Nat)
abbrev Ga.ad (G : Ga) : Nat → Nat := G.1
abbrev Ga.ec (G : Ga) : Nat → Nat := G.2.1
abbrev Ga.ca (G : Ga) : Nat → ClassId := G.2.2.1
abbrev Ga.D (G : Ga) : va_G := G.2.2.2.1
/-- addresses of what stood there before: 0 LOWEST, 1 HIGHEST, 2 ORDERS_BY_FLOWS_BEFORE, 3 INITIAL, 4 COMMANDS, from 10 on the words, from 20 on their bytes, from 30 on the messages -/
abbrev Ga.sa (G : Ga) : Nat → Nat := G.2.2.2.2
abbrev Shp : Type := (Nat × List (Nat × Nat)) ⊕ (Nat × Nat)
abbrev NC : Nat := 91
def shpL : List Shp := [.inl (6, [(2, 1), (2, 6), (2, 48), (2, 58), (2, 68), (2, 72), (2, 73), (2, 74)]),
  .inl (3, [(0, 0), (2, 2), (2, 3), (2, 4), (2, 5)]),
  .inr (0, 40),
  .inr (0, 40),
  .inr (0, 40),
  .inr (0, 14),
  .inl (0, [(2, 7), (0, 0), (0, 0)]),
  .inr (2, 8),
  .inl (3, [(0, 0), (2, 9), (2, 10), (2, 11), (2, 12)]),
  .inr (0, 40),
  .inr (0, 40),
  .inr (0, 40),
  .inr (0, 14),
  .inl (3, [(0, 0), (2, 14), (2, 15), (2, 16), (2, 17)]),
  .inr (0, 40),
  .inr (0, 40),
  .inr (0, 40),
  .inr (0, 14),
  .inl (3, [(0, 0), (2, 19), (2, 20), (2, 21), (2, 22)]),
  .inr (0, 40),
  .inr (0, 40),
  .inr (0, 40),
  .inr (0, 14),
  .inl (3, [(0, 0), (2, 24), (2, 25), (2, 26), (2, 27)]),
  .inr (0, 40),
  .inr (0, 40),
  .inr (0, 40),
  .inr (0, 14),
  .inl (3, [(0, 0), (2, 29), (2, 30), (2, 31), (2, 32)]),
  .inr (0, 40),
  .inr (0, 40),
  .inr (0, 40),
  .inr (0, 14),
  .inl (3, [(0, 0), (2, 34), (2, 35), (2, 36), (2, 37)]),
  .inr (0, 40),
  .inr (0, 40),
  .inr (0, 40),
  .inr (0, 14),
  .inl (3, [(0, 0), (2, 39), (2, 40), (2, 41), (2, 42)]),
  .inr (0, 40),
  .inr (0, 40),
  .inr (0, 40),
  .inr (0, 14),
  .inl (3, [(0, 0), (2, 44), (2, 45), (2, 46), (2, 47)]),
  .inr (0, 40),
  .inr (0, 40),
  .inr (0, 40),
  .inr (0, 14),
  .inl (4, [(2, 1), (2, 49), (2, 54), (2, 57), (0, 0), (0, 0), (0, 0), (0, 0), (0, 0)]),
  .inl (2, [(0, 0), (0, 0), (2, 50), (0, 0), (2, 51), (0, 0), (0, 0), (2, 52), (2, 53)]),
  .inr (0, 40),
  .inr (0, 40),
  .inr (0, 40),
  .inr (0, 40),
  .inl (1, [(0, 0), (2, 55), (2, 56), (0, 0), (0, 0)]),
  .inr (0, 40),
  .inr (0, 40),
  .inr (0, 6),
  .inl (4, [(2, 1), (2, 59), (2, 64), (2, 67), (0, 0), (0, 0), (0, 0), (0, 0), (0, 0)]),
  .inl (2, [(0, 0), (0, 0), (2, 60), (0, 0), (2, 61), (0, 0), (0, 0), (2, 62), (2, 63)]),
  .inr (0, 40),
  .inr (0, 40),
  .inr (0, 40),
  .inr (0, 40),
  .inl (1, [(0, 0), (2, 65), (2, 66), (0, 0), (0, 0)]),
  .inr (0, 40),
  .inr (0, 40),
  .inr (0, 6),
  .inl (5, [(2, 69), (0, 0), (2, 70), (2, 71), (0, 0)]),
  .inr (0, 120),
  .inr (3, 120),
  .inr (0, 360),
  .inr (0, 64),
  .inr (0, 6),
  .inr (0, 6),
  .inl (7, [(2, 76), (2, 77), (0, 0), (0, 0), (2, 78), (2, 79), (0, 0), (2, 80), (0, 0), (2, 81), (0, 0), (2, 82), (0, 0), (0, 0), (0, 0), (0, 0), (0, 0), (2, 83), (0, 0), (2, 84), (0, 0), (2, 85), (2, 86), (2, 87), (1, 0), (0, 0), (2, 88), (0, 0), (0, 0), (0, 0), (2, 89)]),
  .inr (0, 135),
  .inr (0, 1080),
  .inr (0, 40),
  .inr (0, 40),
  .inr (0, 4700),
  .inr (0, 41),
  .inr (0, 40),
  .inr (0, 40),
  .inr (0, 40),
  .inr (0, 4700),
  .inr (0, 64),
  .inr (0, 6),
  .inr (0, 120),
  .inr (0, 240),
  .inr (1, 1)]
def shp (k : Nat) : Shp := shpL.getD k (.inr (0, 0))
def fv (G : Ga) (S : St) (k : Nat) : Nat → List (Nat × Nat) → List Value
  | _, [] => []
  | j, q :: t => (if q.1 = 0 then Value.int (gi S k j) else if q.1 = 1 then Value.long (gl S k j) else Value.ref (G.ad q.2)) :: fv G S k (j + 1) t
def av (G : Ga) (S : St) (k : Nat) (q : Nat × Nat) : vp_A := (q.2, if q.1 = 0 then .inl (gi S k) else if q.1 = 1 then .inr (.inl (gl S k)) else if q.1 = 2 then .inr (.inr (.inr (.inr fun j => some (G.ad (8 + 5 * j))))) else .inr (.inr (.inr (.inr fun j => (gr S k j).map G.ec))))
def cel (G : Ga) (S : St) (k : Nat) : va_E := match shp k with
  | .inl o => .inr (o.1, fv G S k 0 o.2)
  | .inr a => .inl (G.ca a.1, av G S k a)
def wd (G : Ga) (S : St) : va_W := (List.range NC).map fun k => (G.ad k, cel G S k)
theorem wd_get {G : Ga} {S : St} {k : Nat} (h : k < NC) : (wd G S)[k]? = some (G.ad k, cel G S k) := by
  simp [wd, h]
theorem wd_in {G : Ga} {S : St} {k : Nat} {q : Nat × va_E} (h : (wd G S)[k]? = some q) : k < NC ∧ q = (G.ad k, cel G S k) := by
  have hk : k < NC := by
    have := (List.getElem?_eq_some_iff.mp h).1
    simpa [wd] using this
  rw [wd_get hk] at h
  exact ⟨hk, (Option.some.inj h).symm⟩
theorem wd_set {G : Ga} {S S' : St} {k : Nat} (h : k < NC) (hne : ∀ j, j ≠ k → cel G S' j = cel G S j) : (wd G S).set k (G.ad k, cel G S' k) = wd G S' := by
  apply List.ext_getElem?
  intro j
  by_cases hj : j < NC
  · rw [wd_get hj]
    by_cases hjk : j = k
    · subst hjk
      rw [List.getElem?_set_self (by simpa [wd] using h)]
    · rw [List.getElem?_set_ne (fun e => hjk e.symm), wd_get hj, hne j hjk]
  · rw [List.getElem?_eq_none (by simp [wd]; omega), List.getElem?_eq_none (by simp [wd]; omega)]
theorem wd_D {G : Ga} {S S' : St} {A : Nat → Prop} (h : va_D A (wd G S)) : va_D A (wd G S') := by
  refine ⟨fun i j p q hp hq e => ?_, fun k q hq => ?_⟩
  · obtain ⟨a1, rfl⟩ := wd_in hp
    obtain ⟨a2, rfl⟩ := wd_in hq
    exact h.1 i j _ _ (wd_get a1) (wd_get a2) e
  · obtain ⟨a1, rfl⟩ := wd_in hq
    exact h.2 k (G.ad k, cel G S k) (wd_get a1)
theorem wd_A {G : Ga} {S S' : St} {sz : Nat} : va_A (wd G S) sz = va_A (wd G S') sz := by
  funext q
  apply propext
  constructor
  · rintro (⟨k, e, h⟩ | h)
    · obtain ⟨a1, a2⟩ := wd_in h
      cases a2
      exact Or.inl ⟨k, _, wd_get a1⟩
    · exact Or.inr h
  · rintro (⟨k, e, h⟩ | h)
    · obtain ⟨a1, a2⟩ := wd_in h
      cases a2
      exact Or.inl ⟨k, _, wd_get a1⟩
    · exact Or.inr h
theorem fv_get {G : Ga} {S : St} {k : Nat} : ∀ (fl : List (Nat × Nat)) (j0 j : Nat) (q : Nat × Nat), fl[j]? = some q → (fv G S k j0 fl)[j]? = some (if q.1 = 0 then Value.int (gi S k (j0 + j)) else if q.1 = 1 then Value.long (gl S k (j0 + j)) else Value.ref (G.ad q.2)) := by
  intro fl
  induction fl with
  | nil => intro j0 j q h; simp at h
  | cons a t ih =>
    intro j0 j q h
    cases j with
    | zero => simp at h; subst h; rfl
    | succ j =>
      have := ih (j0 + 1) j q (by simpa using h)
      rw [show j0 + (j + 1) = j0 + 1 + j by omega]
      simpa [fv] using this
theorem fv_len {G : Ga} {S : St} {k : Nat} : ∀ (fl : List (Nat × Nat)) (j0 : Nat), (fv G S k j0 fl).length = fl.length := by
  intro fl
  induction fl with
  | nil => intro j0; rfl
  | cons a t ih => intro j0; simp [fv, ih]
theorem fv_ext {G : Ga} {S S' : St} {k : Nat} : ∀ (fl : List (Nat × Nat)) (j0 : Nat), (∀ j, gi S' k j = gi S k j) → (∀ j, gl S' k j = gl S k j) → fv G S' k j0 fl = fv G S k j0 fl := by
  intro fl
  induction fl with
  | nil => intro j0 _ _; rfl
  | cons a t ih => intro j0 h1 h2; simp only [fv]; rw [ih (j0 + 1) h1 h2, h1, h2]
theorem fv_si {G : Ga} {S : St} {k : Nat} {x : Int32} : ∀ (fl : List (Nat × Nat)) (j0 j : Nat) (t : Nat), fl[j]? = some (0, t) → fv G (si S k (j0 + j) x) k j0 fl = (fv G S k j0 fl).set j (Value.int x) := by
  intro fl
  induction fl with
  | nil => intro j0 j t h; simp at h
  | cons a t ih =>
    intro j0 j u h
    cases j with
    | zero =>
      simp at h
      subst h
      have e : ∀ (fl : List (Nat × Nat)) (j1 : Nat), j0 < j1 → fv G (si S k j0 x) k j1 fl = fv G S k j1 fl := by
        intro fl
        induction fl with
        | nil => intro j1 _; rfl
        | cons b r ih2 => intro j1 h1; simp only [fv]; rw [ih2 (j1 + 1) (by omega), show gi (si S k j0 x) k j1 = gi S k j1 from by rw [gi_si, if_neg (by omega)], gl_si]
      simp only [fv, Nat.add_zero, List.set_cons_zero, if_true]
      rw [e t (j0 + 1) (by omega), show gi (si S k j0 x) k j0 = x from by rw [gi_si, if_pos ⟨rfl, rfl⟩]]
    | succ j =>
      have := ih (j0 + 1) j u (by simpa using h)
      rw [show j0 + (j + 1) = j0 + 1 + j by omega]
      simp only [fv, List.set_cons_succ]
      rw [this, show gi (si S k (j0 + 1 + j) x) k j0 = gi S k j0 from by rw [gi_si, if_neg (by omega)], gl_si]
theorem fv_sl {G : Ga} {S : St} {k : Nat} {x : Int64} : ∀ (fl : List (Nat × Nat)) (j0 j : Nat) (t : Nat), fl[j]? = some (1, t) → fv G (sl S k (j0 + j) x) k j0 fl = (fv G S k j0 fl).set j (Value.long x) := by
  intro fl
  induction fl with
  | nil => intro j0 j t h; simp at h
  | cons a t ih =>
    intro j0 j u h
    cases j with
    | zero =>
      simp at h
      subst h
      have e : ∀ (fl : List (Nat × Nat)) (j1 : Nat), j0 < j1 → fv G (sl S k j0 x) k j1 fl = fv G S k j1 fl := by
        intro fl
        induction fl with
        | nil => intro j1 _; rfl
        | cons b r ih2 => intro j1 h1; simp only [fv]; rw [ih2 (j1 + 1) (by omega), show gl (sl S k j0 x) k j1 = gl S k j1 from by rw [gl_sl, if_neg (by omega)], gi_sl]
      simp only [fv, Nat.add_zero, List.set_cons_zero]
      rw [e t (j0 + 1) (by omega), show gl (sl S k j0 x) k j0 = x from by rw [gl_sl, if_pos ⟨rfl, rfl⟩], gi_sl]
      rfl
    | succ j =>
      have := ih (j0 + 1) j u (by simpa using h)
      rw [show j0 + (j + 1) = j0 + 1 + j by omega]
      simp only [fv, List.set_cons_succ]
      rw [this, show gl (sl S k (j0 + 1 + j) x) k j0 = gl S k j0 from by rw [gl_sl, if_neg (by omega)], gi_sl]
theorem cel_ne {G : Ga} {S S' : St} {j : Nat} (h1 : ∀ b, gi S' j b = gi S j b) (h2 : ∀ b, gl S' j b = gl S j b) (h3 : ∀ b, gr S' j b = gr S j b) : cel G S' j = cel G S j := by
  unfold cel
  cases shp j with
  | inl o => simp only; rw [fv_ext o.2 0 h1 h2]
  | inr a =>
    have e1 : gi S' j = gi S j := funext h1
    have e2 : gl S' j = gl S j := funext h2
    simp only [av, e1, e2, h3]
theorem cel_o {G : Ga} {S : St} {k ci : Nat} {fl : List (Nat × Nat)} (h : shp k = .inl (ci, fl)) : cel G S k = .inr (ci, fv G S k 0 fl) := by unfold cel; rw [h]
theorem cel_a {G : Ga} {S : St} {k ty n : Nat} (h : shp k = .inr (ty, n)) : cel G S k = .inl (G.ca ty, av G S k (ty, n)) := by unfold cel; rw [h]
def tbG : List Cond := lw_tbl.filter goodWord
theorem tb_in {w : Cond} (i : Nat) (h : lw_tbl[i]? = some w) (hg : goodWord w = true) : w ∈ tbG := List.mem_filter.mpr ⟨List.mem_of_getElem? h, hg⟩
theorem tb_good {w : Cond} (h : w ∈ tbG) : (w.onTables && w.keeps) = true ∨ ∃ ty, w = .arrayClass ty := good_of_word (List.mem_filter.mp h).2
/-- a class of the world, by its number -/
def CkO (ci : Nat) (C : String) (T : u_T) (N : Nat) (ty : Nat → FieldType) : Prop := vwCl[ci]? = some (C, T, N) ∧ (∀ w ∈ u_ws C T N, w ∈ tbG) ∧ (∀ k, k < N → parseFieldDescriptor (T k).2.2.1 = some (ty k)) ∧ (∀ a, a < N → ∀ b, b < N → a ≠ b → (T a).2.1 ≠ (T b).2.1)
/-- a method's words -/
def Mw (y : MethodName) (cc : ByteArray) (nL : Nat) (ret : Option FieldType) (n : Nat) : Prop := Cond.code y cc nL ret ∈ tbG ∧ Cond.initialized y.cls ∈ tbG ∧ (y.cls ≠ "java/lang/invoke/MethodHandle" ∧ y.cls ≠ "java/lang/invoke/VarHandle" ∧ (parseMethodDescriptor y.desc).map (fun d => d.parameters.length) = some n) ∧ nL ≤ 21
