/-! ===== the state of the whole system: ints, longs, enum references, by cell and place ===== -/
abbrev St : Type := (Nat → Nat → Int32) × (Nat → Nat → Int64) × (Nat → Nat → Option Nat)
def gi (S : St) (k j : Nat) : Int32 := S.1 k j
def gl (S : St) (k j : Nat) : Int64 := S.2.1 k j
def gr (S : St) (k j : Nat) : Option Nat := S.2.2 k j
def si (S : St) (k j : Nat) (x : Int32) : St := (fun a b => if a = k ∧ b = j then x else S.1 a b, S.2)
def sl (S : St) (k j : Nat) (x : Int64) : St := (S.1, (fun a b => if a = k ∧ b = j then x else S.2.1 a b), S.2.2)
def sr (S : St) (k j : Nat) (x : Option Nat) : St := (S.1, S.2.1, fun a b => if a = k ∧ b = j then x else S.2.2 a b)
/-- a copy of n places of cell q, from sp on, into cell k, from dp on -/
def sc (S : St) (q k sp dp n : Nat) : St := ((fun a b => if a = k then va_cpy (S.1 q) (S.1 k) sp dp n b else S.1 a b), S.2)
theorem gi_si (S : St) (k j a b : Nat) (x : Int32) : gi (si S k j x) a b = if a = k ∧ b = j then x else gi S a b := rfl
theorem gi_sl (S : St) (k j a b : Nat) (x : Int64) : gi (sl S k j x) a b = gi S a b := rfl
theorem gi_sr (S : St) (k j a b : Nat) (x : Option Nat) : gi (sr S k j x) a b = gi S a b := rfl
theorem gl_si (S : St) (k j a b : Nat) (x : Int32) : gl (si S k j x) a b = gl S a b := rfl
theorem gl_sl (S : St) (k j a b : Nat) (x : Int64) : gl (sl S k j x) a b = if a = k ∧ b = j then x else gl S a b := rfl
theorem gl_sr (S : St) (k j a b : Nat) (x : Option Nat) : gl (sr S k j x) a b = gl S a b := rfl
theorem gr_si (S : St) (k j a b : Nat) (x : Int32) : gr (si S k j x) a b = gr S a b := rfl
theorem gr_sl (S : St) (k j a b : Nat) (x : Int64) : gr (sl S k j x) a b = gr S a b := rfl
theorem gr_sr (S : St) (k j a b : Nat) (x : Option Nat) : gr (sr S k j x) a b = if a = k ∧ b = j then x else gr S a b := rfl
theorem gi_sc (S : St) (q k sp dp n a b : Nat) : gi (sc S q k sp dp n) a b = if a = k then va_cpy (gi S q) (gi S k) sp dp n b else gi S a b := rfl
theorem gl_sc (S : St) (q k sp dp n a b : Nat) : gl (sc S q k sp dp n) a b = gl S a b := rfl
theorem gr_sc (S : St) (q k sp dp n a b : Nat) : gr (sc S q k sp dp n) a b = gr S a b := rfl
/-! ===== the pure words of a method: guards, calls, loops ===== -/
def og {α : Type} (c : Prop) [Decidable c] (a : Option α) : Option α := if c then a else none
theorem og_some {α : Type} {c : Prop} [Decidable c] {a : Option α} {r : α} (h : og c a = some r) : c ∧ a = some r := by
  unfold og at h
  split at h
  · exact ⟨by assumption, h⟩
  · cases h
def oi {α : Type} (c : Prop) [Decidable c] (a b : Option α) : Option α := if c then a else b
theorem oi_pos {α : Type} {c : Prop} [Decidable c] {a b : Option α} {r : Option α} (hc : c) (h : oi c a b = r) : a = r := by
  unfold oi at h; rwa [if_pos hc] at h
theorem oi_neg {α : Type} {c : Prop} [Decidable c] {a b : Option α} {r : Option α} (hc : ¬ c) (h : oi c a b = r) : b = r := by
  unfold oi at h; rwa [if_neg hc] at h
def ob {α β : Type} (a : Option (α × St)) (f : α → St → Option β) : Option β := match a with
  | none => none
  | some q => f q.1 q.2
theorem ob_some {α β : Type} {a : Option (α × St)} {f : α → St → Option β} {r : β} (h : ob a f = some r) : ∃ v S, a = some (v, S) ∧ f v S = some r := by
  cases a with
  | none => cases h
  | some q => exact ⟨q.1, q.2, rfl, h⟩
def os {α : Type} (a : Option Nat) (f : Nat → Option α) : Option α := match a with
  | none => none
  | some i => f i
theorem os_some {α : Type} {a : Option Nat} {f : Nat → Option α} {r : α} (h : os a f = some r) : ∃ i, a = some i ∧ f i = some r := by
  cases a with
  | none => cases h
  | some i => exact ⟨i, rfl, h⟩
def lpn {α β : Type} (body : α → St → Option ((α ⊕ β) × St)) : Nat → α → St → Option (β × St)
  | 0, _, _ => none
  | n + 1, a, S => match body a S with
    | none => none
    | some (.inl a', S') => lpn body n a' S'
    | some (.inr b, S') => some (b, S')
noncomputable def lp {α β : Type} (body : α → St → Option ((α ⊕ β) × St)) (a : α) (S : St) : Option (β × St) :=
  @dite _ (∃ n r, lpn body n a S = some r) (Classical.propDecidable _) (fun h => some (Classical.choose (Classical.choose_spec h))) (fun _ => none)
theorem lpn_mono {α β : Type} {body : α → St → Option ((α ⊕ β) × St)} : ∀ (n : Nat) {a : α} {S : St} {r : β × St}, lpn body n a S = some r → ∀ k, lpn body (n + k) a S = some r := by
  intro n
  induction n with
  | zero => intro a S r h; cases h
  | succ n ih =>
    intro a S r h k
    rw [show n + 1 + k = (n + k) + 1 by omega]
    unfold lpn at h ⊢
    cases hb : body a S with
    | none => rw [hb] at h; cases h
    | some q =>
      rw [hb] at h
      obtain ⟨q, S'⟩ := q
      cases q with
      | inl a' => exact ih h k
      | inr b => exact h
theorem lpn_det {α β : Type} {body : α → St → Option ((α ⊕ β) × St)} {n m : Nat} {a : α} {S : St} {r q : β × St} (h : lpn body n a S = some r) (h2 : lpn body m a S = some q) : r = q := by
  have h3 := lpn_mono n h m
  have h4 := lpn_mono m h2 n
  rw [Nat.add_comm] at h4
  exact Option.some.inj (h3.symm.trans h4)
theorem lp_of {α β : Type} {body : α → St → Option ((α ⊕ β) × St)} {n : Nat} {a : α} {S : St} {r : β × St} (h : lpn body n a S = some r) : lp body a S = some r := by
  have hx : ∃ n r, lpn body n a S = some r := ⟨n, r, h⟩
  unfold lp
  rw [dif_pos hx]
  exact congrArg some (lpn_det (Classical.choose_spec (Classical.choose_spec hx)) h)
theorem lp_some {α β : Type} {body : α → St → Option ((α ⊕ β) × St)} {a : α} {S : St} {r : β × St} (h : lp body a S = some r) : ∃ n, lpn body n a S = some r := by
  unfold lp at h
  split at h
  · rename_i hx
    cases h
    exact ⟨_, Classical.choose_spec (Classical.choose_spec hx)⟩
  · cases h
/-- one turn of a loop, goal first -/
theorem lp_go {α β : Type} {body : α → St → Option ((α ⊕ β) × St)} {a a' : α} {S S' : St} {r : β × St} (hb : body a S = some (.inl a', S')) (h : lp body a' S' = some r) : lp body a S = some r := by
  obtain ⟨n, hn⟩ := lp_some h
  exact lp_of (n := n + 1) (by unfold lpn; rw [hb]; exact hn)
theorem lp_end {α β : Type} {body : α → St → Option ((α ⊕ β) × St)} {a : α} {b : β} {S S' : St} (hb : body a S = some (.inr b, S')) : lp body a S = some (b, S') :=
  lp_of (n := 1) (by unfold lpn; rw [hb])
/-- a loop by an invariant and a measure -/
theorem lp_inv {α β : Type} {body : α → St → Option ((α ⊕ β) × St)} (I : Nat → α → St → Prop) (P : β → St → Prop)
    (hs : ∀ n a S, I n a S → (∃ b S', body a S = some (.inr b, S') ∧ P b S') ∨ (∃ a' S' n', body a S = some (.inl a', S') ∧ n' < n ∧ I n' a' S')) :
    ∀ n a S, I n a S → ∃ b S', lp body a S = some (b, S') ∧ P b S' := by
  intro n
  induction n using Nat.strongRecOn with
  | ind n ih =>
    intro a S h
    rcases hs n a S h with ⟨b, S', h1, h2⟩ | ⟨a', S', n', h1, h2, h3⟩
    · exact ⟨b, S', lp_end h1, h2⟩
    · obtain ⟨b, S2, h4, h5⟩ := ih n' h2 a' S' h3
      exact ⟨b, S2, lp_go h1 h4, h5⟩
/-- the machine's side of a loop -/
theorem lp_rule {α β : Type} {body : α → St → Option ((α ⊕ β) × St)} {Xh : α → St → Prop} {K : β → St → Prop}
    (hb : ∀ a S r S1, body a S = some (r, S1) → (match r with | .inl a' => Xh a' S1 | .inr b => K b S1) → Xh a S) {a : α} {S : St} {b : β} {S' : St} (h : lp body a S = some (b, S')) (hk : K b S') : Xh a S := by
  obtain ⟨n, hn⟩ := lp_some h
  clear h
  induction n generalizing a S with
  | zero => cases hn
  | succ n ih =>
    unfold lpn at hn
    cases hq : body a S with
    | none => rw [hq] at hn; cases hn
    | some q =>
      rw [hq] at hn
      obtain ⟨r, S1⟩ := q
      cases r with
      | inl a' => exact hb a S _ S1 hq (ih hn)
      | inr b' =>
        cases hn
        exact hb a S _ _ hq hk
