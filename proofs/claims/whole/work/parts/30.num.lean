/-! ===== the pure part: evaluation of the pure words at natural numbers ===== -/
theorem qlit (n : Nat) : (OfNat.ofNat n : Int32) = nI n := rfl
theorem qP31 {n : Nat} (h : n < 2147483648) : n < 2 ^ 31 := h
theorem qLE1 {α : Type} {a b : Nat} {x y : Option α} (h : a ≤ b) (hb : b < 2147483648) : oi (nI a ≤ nI b) x y = x := if_pos (nI_le h hb)
theorem qLE0 {α : Type} {a b : Nat} {x y : Option α} (h : b < a) (ha : a < 2147483648) : oi (nI a ≤ nI b) x y = y := if_neg (nI_ge h ha)
theorem qLT1 {α : Type} {a b : Nat} {x y : Option α} (h : a < b) (hb : b < 2147483648) : oi (nI a < nI b) x y = x := if_pos (nI_lt h hb)
theorem qLT0 {α : Type} {a b : Nat} {x y : Option α} (h : b ≤ a) (ha : a < 2147483648) : oi (nI a < nI b) x y = y := if_neg (nI_nlt h ha)
theorem qEQ1 {α : Type} {a b : Nat} {x y : Option α} (h : a = b) : oi (nI a = nI b) x y = x := if_pos (by rw [h])
theorem qEQ0 {α : Type} {a b : Nat} {x y : Option α} (h : a ≠ b) (ha : a < 2147483648) (hb : b < 2147483648) : oi (nI a = nI b) x y = y := if_neg (fun e => h ((nI_eq ha hb).mp e))
theorem qneg1 {a b : Nat} (ha : a < 2147483648) (hb : 0 < b) (hb2 : b < 2147483648) : ¬ nI a = -nI b := by
  intro e
  have h1 := congrArg Int32.toInt e
  rw [nI_toInt ha, sb_negT hb2] at h1
  omega
theorem qneg2 {a b : Nat} (ha : a < 2147483648) (hb : 0 < b) (hb2 : b < 2147483648) : ¬ -nI b = nI a := fun e => qneg1 ha hb hb2 e.symm
theorem qM0 {α : Type} {a b : Nat} {x y : Option α} (ha : a < 2147483648) (hb : 0 < b) (hb2 : b < 2147483648) : oi (nI a = -nI b) x y = y := if_neg (qneg1 ha hb hb2)
theorem qM1 {α : Type} {a : Nat} {x y : Option α} : oi (-nI a = -nI a) x y = x := if_pos rfl
theorem qR {α : Type} {a : Int32} {x y : Option α} : oi (a = a) x y = x := if_pos rfl
theorem qN0 {α : Type} {a b : Nat} {x y : Option α} (ha : a < 2147483648) (hb : 0 < b) (hb2 : b < 2147483648) : oi (-nI b = nI a) x y = y := if_neg (qneg2 ha hb hb2)
theorem qnegI {a b : Nat} (ha : a < 2147483648) (hb : b < 2147483648) : -nI a = -nI b ↔ a = b := by
  constructor
  · intro e
    have h1 := congrArg Int32.toInt e
    rw [sb_negT ha, sb_negT hb] at h1
    omega
  · rintro rfl; rfl
theorem qMM {α : Type} {a b : Nat} {x y : Option α} (h : a ≠ b) (ha : a < 2147483648) (hb : b < 2147483648) : oi (-nI a = -nI b) x y = y := if_neg (fun e => h ((qnegI ha hb).mp e))
theorem qnlt {a b : Nat} (ha : a < 2147483648) (hb : 0 < b) (hb2 : b < 2147483648) : -nI b < nI a := by
  rw [Int32.lt_iff_toInt_lt, nI_toInt ha, sb_negT hb2]; omega
theorem qNL1 {α : Type} {a b : Nat} {x y : Option α} (ha : a < 2147483648) (hb : 0 < b) (hb2 : b < 2147483648) : oi (-nI b < nI a) x y = x := if_pos (qnlt ha hb hb2)
theorem qNL0 {α : Type} {a b : Nat} {x y : Option α} (ha : a < 2147483648) (hb : 0 < b) (hb2 : b < 2147483648) : oi (nI a ≤ -nI b) x y = y := if_neg (by rw [Int32.not_le]; exact qnlt ha hb hb2)
theorem qNE1 {α : Type} {a b : Nat} {x y : Option α} (ha : a < 2147483648) (hb : 0 < b) (hb2 : b < 2147483648) : oi (-nI b ≤ nI a) x y = x := if_pos (Int32.le_of_lt (qnlt ha hb hb2))
theorem qNE0 {α : Type} {a b : Nat} {x y : Option α} (ha : a < 2147483648) (hb : 0 < b) (hb2 : b < 2147483648) : oi (nI a < -nI b) x y = y := if_neg (by rw [Int32.not_lt]; exact Int32.le_of_lt (qnlt ha hb hb2))
theorem qIN {α : Type} {a n : Nat} {x : Option α} (h : a < n) (hn : n < 2147483648) : og (inb (nI a) n) x = x := if_pos (nI_in h hn)
theorem qOG {α : Type} {c : Prop} [Decidable c] {x : Option α} (h : c) : og c x = x := if_pos h
theorem qNZ {α : Type} {a : Nat} {x : Option α} (h : 0 < a) (ha : a < 2147483648) : og (¬ nI a = nI 0) x = x := if_pos (nI_ne0 h ha)
theorem qB1 {α : Type} {x : Option α} : og (isB (nI 1)) x = x := if_pos (Or.inr rfl)
theorem qB0 {α : Type} {x : Option α} : og (isB (nI 0)) x = x := if_pos (Or.inl rfl)
theorem qCP {α : Type} {a b c n0 n1 : Nat} {x : Option α} (h1 : a + c ≤ n0) (h2 : b + c ≤ n1) (ha : a < 2147483648) (hb : b < 2147483648) (hc : c < 2147483648) : og (cpy (nI a) (nI b) (nI c) n0 n1) x = x :=
  if_pos ⟨nI_pos ha, nI_pos hb, nI_pos hc, by show (nI a).toNatClampNeg + (nI c).toNatClampNeg ≤ n0; rw [nI_clamp ha, nI_clamp hc]; exact h1, by show (nI b).toNatClampNeg + (nI c).toNatClampNeg ≤ n1; rw [nI_clamp hb, nI_clamp hc]; exact h2⟩
theorem qOB {α β : Type} {v : α} {S : St} {f : α → St → Option β} : ob (some (v, S)) f = f v S := rfl
theorem qOBX {α β : Type} {v : α} {S : St} {f : α → St → Option ((β ⊕ Nat) × St)} : obx (some (.inl v, S)) f = f v S := rfl
theorem qOBE {α β : Type} {e : Nat} {S : St} {f : α → St → Option ((β ⊕ Nat) × St)} : obx (some (.inr e, S)) f = some (.inr e, S) := rfl
theorem qOWV {α β : Type} {v : α} {S : St} {f : α → St → Option β} {g : Nat → St → Option β} : ow (some (.inl v, S)) f g = f v S := rfl
theorem qOWE {α β : Type} {e : Nat} {S : St} {f : α → St → Option β} {g : Nat → St → Option β} : ow (some (.inr e, S)) f g = g e S := rfl
theorem qOL {α : Type} {T : St} {f : St → Option α} : ol T f = f T := rfl
theorem qCL {n : Nat} (h : n < 2147483648) : (nI n).toNatClampNeg = n := nI_clamp h
theorem qSUB {a b : Nat} (h : b ≤ a) : nI a - nI b = nI (a - b) := pk_sub h
theorem qM {a : Nat} (h : 0 < a) : nI a + -nI 1 = nI (a - 1) := sb_m1 h
theorem qTL1 {β : Type} {a b : Nat} {x y : β} (h : a < b) (hb : b < 2147483648) : (if nI a < nI b then x else y) = x := if_pos (nI_lt h hb)
theorem qTL0 {β : Type} {a b : Nat} {x y : β} (h : b ≤ a) (ha : a < 2147483648) : (if nI a < nI b then x else y) = y := if_neg (nI_nlt h ha)
theorem qG1 {S : St} {k j a b : Nat} {x : Int32} (h1 : a = k) (h2 : b = j) : gi (si S k j x) a b = x := by rw [gi_si, if_pos ⟨h1, h2⟩]
theorem qG0 {S : St} {k j a b : Nat} {x : Int32} (h : a ≠ k ∨ b ≠ j) : gi (si S k j x) a b = gi S a b := by rw [gi_si, if_neg (by omega)]
theorem qC1 {S : St} {q k sp dp n a b : Nat} (h1 : a = k) (h2 : dp ≤ b) (h3 : b < dp + n) : gi (sc S q k sp dp n) a b = gi S q (sp + (b - dp)) := by
  rw [gi_sc, if_pos h1]; exact if_pos ⟨h2, h3⟩
theorem qC2 {S : St} {q k sp dp n a b : Nat} (h1 : a = k) (h2 : b < dp ∨ dp + n ≤ b) : gi (sc S q k sp dp n) a b = gi S a b := by
  rw [gi_sc, if_pos h1, h1]; exact if_neg (by omega)
theorem qC0 {S : St} {q k sp dp n a b : Nat} (h1 : a ≠ k) : gi (sc S q k sp dp n) a b = gi S a b := by rw [gi_sc, if_neg h1]
/-! ===== loops that count ===== -/
theorem lp_for {α β : Type} {body : α → St → Option ((α ⊕ β) × St)} {b : β} {T' : St} (n : Nat) (a : Nat → α) (T : Nat → St) (hs : ∀ i, i < n → body (a i) (T i) = some (.inl (a (i + 1)), T (i + 1))) (he : body (a n) (T n) = some (.inr b, T')) : lp body (a 0) (T 0) = some (b, T') := by
  have h : ∀ j, j ≤ n → lp body (a (n - j)) (T (n - j)) = some (b, T') := by
    intro j
    induction j with
    | zero => intro _; exact lp_end he
    | succ j ih =>
      intro hj
      have h1 := hs (n - (j + 1)) (by omega)
      rw [show n - (j + 1) + 1 = n - j by omega] at h1
      exact lp_go h1 (ih (by omega))
  have := h n (Nat.le_refl n)
  rwa [Nat.sub_self] at this
/-- a search that leaves the state alone -/
theorem lp_same {α β : Type} {body : α → St → Option ((α ⊕ β) × St)} {b : β} {S T' : St} (n : Nat) (a : Nat → α) (hs : ∀ i, i < n → body (a i) S = some (.inl (a (i + 1)), S)) (he : body (a n) S = some (.inr b, T')) : lp body (a 0) S = some (b, T') := lp_for n a (fun _ => S) hs he
theorem lp_cnt {α β : Type} {body : α → St → Option ((α ⊕ β) × St)} (n : Nat) (I : Nat → α → St → Prop) (P : β → St → Prop) {a : α} {S : St} (h0 : I 0 a S)
    (hs : ∀ i a S, i < n → I i a S → ∃ a' S', body a S = some (.inl a', S') ∧ I (i + 1) a' S') (he : ∀ a S, I n a S → ∃ b S', body a S = some (.inr b, S') ∧ P b S') : ∃ b S', lp body a S = some (b, S') ∧ P b S' := by
  have h : ∀ j, j ≤ n → ∀ a S, I (n - j) a S → ∃ b S', lp body a S = some (b, S') ∧ P b S' := by
    intro j
    induction j with
    | zero =>
      intro _ a S h
      obtain ⟨b, S', h1, h2⟩ := he a S h
      exact ⟨b, S', lp_end h1, h2⟩
    | succ j ih =>
      intro hj a S h
      obtain ⟨a', S', h1, h2⟩ := hs _ a S (by omega) h
      rw [show n - (j + 1) + 1 = n - j by omega] at h2
      obtain ⟨b, S2, h3, h4⟩ := ih (by omega) a' S' h2
      exact ⟨b, S2, lp_go h1 h3, h4⟩
  exact h n (Nat.le_refl n) a S (by rw [Nat.sub_self]; exact h0)
/-- what a method leaves alone -/
def Fr (P : Nat → Nat → Prop) (S S' : St) : Prop := (∀ a b, ¬ P a b → gi S' a b = gi S a b) ∧ S'.2 = S.2
theorem Fr.rf {P : Nat → Nat → Prop} {S : St} : Fr P S S := ⟨fun _ _ _ => rfl, rfl⟩
theorem Fr.tr {P : Nat → Nat → Prop} {S T U : St} (h : Fr P S T) (h2 : Fr P T U) : Fr P S U := ⟨fun a b hp => (h2.1 a b hp).trans (h.1 a b hp), h2.2.trans h.2⟩
theorem Fr.mono {P Q : Nat → Nat → Prop} {S T : St} (h : Fr P S T) (hq : ∀ a b, P a b → Q a b) : Fr Q S T := ⟨fun a b hp => h.1 a b (fun hh => hp (hq a b hh)), h.2⟩
theorem Fr.si {P : Nat → Nat → Prop} {S T : St} {k j : Nat} {x : Int32} (h : Fr P S T) (hp : P k j) : Fr P S (si T k j x) :=
  ⟨fun a b hn => by rw [gi_si, if_neg (by rintro ⟨rfl, rfl⟩; exact hn hp)]; exact h.1 a b hn, h.2⟩
theorem Fr.sc {P : Nat → Nat → Prop} {S T : St} {q k sp dp n : Nat} (h : Fr P S T) (hp : ∀ j, P k j) : Fr P S (sc T q k sp dp n) :=
  ⟨fun a b hn => by rw [gi_sc, if_neg (by rintro rfl; exact hn (hp b))]; exact h.1 a b hn, h.2⟩
