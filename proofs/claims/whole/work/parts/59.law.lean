/-! ===== the whole law, on the pure side ===== -/
theorem law_one {o a b c : Int32} {S : St} (hI : Inv S) : ∃ S', lawStep o a b c S = some S' ∧ Inv S' := by
  unfold lawStep
  by_cases h0 : o &&& 63 = 0
  · rw [show ∀ (x y : Option St), oi (o &&& 63 = 0) x y = x from fun x y => if_pos h0]; exact ls0 hI
  rw [show ∀ (x y : Option St), oi (o &&& 63 = 0) x y = y from fun x y => if_neg h0]
  by_cases h1 : o &&& 63 = 1
  · rw [show ∀ (x y : Option St), oi (o &&& 63 = 1) x y = x from fun x y => if_pos h1]; exact lsa1 hI
  rw [show ∀ (x y : Option St), oi (o &&& 63 = 1) x y = y from fun x y => if_neg h1]
  by_cases h2 : o &&& 63 = 2
  · rw [show ∀ (x y : Option St), oi (o &&& 63 = 2) x y = x from fun x y => if_pos h2]; exact lsa2 hI
  rw [show ∀ (x y : Option St), oi (o &&& 63 = 2) x y = y from fun x y => if_neg h2]
  by_cases h3 : o &&& 63 = 3
  · rw [show ∀ (x y : Option St), oi (o &&& 63 = 3) x y = x from fun x y => if_pos h3]; exact ls3 hI
  rw [show ∀ (x y : Option St), oi (o &&& 63 = 3) x y = y from fun x y => if_neg h3]
  by_cases h4 : o &&& 63 = 4
  · rw [show ∀ (x y : Option St), oi (o &&& 63 = 4) x y = x from fun x y => if_pos h4]; exact ls4 hI
  rw [show ∀ (x y : Option St), oi (o &&& 63 = 4) x y = y from fun x y => if_neg h4]
  by_cases h5 : o &&& 63 = 5
  · rw [show ∀ (x y : Option St), oi (o &&& 63 = 5) x y = x from fun x y => if_pos h5]; exact ls5 hI
  rw [show ∀ (x y : Option St), oi (o &&& 63 = 5) x y = y from fun x y => if_neg h5]
  by_cases h6 : o &&& 63 = 6
  · rw [show ∀ (x y : Option St), oi (o &&& 63 = 6) x y = x from fun x y => if_pos h6]; exact ls6 hI
  rw [show ∀ (x y : Option St), oi (o &&& 63 = 6) x y = y from fun x y => if_neg h6]
  by_cases h7 : o &&& 63 = 7
  · rw [show ∀ (x y : Option St), oi (o &&& 63 = 7) x y = x from fun x y => if_pos h7]; exact ls7 hI
  rw [show ∀ (x y : Option St), oi (o &&& 63 = 7) x y = y from fun x y => if_neg h7]
  by_cases h8 : o &&& 63 = 8
  · rw [show ∀ (x y : Option St), oi (o &&& 63 = 8) x y = x from fun x y => if_pos h8]; exact ls8 hI
  rw [show ∀ (x y : Option St), oi (o &&& 63 = 8) x y = y from fun x y => if_neg h8]
  by_cases h9 : o &&& 63 = 9
  · rw [show ∀ (x y : Option St), oi (o &&& 63 = 9) x y = x from fun x y => if_pos h9]; exact ls9 hI
  rw [show ∀ (x y : Option St), oi (o &&& 63 = 9) x y = y from fun x y => if_neg h9]
  by_cases h10 : o &&& 63 = 10
  · rw [show ∀ (x y : Option St), oi (o &&& 63 = 10) x y = x from fun x y => if_pos h10]; exact ls10 hI
  rw [show ∀ (x y : Option St), oi (o &&& 63 = 10) x y = y from fun x y => if_neg h10]
  by_cases h11 : o &&& 63 = 11
  · rw [show ∀ (x y : Option St), oi (o &&& 63 = 11) x y = x from fun x y => if_pos h11]; exact ls11 hI
  rw [show ∀ (x y : Option St), oi (o &&& 63 = 11) x y = y from fun x y => if_neg h11]
  by_cases h12 : o &&& 63 = 12
  · rw [show ∀ (x y : Option St), oi (o &&& 63 = 12) x y = x from fun x y => if_pos h12]; exact ls12 hI
  rw [show ∀ (x y : Option St), oi (o &&& 63 = 12) x y = y from fun x y => if_neg h12]
  by_cases h13 : o &&& 63 = 13
  · rw [show ∀ (x y : Option St), oi (o &&& 63 = 13) x y = x from fun x y => if_pos h13]; exact ls13 hI
  rw [show ∀ (x y : Option St), oi (o &&& 63 = 13) x y = y from fun x y => if_neg h13]
  by_cases h14 : o &&& 63 = 14
  · rw [show ∀ (x y : Option St), oi (o &&& 63 = 14) x y = x from fun x y => if_pos h14]; exact ls14 hI
  rw [show ∀ (x y : Option St), oi (o &&& 63 = 14) x y = y from fun x y => if_neg h14]
  by_cases h15 : o &&& 63 = 15
  · rw [show ∀ (x y : Option St), oi (o &&& 63 = 15) x y = x from fun x y => if_pos h15]; exact ls15 hI
  rw [show ∀ (x y : Option St), oi (o &&& 63 = 15) x y = y from fun x y => if_neg h15]
  by_cases h16 : o &&& 63 = 16
  · rw [show ∀ (x y : Option St), oi (o &&& 63 = 16) x y = x from fun x y => if_pos h16]; exact ls16 hI
  rw [show ∀ (x y : Option St), oi (o &&& 63 = 16) x y = y from fun x y => if_neg h16]
  by_cases h17 : o &&& 63 = 17
  · rw [show ∀ (x y : Option St), oi (o &&& 63 = 17) x y = x from fun x y => if_pos h17]; exact ls17 hI
  rw [show ∀ (x y : Option St), oi (o &&& 63 = 17) x y = y from fun x y => if_neg h17]
  by_cases h18 : o &&& 63 = 18
  · rw [show ∀ (x y : Option St), oi (o &&& 63 = 18) x y = x from fun x y => if_pos h18]; exact ls18 hI
  rw [show ∀ (x y : Option St), oi (o &&& 63 = 18) x y = y from fun x y => if_neg h18]
  by_cases h19 : o &&& 63 = 19
  · rw [show ∀ (x y : Option St), oi (o &&& 63 = 19) x y = x from fun x y => if_pos h19]; exact ls19 hI
  rw [show ∀ (x y : Option St), oi (o &&& 63 = 19) x y = y from fun x y => if_neg h19]
  by_cases h20 : o &&& 63 = 20
  · rw [show ∀ (x y : Option St), oi (o &&& 63 = 20) x y = x from fun x y => if_pos h20]; exact ls20 hI
  rw [show ∀ (x y : Option St), oi (o &&& 63 = 20) x y = y from fun x y => if_neg h20]
  by_cases h21 : o &&& 63 = 21
  · rw [show ∀ (x y : Option St), oi (o &&& 63 = 21) x y = x from fun x y => if_pos h21]; exact ls21 hI
  rw [show ∀ (x y : Option St), oi (o &&& 63 = 21) x y = y from fun x y => if_neg h21]
  by_cases h22 : o &&& 63 = 22
  · rw [show ∀ (x y : Option St), oi (o &&& 63 = 22) x y = x from fun x y => if_pos h22]; exact ls22 hI
  rw [show ∀ (x y : Option St), oi (o &&& 63 = 22) x y = y from fun x y => if_neg h22]
  by_cases h23 : o &&& 63 = 23
  · rw [show ∀ (x y : Option St), oi (o &&& 63 = 23) x y = x from fun x y => if_pos h23]; exact ls23 hI
  rw [show ∀ (x y : Option St), oi (o &&& 63 = 23) x y = y from fun x y => if_neg h23]
  by_cases h24 : o &&& 63 = 24
  · rw [show ∀ (x y : Option St), oi (o &&& 63 = 24) x y = x from fun x y => if_pos h24]; exact ls24 hI
  rw [show ∀ (x y : Option St), oi (o &&& 63 = 24) x y = y from fun x y => if_neg h24]
  by_cases h25 : o &&& 63 = 25
  · rw [show ∀ (x y : Option St), oi (o &&& 63 = 25) x y = x from fun x y => if_pos h25]; exact ls25 hI
  rw [show ∀ (x y : Option St), oi (o &&& 63 = 25) x y = y from fun x y => if_neg h25]
  by_cases h26 : o &&& 63 = 26
  · rw [show ∀ (x y : Option St), oi (o &&& 63 = 26) x y = x from fun x y => if_pos h26]; exact ls26 hI
  rw [show ∀ (x y : Option St), oi (o &&& 63 = 26) x y = y from fun x y => if_neg h26]
  by_cases h27 : o &&& 63 = 27
  · rw [show ∀ (x y : Option St), oi (o &&& 63 = 27) x y = x from fun x y => if_pos h27]; exact ls27 hI
  rw [show ∀ (x y : Option St), oi (o &&& 63 = 27) x y = y from fun x y => if_neg h27]
  by_cases h28 : o &&& 63 = 28
  · rw [show ∀ (x y : Option St), oi (o &&& 63 = 28) x y = x from fun x y => if_pos h28]; exact ls28 hI
  rw [show ∀ (x y : Option St), oi (o &&& 63 = 28) x y = y from fun x y => if_neg h28]
  by_cases h29 : o &&& 63 = 29
  · rw [show ∀ (x y : Option St), oi (o &&& 63 = 29) x y = x from fun x y => if_pos h29]; exact ls29 hI
  rw [show ∀ (x y : Option St), oi (o &&& 63 = 29) x y = y from fun x y => if_neg h29]
  by_cases h30 : o &&& 63 = 30
  · rw [show ∀ (x y : Option St), oi (o &&& 63 = 30) x y = x from fun x y => if_pos h30]; exact ls30 hI
  rw [show ∀ (x y : Option St), oi (o &&& 63 = 30) x y = y from fun x y => if_neg h30]
  by_cases h31 : o &&& 63 = 31
  · rw [show ∀ (x y : Option St), oi (o &&& 63 = 31) x y = x from fun x y => if_pos h31]; exact ls31 hI
  rw [show ∀ (x y : Option St), oi (o &&& 63 = 31) x y = y from fun x y => if_neg h31]
  by_cases h32 : o &&& 63 = 32
  · rw [show ∀ (x y : Option St), oi (o &&& 63 = 32) x y = x from fun x y => if_pos h32]; exact ls32 hI
  rw [show ∀ (x y : Option St), oi (o &&& 63 = 32) x y = y from fun x y => if_neg h32]
  by_cases h33 : o &&& 63 = 33
  · rw [show ∀ (x y : Option St), oi (o &&& 63 = 33) x y = x from fun x y => if_pos h33]; exact ls33 hI
  rw [show ∀ (x y : Option St), oi (o &&& 63 = 33) x y = y from fun x y => if_neg h33]
  by_cases h34 : o &&& 63 = 34
  · rw [show ∀ (x y : Option St), oi (o &&& 63 = 34) x y = x from fun x y => if_pos h34]; exact ls34 hI
  rw [show ∀ (x y : Option St), oi (o &&& 63 = 34) x y = y from fun x y => if_neg h34]
  by_cases h35 : o &&& 63 = 35
  · rw [show ∀ (x y : Option St), oi (o &&& 63 = 35) x y = x from fun x y => if_pos h35]; exact ls35 hI
  rw [show ∀ (x y : Option St), oi (o &&& 63 = 35) x y = y from fun x y => if_neg h35]
  by_cases h36 : o &&& 63 = 36
  · rw [show ∀ (x y : Option St), oi (o &&& 63 = 36) x y = x from fun x y => if_pos h36]; exact ls36 hI
  rw [show ∀ (x y : Option St), oi (o &&& 63 = 36) x y = y from fun x y => if_neg h36]
  exact ⟨S, rfl, hI⟩
theorem law_all {xs : Nat → Int32} : ∀ (n j : Nat) (S : St), Inv S → ∃ S', lawIt xs n j S = some S' := by
  intro n
  induction n with
  | zero => intro j S _; exact ⟨S, rfl⟩
  | succ n ih =>
    intro j S hI
    obtain ⟨S1, e1, e2⟩ := law_one (o := xs j) (a := xs (j + 1)) (b := xs (j + 2)) (c := xs (j + 3)) hI
    obtain ⟨S2, e3⟩ := ih (j + 4) S1 e2
    refine ⟨S2, ?_⟩
    unfold lawIt
    rw [e1]
    exact e3
def gini (j : Nat) : Nat := [100, 10, 0, 0, 4, 50, 3, 0, 5, 5, 5, 5, 5, 5].getD j 0
theorem inv_S0 : Inv S0 := by
  have hg : ∀ j, j < 14 → iniF j = nI (gini j) := by decide +kernel
  have hn : ∀ j, j < 14 → now0 (121 + j) = nI (gini j) := by decide +kernel
  have hp : ∀ f, f < 6 → gini (8 + f) ≤ 9 := by decide +kernel
  refine ⟨⟨((0, fun _ => 0, fun _ => 0, fun _ => 0, gini) : Rd), ?_, ?_, ?_⟩, ⟨0, 0, by omega, by omega, rfl, rfl, rfl, fun j hj => absurd hj (Nat.not_lt_zero _)⟩, Or.inl ⟨rfl, rfl, rfl⟩, 0, fun _ => 0, by omega, rfl, rfl, fun k hk => absurd hk (Nat.not_lt_zero _)⟩
  · refine ⟨by show 0 ≤ 40; omega, fun p hp => absurd hp (Nat.not_lt_zero _), fun p q _ hq => absurd hq (Nat.not_lt_zero _), ?_, ?_, ?_, ?_, ?_, ?_, ?_, ?_, hp⟩
    · show 1 ≤ 100 ∧ 100 ≤ 1000; omega
    · show 1 ≤ 10 ∧ 10 ≤ 100; omega
    · show 0 ≤ 4; omega
    · show 0 ≤ 2; omega
    · show 1 ≤ 4 ∧ 4 ≤ 16; omega
    · show 50 ≤ 1000; omega
    · show 2 ≤ 3 ∧ 3 ≤ 9; omega
    · show 0 ≤ 2; omega
  · refine ⟨rfl, fun p hp => absurd hp (Nat.not_lt_zero _), fun j hj => ?_⟩
    exact hg j hj
  · refine ⟨rfl, fun p hp => absurd hp (Nat.not_lt_zero _), hn 0 (by omega), hn 2 (by omega), fun j hj _ _ => ?_⟩
    exact hn j hj
theorem law_pure (xs : Nat → Int32) (n : Nat) : ∃ S9, lawIt xs n 0 S0 = some S9 := law_all n 0 S0 inv_S0
