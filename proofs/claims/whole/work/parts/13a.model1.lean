noncomputable def X8_thrown (S : St) : Option (Int32 × St) :=
  some ((gi S 75 3), S)
set_option maxHeartbeats 4000000 in
set_option maxRecDepth 20000 in
theorem ctX8_thrown {l : Launch} {G : Ga} (hl : l.stackTraces = false) {S : St} {r : Int32} {S1 : St} (h : X8_thrown  S = some (r, S1)) : CT l G 0 yX8_thrown cX8_thrown 1 (some .int) [.ref (G.1 75)] S (some (.int r)) S1 := by
  refine ct_of hl (by decide) (Nat.le_of_ble_eq_true rfl) (fun F hFl hFG hF hN hR hret => ?_)
  subst hFl hFG
  show X F 0 0 [(0, .ref (gA F 75))] [] S
  have hret : ∀ (v : Int32) (S : St) (pc : Nat) (ls : List (Nat × Value)), (v = r ∧ S = S1) → decode cX8_thrown pc = .ok (.ireturn, 1) → X F 0 pc ls [.int v] S := fun v S2 pc ls hq hd => by obtain ⟨rfl, rfl⟩ := hq; exact hret.1 pc ls v rfl rfl hd
  have hk : r = r ∧ S1 = S1 := ⟨rfl, rfl⟩
  unfold X8_thrown at h
  refine x_aload_n hF dX8_thrown_0 rfl rfl ?_
  refine x_geti hF sh75 3 rfl ck7 (by decide) (by decide) tw_1045 rfl dX8_thrown_1 ?_
  obtain ⟨rfl, rfl⟩ := sm h
  exact hret _ _ _ _ hk dX8_thrown_4
noncomputable def X8_in (x0 : Int32) (x1 : Int32) (x2 : Int32) (S : St) : Option (Int32 × St) :=
  oi (x0 < x1) (some ((0 : Int32), S)) (oi (x2 < x0) (some ((0 : Int32), S)) (some ((1 : Int32), S)))
set_option maxHeartbeats 4000000 in
set_option maxRecDepth 20000 in
theorem ctX8_in {l : Launch} {G : Ga} {x0 : Int32} {x1 : Int32} {x2 : Int32} (hl : l.stackTraces = false) {S : St} {r : Int32} {S1 : St} (h : X8_in x0 x1 x2 S = some (r, S1)) : CT l G 0 yX8_in cX8_in 3 (some .boolean) [.int x0, .int x1, .int x2] S (some (.int r)) S1 := by
  refine ct_of hl (by decide) (Nat.le_of_ble_eq_true rfl) (fun F hFl hFG hF hN hR hret => ?_)
  subst hFl hFG
  show X F 0 0 [(0, .int x0), (1, .int x1), (2, .int x2)] [] S
  have hret : ∀ (v : Int32) (S : St) (pc : Nat) (ls : List (Nat × Value)), isB v → (v = r ∧ S = S1) → decode cX8_in pc = .ok (.ireturn, 1) → X F 0 pc ls [.int v] S := fun v S2 pc ls hb hq hd => by obtain ⟨rfl, rfl⟩ := hq; exact hret.2.1 pc ls v rfl hb rfl hd
  have hk : r = r ∧ S1 = S1 := ⟨rfl, rfl⟩
  unfold X8_in at h
  refine x_iload_n hF dX8_in_0 rfl rfl ?_
  refine x_iload_n hF dX8_in_1 rfl rfl ?_
  refine x_icmp_lt (tgt := 14) hF dX8_in_2 (by decide) (fun hc => ?_) (fun hc => ?_)
  · have h := oi_pos hc h
    refine x_iconst (v := (0 : Int32)) hF dX8_in_14 (by decide) ?_
    obtain ⟨rfl, rfl⟩ := sm h
    exact hret _ _ _ _ (by decide) hk dX8_in_15
  · have h := oi_neg hc h
    refine x_iload_n hF dX8_in_5 rfl rfl ?_
    refine x_iload_n hF dX8_in_6 rfl rfl ?_
    refine x_icmp_gt (tgt := 14) hF dX8_in_7 (by decide) (fun hc => ?_) (fun hc => ?_)
    · have h := oi_pos hc h
      refine x_iconst (v := (0 : Int32)) hF dX8_in_14 (by decide) ?_
      obtain ⟨rfl, rfl⟩ := sm h
      exact hret _ _ _ _ (by decide) hk dX8_in_15
    · have h := oi_neg hc h
      refine x_iconst (v := (1 : Int32)) hF dX8_in_10 (by decide) ?_
      refine x_goto (tgt := 15) hF dX8_in_11 (by decide) ?_
      obtain ⟨rfl, rfl⟩ := sm h
      exact hret _ _ _ _ (by decide) hk dX8_in_15
noncomputable def X8_refuses (x1 : Int32) (S : St) : Option (Int32 × St) :=
  ol (si S 75 3 x1) (fun T1 => oi (x1 = 0) (some ((0 : Int32), T1)) (some ((1 : Int32), T1)))
set_option maxHeartbeats 4000000 in
set_option maxRecDepth 20000 in
theorem ctX8_refuses {l : Launch} {G : Ga} {x1 : Int32} (hl : l.stackTraces = false) {S : St} {r : Int32} {S1 : St} (h : X8_refuses x1 S = some (r, S1)) : CT l G 0 yX8_refuses cX8_refuses 2 (some .boolean) [.ref (G.1 75), .int x1] S (some (.int r)) S1 := by
  refine ct_of hl (by decide) (Nat.le_of_ble_eq_true rfl) (fun F hFl hFG hF hN hR hret => ?_)
  subst hFl hFG
  show X F 0 0 [(0, .ref (gA F 75)), (1, .int x1)] [] S
  have hret : ∀ (v : Int32) (S : St) (pc : Nat) (ls : List (Nat × Value)), isB v → (v = r ∧ S = S1) → decode cX8_refuses pc = .ok (.ireturn, 1) → X F 0 pc ls [.int v] S := fun v S2 pc ls hb hq hd => by obtain ⟨rfl, rfl⟩ := hq; exact hret.2.1 pc ls v rfl hb rfl hd
  have hk : r = r ∧ S1 = S1 := ⟨rfl, rfl⟩
  unfold X8_refuses at h
  refine x_aload_n hF dX8_refuses_0 rfl rfl ?_
  refine x_iload_n hF dX8_refuses_1 rfl rfl ?_
  obtain ⟨T1, eT1, h⟩ := ol_some h
  refine x_puti hF sh75 3 rfl ck7 (by decide) (by decide) tw_1045 rfl rfl rfl rfl rfl eT1 dX8_refuses_2 ?_
  refine x_iload_n hF dX8_refuses_5 rfl rfl ?_
  refine x_if_eq (tgt := 13) hF dX8_refuses_6 (by decide) (fun hc => ?_) (fun hc => ?_)
  · have h := oi_pos hc h
    refine x_iconst (v := (0 : Int32)) hF dX8_refuses_13 (by decide) ?_
    obtain ⟨rfl, rfl⟩ := sm h
    exact hret _ _ _ _ (by decide) hk dX8_refuses_14
  · have h := oi_neg hc h
    refine x_iconst (v := (1 : Int32)) hF dX8_refuses_9 (by decide) ?_
    refine x_goto (tgt := 14) hF dX8_refuses_10 (by decide) ?_
    obtain ⟨rfl, rfl⟩ := sm h
    exact hret _ _ _ _ (by decide) hk dX8_refuses_14
noncomputable def X8_keeps_52 (x1 : Int32) (S : St) : Option (((Int32) ⊕ Unit) × St) :=
  oi ((135 : Int32) ≤ x1) (some (.inr (), S)) (og (inb x1 135) (og (inb (((135 : Int32) * (gi S 75 2)) + x1) 1080) (ol (si S 77 (ix (((135 : Int32) * (gi S 75 2)) + x1)) (gi S 76 (ix x1))) (fun T1 => some (.inl (x1 + (1 : Int32)), T1)))))
set_option maxHeartbeats 4000000 in
set_option maxRecDepth 20000 in
theorem xX8_keeps_52 {F : Cx} (hF : Ok F cX8_keeps RX8) (hN : nLF F 2) (hR : RmF F 0 0) {x1 : Int32} {K : ((Int32) ⊕ Unit) → St → Prop} (hag : ∀ (a : Int32) (S : St), K (.inl a) S → X F 0 52 [(0, .ref (gA F 75)), (1, .int a)] [] S) (hex86 : ∀ (q : Unit) (S : St), K (.inr q) S → X F 0 86 [(0, .ref (gA F 75))] [] S) {S : St} {r : (Int32) ⊕ Unit} {S1 : St} (h : X8_keeps_52 x1 S = some (r, S1)) (hk : K r S1) : X F 0 52 [(0, .ref (gA F 75)), (1, .int x1)] [] S := by
  unfold X8_keeps_52 at h
  refine x_iload_n hF dX8_keeps_52 rfl rfl ?_
  refine x_sipush (v := (135 : Int32)) hF dX8_keeps_53 (by decide) ?_
  refine x_icmp_ge (tgt := 86) hF dX8_keeps_56 (by decide) (fun hc => ?_) (fun hc => ?_)
  · have h := oi_pos hc h
    obtain ⟨rfl, rfl⟩ := sm h
    exact x_sub (hex86 _ _ hk) ⟨rfl, trivial⟩
  · have h := oi_neg hc h
    refine x_aload_n hF dX8_keeps_59 rfl rfl ?_
    refine x_getr hF sh75 1 rfl ck7 (by decide) (by decide) tw_1043 rfl dX8_keeps_60 ?_
    refine x_sipush (v := (135 : Int32)) hF dX8_keeps_63 (by decide) ?_
    refine x_aload_n hF dX8_keeps_66 rfl rfl ?_
    refine x_geti hF sh75 2 rfl ck7 (by decide) (by decide) tw_1044 rfl dX8_keeps_67 ?_
    refine x_imul hF dX8_keeps_70 ?_
    refine x_iload_n hF dX8_keeps_71 rfl rfl ?_
    refine x_iadd hF dX8_keeps_72 ?_
    refine x_aload_n hF dX8_keeps_73 rfl rfl ?_
    refine x_getr hF sh75 0 rfl ck7 (by decide) (by decide) tw_1042 rfl dX8_keeps_74 ?_
    refine x_iload_n hF dX8_keeps_77 rfl rfl ?_
    obtain ⟨hg, h⟩ := og_some h
    refine x_iald hF sh76 (by decide) hg rfl dX8_keeps_78 ?_
    obtain ⟨hg, h⟩ := og_some h
    obtain ⟨T1, eT1, h⟩ := ol_some h
    refine x_iast hF sh77 (by decide) hg rfl eT1 dX8_keeps_79 ?_
    refine x_iinc [(1, _), (0, _)] (v := (1 : Int32)) hF hN dX8_keeps_80 rfl (by decide) (by decide) rfl ?_
    refine x_goto (tgt := 52) hF dX8_keeps_83 (by decide) ?_
    obtain ⟨rfl, rfl⟩ := sm h
    exact x_sub (hag _ _ hk) ⟨rfl, rfl, trivial⟩
noncomputable def X8_keeps_52L (a : Int32) (S : St) : Option (Unit × St) :=
  lp (fun (a : Int32) (S : St) => X8_keeps_52 a S) a S
theorem xX8_keeps_52L {F : Cx} (hF : Ok F cX8_keeps RX8) (hN : nLF F 2) (hR : RmF F 0 0) {K : Unit → St → Prop} (hex86 : ∀ (q : Unit) (S : St), K (q) S → X F 0 86 [(0, .ref (gA F 75))] [] S) {a : Int32} {S : St} {b : Unit} {S1 : St} (h : X8_keeps_52L  a S = some (b, S1)) (hk : K b S1) : X F 0 52 [(0, .ref (gA F 75)), (1, .int a)] [] S := by
  unfold X8_keeps_52L at h
  exact lp_rule (Xh := fun (a : Int32) (S : St) => X F 0 52 [(0, .ref (gA F 75)), (1, .int a)] [] S) (K := K) (fun a S r S1 h hk => xX8_keeps_52 hF hN hR (K := fun r S => match r with | .inl a => X F 0 52 [(0, .ref (gA F 75)), (1, .int a)] [] S | .inr b => K b S) (fun _ _ h => h) (fun q S h => hex86 q S h) h (by cases r <;> exact hk)) h hk
noncomputable def X8_keeps_11 (x1 : Int32) (S : St) : Option (((Int32) ⊕ Unit) × St) :=
  oi ((945 : Int32) ≤ x1) (some (.inr (), S)) (og (inb (x1 + (135 : Int32)) 1080) (og (inb x1 1080) (ol (si S 77 (ix x1) (gi S 77 (ix (x1 + (135 : Int32))))) (fun T5 => some (.inl (x1 + (1 : Int32)), T5)))))
set_option maxHeartbeats 4000000 in
set_option maxRecDepth 20000 in
theorem xX8_keeps_11 {F : Cx} (hF : Ok F cX8_keeps RX8) (hN : nLF F 2) (hR : RmF F 0 0) {x1 : Int32} {K : ((Int32) ⊕ Unit) → St → Prop} (hag : ∀ (a : Int32) (S : St), K (.inl a) S → X F 0 11 [(0, .ref (gA F 75)), (1, .int a)] [] S) (hex40 : ∀ (q : Unit) (S : St), K (.inr q) S → X F 0 40 [(0, .ref (gA F 75))] [] S) {S : St} {r : (Int32) ⊕ Unit} {S1 : St} (h : X8_keeps_11 x1 S = some (r, S1)) (hk : K r S1) : X F 0 11 [(0, .ref (gA F 75)), (1, .int x1)] [] S := by
  unfold X8_keeps_11 at h
  refine x_iload_n hF dX8_keeps_11 rfl rfl ?_
  refine x_sipush (v := (945 : Int32)) hF dX8_keeps_12 (by decide) ?_
  refine x_icmp_ge (tgt := 40) hF dX8_keeps_15 (by decide) (fun hc => ?_) (fun hc => ?_)
  · have h := oi_pos hc h
    obtain ⟨rfl, rfl⟩ := sm h
    exact x_sub (hex40 _ _ hk) ⟨rfl, trivial⟩
  · have h := oi_neg hc h
    refine x_aload_n hF dX8_keeps_18 rfl rfl ?_
    refine x_getr hF sh75 1 rfl ck7 (by decide) (by decide) tw_1043 rfl dX8_keeps_19 ?_
    refine x_iload_n hF dX8_keeps_22 rfl rfl ?_
    refine x_aload_n hF dX8_keeps_23 rfl rfl ?_
    refine x_getr hF sh75 1 rfl ck7 (by decide) (by decide) tw_1043 rfl dX8_keeps_24 ?_
    refine x_iload_n hF dX8_keeps_27 rfl rfl ?_
    refine x_sipush (v := (135 : Int32)) hF dX8_keeps_28 (by decide) ?_
    refine x_iadd hF dX8_keeps_31 ?_
    obtain ⟨hg, h⟩ := og_some h
    refine x_iald hF sh77 (by decide) hg rfl dX8_keeps_32 ?_
    obtain ⟨hg, h⟩ := og_some h
    obtain ⟨T5, eT5, h⟩ := ol_some h
    refine x_iast hF sh77 (by decide) hg rfl eT5 dX8_keeps_33 ?_
    refine x_iinc [(1, _), (0, _)] (v := (1 : Int32)) hF hN dX8_keeps_34 rfl (by decide) (by decide) rfl ?_
    refine x_goto (tgt := 11) hF dX8_keeps_37 (by decide) ?_
    obtain ⟨rfl, rfl⟩ := sm h
    exact x_sub (hag _ _ hk) ⟨rfl, rfl, trivial⟩
noncomputable def X8_keeps_11L (a : Int32) (S : St) : Option (Unit × St) :=
  lp (fun (a : Int32) (S : St) => X8_keeps_11 a S) a S
theorem xX8_keeps_11L {F : Cx} (hF : Ok F cX8_keeps RX8) (hN : nLF F 2) (hR : RmF F 0 0) {K : Unit → St → Prop} (hex40 : ∀ (q : Unit) (S : St), K (q) S → X F 0 40 [(0, .ref (gA F 75))] [] S) {a : Int32} {S : St} {b : Unit} {S1 : St} (h : X8_keeps_11L  a S = some (b, S1)) (hk : K b S1) : X F 0 11 [(0, .ref (gA F 75)), (1, .int a)] [] S := by
  unfold X8_keeps_11L at h
  exact lp_rule (Xh := fun (a : Int32) (S : St) => X F 0 11 [(0, .ref (gA F 75)), (1, .int a)] [] S) (K := K) (fun a S r S1 h hk => xX8_keeps_11 hF hN hR (K := fun r S => match r with | .inl a => X F 0 11 [(0, .ref (gA F 75)), (1, .int a)] [] S | .inr b => K b S) (fun _ _ h => h) (fun q S h => hex40 q S h) h (by cases r <;> exact hk)) h hk
noncomputable def X8_keeps (S : St) : Option (Unit × St) :=
  oi ((gi S 75 2) = (8 : Int32)) (ob (X8_keeps_11L (0 : Int32) S) (fun b6 S7 => ol (si S7 75 2 ((gi S7 75 2) - (1 : Int32))) (fun T8 => ob (X8_keeps_52L (0 : Int32) T8) (fun b9 S10 => ol (si S10 75 2 ((gi S10 75 2) + (1 : Int32))) (fun T11 => some ((), T11)))))) (ob (X8_keeps_52L (0 : Int32) S) (fun b2 S3 => ol (si S3 75 2 ((gi S3 75 2) + (1 : Int32))) (fun T4 => some ((), T4))))
set_option maxHeartbeats 4000000 in
set_option maxRecDepth 20000 in
theorem ctX8_keeps {l : Launch} {G : Ga} (hl : l.stackTraces = false) {S : St} {r : Unit} {S1 : St} (h : X8_keeps  S = some (r, S1)) : CT l G 0 yX8_keeps cX8_keeps 2 none [.ref (G.1 75)] S none S1 := by
  refine ct_of hl (by decide) (Nat.le_of_ble_eq_true rfl) (fun F hFl hFG hF hN hR hret => ?_)
  subst hFl hFG
  show X F 0 0 [(0, .ref (gA F 75))] [] S
  have hret : ∀ (v : Unit) (S : St) (pc : Nat) (ls : List (Nat × Value)), (v = r ∧ S = S1) → decode cX8_keeps pc = .ok (.return_, 1) → X F 0 pc ls [] S := fun v S2 pc ls hq hd => by obtain ⟨rfl, rfl⟩ := hq; exact hret.2.2.2.2.1 pc ls rfl rfl hd
  have hk : r = r ∧ S1 = S1 := ⟨rfl, rfl⟩
  unfold X8_keeps at h
  refine x_aload_n hF dX8_keeps_0 rfl rfl ?_
  refine x_geti hF sh75 2 rfl ck7 (by decide) (by decide) tw_1044 rfl dX8_keeps_1 ?_
  refine x_bipush (v := (8 : Int32)) hF dX8_keeps_4 (by decide) ?_
  refine x_icmp_ne (tgt := 50) hF dX8_keeps_6 (by decide) (fun hc => ?_) (fun hc => ?_)
  · have h := oi_neg hc h
    refine x_iconst (v := (0 : Int32)) hF dX8_keeps_50 (by decide) ?_
    refine x_istore_n [(1, _), (0, _)] hF hN dX8_keeps_51 rfl (by decide) rfl ?_
    obtain ⟨b2, S3, hlb2, h⟩ := ob_some h
    refine x_sub (xX8_keeps_52L hF hN hR (K := fun bb SS => bb = b2 ∧ SS = S3) ?_ hlb2 ⟨rfl, rfl⟩) ⟨rfl, rfl, trivial⟩
    rintro _ _ ⟨_, rfl⟩
    refine x_aload_n hF dX8_keeps_86 rfl rfl ?_
    refine x_dup hF dX8_keeps_87 rfl ?_
    refine x_geti hF sh75 2 rfl ck7 (by decide) (by decide) tw_1044 rfl dX8_keeps_88 ?_
    refine x_iconst (v := (1 : Int32)) hF dX8_keeps_91 (by decide) ?_
    refine x_iadd hF dX8_keeps_92 ?_
    obtain ⟨T4, eT4, h⟩ := ol_some h
    refine x_puti hF sh75 2 rfl ck7 (by decide) (by decide) tw_1044 rfl rfl rfl rfl rfl eT4 dX8_keeps_93 ?_
    obtain ⟨rfl, rfl⟩ := sm h
    exact hret _ _ _ _ hk dX8_keeps_96
  · have h := oi_pos hc h
    refine x_iconst (v := (0 : Int32)) hF dX8_keeps_9 (by decide) ?_
    refine x_istore_n [(1, _), (0, _)] hF hN dX8_keeps_10 rfl (by decide) rfl ?_
    obtain ⟨b6, S7, hlb6, h⟩ := ob_some h
    refine x_sub (xX8_keeps_11L hF hN hR (K := fun bb SS => bb = b6 ∧ SS = S7) ?_ hlb6 ⟨rfl, rfl⟩) ⟨rfl, rfl, trivial⟩
    rintro _ _ ⟨_, rfl⟩
    refine x_aload_n hF dX8_keeps_40 rfl rfl ?_
    refine x_dup hF dX8_keeps_41 rfl ?_
    refine x_geti hF sh75 2 rfl ck7 (by decide) (by decide) tw_1044 rfl dX8_keeps_42 ?_
    refine x_iconst (v := (1 : Int32)) hF dX8_keeps_45 (by decide) ?_
    refine x_isub hF dX8_keeps_46 ?_
    obtain ⟨T8, eT8, h⟩ := ol_some h
    refine x_puti hF sh75 2 rfl ck7 (by decide) (by decide) tw_1044 rfl rfl rfl rfl rfl eT8 dX8_keeps_47 ?_
    refine x_iconst (v := (0 : Int32)) hF dX8_keeps_50 (by decide) ?_
    refine x_istore_n [(1, _), (0, _)] hF hN dX8_keeps_51 rfl (by decide) rfl ?_
    obtain ⟨b9, S10, hlb9, h⟩ := ob_some h
    refine x_sub (xX8_keeps_52L hF hN hR (K := fun bb SS => bb = b9 ∧ SS = S10) ?_ hlb9 ⟨rfl, rfl⟩) ⟨rfl, rfl, trivial⟩
    rintro _ _ ⟨_, rfl⟩
    refine x_aload_n hF dX8_keeps_86 rfl rfl ?_
    refine x_dup hF dX8_keeps_87 rfl ?_
    refine x_geti hF sh75 2 rfl ck7 (by decide) (by decide) tw_1044 rfl dX8_keeps_88 ?_
    refine x_iconst (v := (1 : Int32)) hF dX8_keeps_91 (by decide) ?_
    refine x_iadd hF dX8_keeps_92 ?_
    obtain ⟨T11, eT11, h⟩ := ol_some h
    refine x_puti hF sh75 2 rfl ck7 (by decide) (by decide) tw_1044 rfl rfl rfl rfl rfl eT11 dX8_keeps_93 ?_
    obtain ⟨rfl, rfl⟩ := sm h
    exact hret _ _ _ _ hk dX8_keeps_96
noncomputable def X8_isFlow (x0 : Int32) (S : St) : Option (Int32 × St) :=
  ob (X8_in x0 (0 : Int32) (5 : Int32) S) (fun r1 S2 => og (isB r1) (some (r1, S2)))
set_option maxHeartbeats 4000000 in
set_option maxRecDepth 20000 in
theorem ctX8_isFlow {l : Launch} {G : Ga} {x0 : Int32} (hl : l.stackTraces = false) {S : St} {r : Int32} {S1 : St} (h : X8_isFlow x0 S = some (r, S1)) : CT l G 1 yX8_isFlow cX8_isFlow 1 (some .boolean) [.int x0] S (some (.int r)) S1 := by
  refine ct_of hl (by decide) (Nat.le_of_ble_eq_true rfl) (fun F hFl hFG hF hN hR hret => ?_)
  subst hFl hFG
  show X F 0 0 [(0, .int x0)] [] S
  have hret : ∀ (v : Int32) (S : St) (pc : Nat) (ls : List (Nat × Value)), isB v → (v = r ∧ S = S1) → decode cX8_isFlow pc = .ok (.ireturn, 1) → X F 0 pc ls [.int v] S := fun v S2 pc ls hb hq hd => by obtain ⟨rfl, rfl⟩ := hq; exact hret.2.1 pc ls v rfl hb rfl hd
  have hk : r = r ∧ S1 = S1 := ⟨rfl, rfl⟩
  unfold X8_isFlow at h
  refine x_iload_n hF dX8_isFlow_0 rfl rfl ?_
  refine x_iconst (v := (0 : Int32)) hF dX8_isFlow_1 (by decide) ?_
  refine x_iconst (v := (5 : Int32)) hF dX8_isFlow_2 (by decide) ?_
  obtain ⟨r1, S2, hcall, h⟩ := ob_some h
  refine x_cSi hF hN hR (ctX8_in hF.tr hcall) mwX8_in tw_1152 tw_1151 ⟨by decide, by decide⟩ rfl rfl (Nat.le_of_ble_eq_true rfl) dX8_isFlow_3 ?_
  obtain ⟨hg, h⟩ := og_some h
  obtain ⟨rfl, rfl⟩ := sm h
  exact hret _ _ _ _ hg hk dX8_isFlow_6
noncomputable def X8_isPacket (x1 : Int32) (S : St) : Option (Int32 × St) :=
  ob (X8_in x1 (0 : Int32) ((gi S 76 0) - (1 : Int32)) S) (fun r1 S2 => og (isB r1) (some (r1, S2)))
set_option maxHeartbeats 4000000 in
set_option maxRecDepth 20000 in
theorem ctX8_isPacket {l : Launch} {G : Ga} {x1 : Int32} (hl : l.stackTraces = false) {S : St} {r : Int32} {S1 : St} (h : X8_isPacket x1 S = some (r, S1)) : CT l G 1 yX8_isPacket cX8_isPacket 2 (some .boolean) [.ref (G.1 75), .int x1] S (some (.int r)) S1 := by
  refine ct_of hl (by decide) (Nat.le_of_ble_eq_true rfl) (fun F hFl hFG hF hN hR hret => ?_)
  subst hFl hFG
  show X F 0 0 [(0, .ref (gA F 75)), (1, .int x1)] [] S
  have hret : ∀ (v : Int32) (S : St) (pc : Nat) (ls : List (Nat × Value)), isB v → (v = r ∧ S = S1) → decode cX8_isPacket pc = .ok (.ireturn, 1) → X F 0 pc ls [.int v] S := fun v S2 pc ls hb hq hd => by obtain ⟨rfl, rfl⟩ := hq; exact hret.2.1 pc ls v rfl hb rfl hd
  have hk : r = r ∧ S1 = S1 := ⟨rfl, rfl⟩
  unfold X8_isPacket at h
  refine x_iload_n hF dX8_isPacket_0 rfl rfl ?_
  refine x_iconst (v := (0 : Int32)) hF dX8_isPacket_1 (by decide) ?_
  refine x_aload_n hF dX8_isPacket_2 rfl rfl ?_
  refine x_getr hF sh75 0 rfl ck7 (by decide) (by decide) tw_1042 rfl dX8_isPacket_3 ?_
  refine x_iconst (v := (0 : Int32)) hF dX8_isPacket_6 (by decide) ?_
  refine x_iald (j := 0) hF sh76 (by decide) (by decide) (by decide) dX8_isPacket_7 ?_
  refine x_iconst (v := (1 : Int32)) hF dX8_isPacket_8 (by decide) ?_
  refine x_isub hF dX8_isPacket_9 ?_
  obtain ⟨r1, S2, hcall, h⟩ := ob_some h
  refine x_cSi hF hN hR (ctX8_in hF.tr hcall) mwX8_in tw_1152 tw_1151 ⟨by decide, by decide⟩ rfl rfl (Nat.le_of_ble_eq_true rfl) dX8_isPacket_10 ?_
  obtain ⟨hg, h⟩ := og_some h
  obtain ⟨rfl, rfl⟩ := sm h
  exact hret _ _ _ _ hg hk dX8_isPacket_13
noncomputable def X8_of (x1 : Int32) (x2 : Int32) (S : St) : Option (Int32 × St) :=
  og (inb (((1 : Int32) + ((3 : Int32) * x1)) + x2) 135) (some ((gi S 76 (ix (((1 : Int32) + ((3 : Int32) * x1)) + x2))), S))
set_option maxHeartbeats 4000000 in
set_option maxRecDepth 20000 in
theorem ctX8_of {l : Launch} {G : Ga} {x1 : Int32} {x2 : Int32} (hl : l.stackTraces = false) {S : St} {r : Int32} {S1 : St} (h : X8_of x1 x2 S = some (r, S1)) : CT l G 0 yX8_of cX8_of 3 (some .int) [.ref (G.1 75), .int x1, .int x2] S (some (.int r)) S1 := by
  refine ct_of hl (by decide) (Nat.le_of_ble_eq_true rfl) (fun F hFl hFG hF hN hR hret => ?_)
  subst hFl hFG
  show X F 0 0 [(0, .ref (gA F 75)), (1, .int x1), (2, .int x2)] [] S
  have hret : ∀ (v : Int32) (S : St) (pc : Nat) (ls : List (Nat × Value)), (v = r ∧ S = S1) → decode cX8_of pc = .ok (.ireturn, 1) → X F 0 pc ls [.int v] S := fun v S2 pc ls hq hd => by obtain ⟨rfl, rfl⟩ := hq; exact hret.1 pc ls v rfl rfl hd
  have hk : r = r ∧ S1 = S1 := ⟨rfl, rfl⟩
  unfold X8_of at h
  refine x_aload_n hF dX8_of_0 rfl rfl ?_
  refine x_getr hF sh75 0 rfl ck7 (by decide) (by decide) tw_1042 rfl dX8_of_1 ?_
  refine x_iconst (v := (1 : Int32)) hF dX8_of_4 (by decide) ?_
  refine x_iconst (v := (3 : Int32)) hF dX8_of_5 (by decide) ?_
  refine x_iload_n hF dX8_of_6 rfl rfl ?_
  refine x_imul hF dX8_of_7 ?_
  refine x_iadd hF dX8_of_8 ?_
  refine x_iload_n hF dX8_of_9 rfl rfl ?_
  refine x_iadd hF dX8_of_10 ?_
  obtain ⟨hg, h⟩ := og_some h
  refine x_iald hF sh76 (by decide) hg rfl dX8_of_11 ?_
  obtain ⟨rfl, rfl⟩ := sm h
  exact hret _ _ _ _ hk dX8_of_12
noncomputable def X8_noRecord (x1 : Int32) (x2 : Int32) (x3 : Int32) (S : St) : Option (Int32 × St) :=
  ob (X8_isFlow x2 S) (fun r1 S2 => oi (r1 = 0) (some ((1 : Int32), S2)) (ob (X8_in x1 (0 : Int32) (500 : Int32) S2) (fun r3 S4 => oi (r3 = 0) (some ((2 : Int32), S4)) (ob (X8_in x3 (1 : Int32) (100 : Int32) S4) (fun r5 S6 => oi (r5 = 0) (some ((2 : Int32), S6)) (oi ((gi S6 76 0) = (40 : Int32)) (some ((3 : Int32), S6)) (some ((0 : Int32), S6))))))))
set_option maxHeartbeats 4000000 in
set_option maxRecDepth 20000 in
theorem ctX8_noRecord {l : Launch} {G : Ga} {x1 : Int32} {x2 : Int32} {x3 : Int32} (hl : l.stackTraces = false) {S : St} {r : Int32} {S1 : St} (h : X8_noRecord x1 x2 x3 S = some (r, S1)) : CT l G 2 yX8_noRecord cX8_noRecord 4 (some .int) [.ref (G.1 75), .int x1, .int x2, .int x3] S (some (.int r)) S1 := by
  refine ct_of hl (by decide) (Nat.le_of_ble_eq_true rfl) (fun F hFl hFG hF hN hR hret => ?_)
  subst hFl hFG
  show X F 0 0 [(0, .ref (gA F 75)), (1, .int x1), (2, .int x2), (3, .int x3)] [] S
  have hret : ∀ (v : Int32) (S : St) (pc : Nat) (ls : List (Nat × Value)), (v = r ∧ S = S1) → decode cX8_noRecord pc = .ok (.ireturn, 1) → X F 0 pc ls [.int v] S := fun v S2 pc ls hq hd => by obtain ⟨rfl, rfl⟩ := hq; exact hret.1 pc ls v rfl rfl hd
  have hk : r = r ∧ S1 = S1 := ⟨rfl, rfl⟩
  unfold X8_noRecord at h
  refine x_iload_n hF dX8_noRecord_0 rfl rfl ?_
  obtain ⟨r1, S2, hcall, h⟩ := ob_some h
  refine x_cSi hF hN hR (ctX8_isFlow hF.tr hcall) mwX8_isFlow tw_1149 tw_1148 ⟨by decide, by decide⟩ rfl rfl (Nat.le_of_ble_eq_true rfl) dX8_noRecord_1 ?_
  refine x_if_ne (tgt := 11) hF dX8_noRecord_4 (by decide) (fun hc => ?_) (fun hc => ?_)
  · have h := oi_neg hc h
    refine x_iload_n hF dX8_noRecord_11 rfl rfl ?_
    refine x_iconst (v := (0 : Int32)) hF dX8_noRecord_12 (by decide) ?_
    refine x_sipush (v := (500 : Int32)) hF dX8_noRecord_13 (by decide) ?_
    obtain ⟨r3, S4, hcall, h⟩ := ob_some h
    refine x_cSi hF hN hR (ctX8_in hF.tr hcall) mwX8_in tw_1152 tw_1151 ⟨by decide, by decide⟩ rfl rfl (Nat.le_of_ble_eq_true rfl) dX8_noRecord_16 ?_
    refine x_if_eq (tgt := 32) hF dX8_noRecord_19 (by decide) (fun hc => ?_) (fun hc => ?_)
    · have h := oi_pos hc h
      refine x_iconst (v := (2 : Int32)) hF dX8_noRecord_32 (by decide) ?_
      refine x_goto (tgt := 52) hF dX8_noRecord_33 (by decide) ?_
      obtain ⟨rfl, rfl⟩ := sm h
      exact hret _ _ _ _ hk dX8_noRecord_52
    · have h := oi_neg hc h
      refine x_iload_n hF dX8_noRecord_22 rfl rfl ?_
      refine x_iconst (v := (1 : Int32)) hF dX8_noRecord_23 (by decide) ?_
      refine x_bipush (v := (100 : Int32)) hF dX8_noRecord_24 (by decide) ?_
      obtain ⟨r5, S6, hcall, h⟩ := ob_some h
      refine x_cSi hF hN hR (ctX8_in hF.tr hcall) mwX8_in tw_1152 tw_1151 ⟨by decide, by decide⟩ rfl rfl (Nat.le_of_ble_eq_true rfl) dX8_noRecord_26 ?_
      refine x_if_ne (tgt := 36) hF dX8_noRecord_29 (by decide) (fun hc => ?_) (fun hc => ?_)
      · have h := oi_neg hc h
        refine x_aload_n hF dX8_noRecord_36 rfl rfl ?_
        refine x_getr hF sh75 0 rfl ck7 (by decide) (by decide) tw_1042 rfl dX8_noRecord_37 ?_
        refine x_iconst (v := (0 : Int32)) hF dX8_noRecord_40 (by decide) ?_
        refine x_iald (j := 0) hF sh76 (by decide) (by decide) (by decide) dX8_noRecord_41 ?_
        refine x_bipush (v := (40 : Int32)) hF dX8_noRecord_42 (by decide) ?_
        refine x_icmp_ne (tgt := 51) hF dX8_noRecord_44 (by decide) (fun hc => ?_) (fun hc => ?_)
        · have h := oi_neg hc h
          refine x_iconst (v := (0 : Int32)) hF dX8_noRecord_51 (by decide) ?_
          obtain ⟨rfl, rfl⟩ := sm h
          exact hret _ _ _ _ hk dX8_noRecord_52
        · have h := oi_pos hc h
          refine x_iconst (v := (3 : Int32)) hF dX8_noRecord_47 (by decide) ?_
          refine x_goto (tgt := 52) hF dX8_noRecord_48 (by decide) ?_
          obtain ⟨rfl, rfl⟩ := sm h
          exact hret _ _ _ _ hk dX8_noRecord_52
      · have h := oi_pos hc h
        refine x_iconst (v := (2 : Int32)) hF dX8_noRecord_32 (by decide) ?_
        refine x_goto (tgt := 52) hF dX8_noRecord_33 (by decide) ?_
        obtain ⟨rfl, rfl⟩ := sm h
        exact hret _ _ _ _ hk dX8_noRecord_52
  · have h := oi_pos hc h
    refine x_iconst (v := (1 : Int32)) hF dX8_noRecord_7 (by decide) ?_
    refine x_goto (tgt := 52) hF dX8_noRecord_8 (by decide) ?_
    obtain ⟨rfl, rfl⟩ := sm h
    exact hret _ _ _ _ hk dX8_noRecord_52
noncomputable def X8_records_29 (x1 : Int32) (x2 : Int32) (x3 : Int32) (x4 : Int32) (x5 : Int32) (S : St) : Option (((Int32) ⊕ Unit) × St) :=
  oi ((3 : Int32) ≤ x5) (some (.inr (), S)) (ob (X8_of (x4 - (1 : Int32)) x5 S) (fun r3 S4 => og (inb (((1 : Int32) + ((3 : Int32) * x4)) + x5) 135) (ol (si S4 76 (ix (((1 : Int32) + ((3 : Int32) * x4)) + x5)) r3) (fun T5 => some (.inl (x5 + (1 : Int32)), T5)))))
set_option maxHeartbeats 4000000 in
set_option maxRecDepth 20000 in
theorem xX8_records_29 {F : Cx} (hF : Ok F cX8_records RX8) (hN : nLF F 6) (hR : RmF F 1 0) {x1 : Int32} {x2 : Int32} {x3 : Int32} {x4 : Int32} {x5 : Int32} {K : ((Int32) ⊕ Unit) → St → Prop} (hag : ∀ (a : Int32) (S : St), K (.inl a) S → X F 0 29 [(0, .ref (gA F 75)), (1, .int x1), (2, .int x2), (3, .int x3), (4, .int x4), (5, .int a)] [] S) (hex65 : ∀ (q : Unit) (S : St), K (.inr q) S → X F 0 65 [(0, .ref (gA F 75)), (1, .int x1), (2, .int x2), (3, .int x3), (4, .int x4)] [] S) {S : St} {r : (Int32) ⊕ Unit} {S1 : St} (h : X8_records_29 x1 x2 x3 x4 x5 S = some (r, S1)) (hk : K r S1) : X F 0 29 [(0, .ref (gA F 75)), (1, .int x1), (2, .int x2), (3, .int x3), (4, .int x4), (5, .int x5)] [] S := by
  unfold X8_records_29 at h
  refine x_iload hF dX8_records_29 rfl ?_
  refine x_iconst (v := (3 : Int32)) hF dX8_records_31 (by decide) ?_
  refine x_icmp_ge (tgt := 65) hF dX8_records_32 (by decide) (fun hc => ?_) (fun hc => ?_)
  · have h := oi_pos hc h
    obtain ⟨rfl, rfl⟩ := sm h
    exact x_sub (hex65 _ _ hk) ⟨rfl, rfl, rfl, rfl, rfl, trivial⟩
  · have h := oi_neg hc h
    refine x_aload_n hF dX8_records_35 rfl rfl ?_
    refine x_getr hF sh75 0 rfl ck7 (by decide) (by decide) tw_1042 rfl dX8_records_36 ?_
    refine x_iconst (v := (1 : Int32)) hF dX8_records_39 (by decide) ?_
    refine x_iconst (v := (3 : Int32)) hF dX8_records_40 (by decide) ?_
    refine x_iload hF dX8_records_41 rfl ?_
    refine x_imul hF dX8_records_43 ?_
    refine x_iadd hF dX8_records_44 ?_
    refine x_iload hF dX8_records_45 rfl ?_
    refine x_iadd hF dX8_records_47 ?_
    refine x_aload_n hF dX8_records_48 rfl rfl ?_
    refine x_iload hF dX8_records_49 rfl ?_
    refine x_iconst (v := (1 : Int32)) hF dX8_records_51 (by decide) ?_
    refine x_isub hF dX8_records_52 ?_
    refine x_iload hF dX8_records_53 rfl ?_
    obtain ⟨r3, S4, hcall, h⟩ := ob_some h
    refine x_cVi hF hN hR (ctX8_of hF.tr hcall) mwX8_of miX8_of sh75 ck7 (by decide) tw_1166 ⟨by decide, by decide⟩ rfl rfl (Nat.le_of_ble_eq_true rfl) dX8_records_55 ?_
    obtain ⟨hg, h⟩ := og_some h
    obtain ⟨T5, eT5, h⟩ := ol_some h
    refine x_iast hF sh76 (by decide) hg rfl eT5 dX8_records_58 ?_
    refine x_iinc [(5, _), (0, _), (1, _), (2, _), (3, _), (4, _)] (v := (1 : Int32)) hF hN dX8_records_59 rfl (by decide) (by decide) rfl ?_
    refine x_goto (tgt := 29) hF dX8_records_62 (by decide) ?_
    obtain ⟨rfl, rfl⟩ := sm h
    exact x_sub (hag _ _ hk) ⟨rfl, rfl, rfl, rfl, rfl, rfl, trivial⟩
noncomputable def X8_records_29L (x1 : Int32) (x2 : Int32) (x3 : Int32) (x4 : Int32) (a : Int32) (S : St) : Option (Unit × St) :=
  lp (fun (a : Int32) (S : St) => X8_records_29 x1 x2 x3 x4 a S) a S
theorem xX8_records_29L {F : Cx} (hF : Ok F cX8_records RX8) (hN : nLF F 6) (hR : RmF F 1 0) {x1 : Int32} {x2 : Int32} {x3 : Int32} {x4 : Int32} {K : Unit → St → Prop} (hex65 : ∀ (q : Unit) (S : St), K (q) S → X F 0 65 [(0, .ref (gA F 75)), (1, .int x1), (2, .int x2), (3, .int x3), (4, .int x4)] [] S) {a : Int32} {S : St} {b : Unit} {S1 : St} (h : X8_records_29L x1 x2 x3 x4 a S = some (b, S1)) (hk : K b S1) : X F 0 29 [(0, .ref (gA F 75)), (1, .int x1), (2, .int x2), (3, .int x3), (4, .int x4), (5, .int a)] [] S := by
  unfold X8_records_29L at h
  exact lp_rule (Xh := fun (a : Int32) (S : St) => X F 0 29 [(0, .ref (gA F 75)), (1, .int x1), (2, .int x2), (3, .int x3), (4, .int x4), (5, .int a)] [] S) (K := K) (fun a S r S1 h hk => xX8_records_29 hF hN hR (K := fun r S => match r with | .inl a => X F 0 29 [(0, .ref (gA F 75)), (1, .int x1), (2, .int x2), (3, .int x3), (4, .int x4), (5, .int a)] [] S | .inr b => K b S) (fun _ _ h => h) (fun q S h => hex65 q S h) h (by cases r <;> exact hk)) h hk
noncomputable def X8_records_8 (x1 : Int32) (x2 : Int32) (x3 : Int32) (x4 : Int32) (S : St) : Option (((Int32) ⊕ Int32) × St) :=
  oi (x4 ≤ 0) (some (.inr x4, S)) (ob (X8_of (x4 - (1 : Int32)) (0 : Int32) S) (fun r1 S2 => oi (r1 ≤ x1) (some (.inr x4, S2)) (ob (X8_records_29L x1 x2 x3 x4 (0 : Int32) S2) (fun b6 S7 => some (.inl (x4 + (-1 : Int32)), S7)))))
set_option maxHeartbeats 4000000 in
set_option maxRecDepth 20000 in
theorem xX8_records_8 {F : Cx} (hF : Ok F cX8_records RX8) (hN : nLF F 6) (hR : RmF F 1 0) {x1 : Int32} {x2 : Int32} {x3 : Int32} {x4 : Int32} {K : ((Int32) ⊕ Int32) → St → Prop} (hag : ∀ (a : Int32) (S : St), K (.inl a) S → X F 0 8 [(0, .ref (gA F 75)), (1, .int x1), (2, .int x2), (3, .int x3), (4, .int a)] [] S) (hex71 : ∀ (q : Int32) (S : St), K (.inr q) S → X F 0 71 [(0, .ref (gA F 75)), (1, .int x1), (2, .int x2), (3, .int x3), (4, .int q)] [] S) {S : St} {r : (Int32) ⊕ Int32} {S1 : St} (h : X8_records_8 x1 x2 x3 x4 S = some (r, S1)) (hk : K r S1) : X F 0 8 [(0, .ref (gA F 75)), (1, .int x1), (2, .int x2), (3, .int x3), (4, .int x4)] [] S := by
  unfold X8_records_8 at h
  refine x_iload hF dX8_records_8 rfl ?_
  refine x_if_le (tgt := 71) hF dX8_records_10 (by decide) (fun hc => ?_) (fun hc => ?_)
  · have h := oi_pos hc h
    obtain ⟨rfl, rfl⟩ := sm h
    exact x_sub (hex71 _ _ hk) ⟨rfl, rfl, rfl, rfl, rfl, trivial⟩
  · have h := oi_neg hc h
    refine x_aload_n hF dX8_records_13 rfl rfl ?_
    refine x_iload hF dX8_records_14 rfl ?_
    refine x_iconst (v := (1 : Int32)) hF dX8_records_16 (by decide) ?_
    refine x_isub hF dX8_records_17 ?_
    refine x_iconst (v := (0 : Int32)) hF dX8_records_18 (by decide) ?_
    obtain ⟨r1, S2, hcall, h⟩ := ob_some h
    refine x_cVi hF hN hR (ctX8_of hF.tr hcall) mwX8_of miX8_of sh75 ck7 (by decide) tw_1166 ⟨by decide, by decide⟩ rfl rfl (Nat.le_of_ble_eq_true rfl) dX8_records_19 ?_
    refine x_iload_n hF dX8_records_22 rfl rfl ?_
    refine x_icmp_le (tgt := 71) hF dX8_records_23 (by decide) (fun hc => ?_) (fun hc => ?_)
    · have h := oi_pos hc h
      obtain ⟨rfl, rfl⟩ := sm h
      exact x_sub (hex71 _ _ hk) ⟨rfl, rfl, rfl, rfl, rfl, trivial⟩
    · have h := oi_neg hc h
      refine x_iconst (v := (0 : Int32)) hF dX8_records_26 (by decide) ?_
      refine x_istore [(5, _), (0, _), (1, _), (2, _), (3, _), (4, _)] hF hN dX8_records_27 (by decide) rfl ?_
      obtain ⟨b6, S7, hlb6, h⟩ := ob_some h
      refine x_sub (xX8_records_29L hF hN hR (K := fun bb SS => bb = b6 ∧ SS = S7) ?_ hlb6 ⟨rfl, rfl⟩) ⟨rfl, rfl, rfl, rfl, rfl, rfl, trivial⟩
      rintro _ _ ⟨_, rfl⟩
      refine x_iinc [(4, _), (0, _), (1, _), (2, _), (3, _)] (v := (-1 : Int32)) hF hN dX8_records_65 rfl (by decide) (by decide) rfl ?_
      refine x_goto (tgt := 8) hF dX8_records_68 (by decide) ?_
      obtain ⟨rfl, rfl⟩ := sm h
      exact x_sub (hag _ _ hk) ⟨rfl, rfl, rfl, rfl, rfl, trivial⟩
noncomputable def X8_records_8L (x1 : Int32) (x2 : Int32) (x3 : Int32) (a : Int32) (S : St) : Option (Int32 × St) :=
  lp (fun (a : Int32) (S : St) => X8_records_8 x1 x2 x3 a S) a S
theorem xX8_records_8L {F : Cx} (hF : Ok F cX8_records RX8) (hN : nLF F 6) (hR : RmF F 1 0) {x1 : Int32} {x2 : Int32} {x3 : Int32} {K : Int32 → St → Prop} (hex71 : ∀ (q : Int32) (S : St), K (q) S → X F 0 71 [(0, .ref (gA F 75)), (1, .int x1), (2, .int x2), (3, .int x3), (4, .int q)] [] S) {a : Int32} {S : St} {b : Int32} {S1 : St} (h : X8_records_8L x1 x2 x3 a S = some (b, S1)) (hk : K b S1) : X F 0 8 [(0, .ref (gA F 75)), (1, .int x1), (2, .int x2), (3, .int x3), (4, .int a)] [] S := by
  unfold X8_records_8L at h
  exact lp_rule (Xh := fun (a : Int32) (S : St) => X F 0 8 [(0, .ref (gA F 75)), (1, .int x1), (2, .int x2), (3, .int x3), (4, .int a)] [] S) (K := K) (fun a S r S1 h hk => xX8_records_8 hF hN hR (K := fun r S => match r with | .inl a => X F 0 8 [(0, .ref (gA F 75)), (1, .int x1), (2, .int x2), (3, .int x3), (4, .int a)] [] S | .inr b => K b S) (fun _ _ h => h) (fun q S h => hex71 q S h) h (by cases r <;> exact hk)) h hk
noncomputable def X8_records (x1 : Int32) (x2 : Int32) (x3 : Int32) (S : St) : Option (Int32 × St) :=
  ob (X8_records_8L x1 x2 x3 (gi S 76 0) S) (fun b8 S9 => og (inb ((1 : Int32) + ((3 : Int32) * b8)) 135) (ol (si S9 76 (ix ((1 : Int32) + ((3 : Int32) * b8))) x1) (fun T10 => og (inb (((1 : Int32) + ((3 : Int32) * b8)) + (1 : Int32)) 135) (ol (si T10 76 (ix (((1 : Int32) + ((3 : Int32) * b8)) + (1 : Int32))) x2) (fun T11 => og (inb (((1 : Int32) + ((3 : Int32) * b8)) + (2 : Int32)) 135) (ol (si T11 76 (ix (((1 : Int32) + ((3 : Int32) * b8)) + (2 : Int32))) x3) (fun T12 => ol (si T12 76 0 ((gi T12 76 0) + (1 : Int32))) (fun T13 => some (b8, T13)))))))))
set_option maxHeartbeats 4000000 in
set_option maxRecDepth 20000 in
theorem ctX8_records {l : Launch} {G : Ga} {x1 : Int32} {x2 : Int32} {x3 : Int32} (hl : l.stackTraces = false) {S : St} {r : Int32} {S1 : St} (h : X8_records x1 x2 x3 S = some (r, S1)) : CT l G 1 yX8_records cX8_records 6 (some .int) [.ref (G.1 75), .int x1, .int x2, .int x3] S (some (.int r)) S1 := by
  refine ct_of hl (by decide) (Nat.le_of_ble_eq_true rfl) (fun F hFl hFG hF hN hR hret => ?_)
  subst hFl hFG
  show X F 0 0 [(0, .ref (gA F 75)), (1, .int x1), (2, .int x2), (3, .int x3)] [] S
  have hret : ∀ (v : Int32) (S : St) (pc : Nat) (ls : List (Nat × Value)), (v = r ∧ S = S1) → decode cX8_records pc = .ok (.ireturn, 1) → X F 0 pc ls [.int v] S := fun v S2 pc ls hq hd => by obtain ⟨rfl, rfl⟩ := hq; exact hret.1 pc ls v rfl rfl hd
  have hk : r = r ∧ S1 = S1 := ⟨rfl, rfl⟩
  unfold X8_records at h
  refine x_aload_n hF dX8_records_0 rfl rfl ?_
  refine x_getr hF sh75 0 rfl ck7 (by decide) (by decide) tw_1042 rfl dX8_records_1 ?_
  refine x_iconst (v := (0 : Int32)) hF dX8_records_4 (by decide) ?_
  refine x_iald (j := 0) hF sh76 (by decide) (by decide) (by decide) dX8_records_5 ?_
  refine x_istore [(4, _), (0, _), (1, _), (2, _), (3, _)] hF hN dX8_records_6 (by decide) rfl ?_
  obtain ⟨b8, S9, hlb8, h⟩ := ob_some h
  refine x_sub (xX8_records_8L hF hN hR (K := fun bb SS => bb = b8 ∧ SS = S9) ?_ hlb8 ⟨rfl, rfl⟩) ⟨rfl, rfl, rfl, rfl, rfl, trivial⟩
  rintro _ _ ⟨rfl, rfl⟩
  refine x_aload_n hF dX8_records_71 rfl rfl ?_
  refine x_getr hF sh75 0 rfl ck7 (by decide) (by decide) tw_1042 rfl dX8_records_72 ?_
  refine x_iconst (v := (1 : Int32)) hF dX8_records_75 (by decide) ?_
  refine x_iconst (v := (3 : Int32)) hF dX8_records_76 (by decide) ?_
  refine x_iload hF dX8_records_77 rfl ?_
  refine x_imul hF dX8_records_79 ?_
  refine x_iadd hF dX8_records_80 ?_
  refine x_iload_n hF dX8_records_81 rfl rfl ?_
  obtain ⟨hg, h⟩ := og_some h
  obtain ⟨T10, eT10, h⟩ := ol_some h
  refine x_iast hF sh76 (by decide) hg rfl eT10 dX8_records_82 ?_
  refine x_aload_n hF dX8_records_83 rfl rfl ?_
  refine x_getr hF sh75 0 rfl ck7 (by decide) (by decide) tw_1042 rfl dX8_records_84 ?_
  refine x_iconst (v := (1 : Int32)) hF dX8_records_87 (by decide) ?_
  refine x_iconst (v := (3 : Int32)) hF dX8_records_88 (by decide) ?_
  refine x_iload hF dX8_records_89 rfl ?_
  refine x_imul hF dX8_records_91 ?_
  refine x_iadd hF dX8_records_92 ?_
  refine x_iconst (v := (1 : Int32)) hF dX8_records_93 (by decide) ?_
  refine x_iadd hF dX8_records_94 ?_
  refine x_iload_n hF dX8_records_95 rfl rfl ?_
  obtain ⟨hg, h⟩ := og_some h
  obtain ⟨T11, eT11, h⟩ := ol_some h
  refine x_iast hF sh76 (by decide) hg rfl eT11 dX8_records_96 ?_
  refine x_aload_n hF dX8_records_97 rfl rfl ?_
  refine x_getr hF sh75 0 rfl ck7 (by decide) (by decide) tw_1042 rfl dX8_records_98 ?_
  refine x_iconst (v := (1 : Int32)) hF dX8_records_101 (by decide) ?_
  refine x_iconst (v := (3 : Int32)) hF dX8_records_102 (by decide) ?_
  refine x_iload hF dX8_records_103 rfl ?_
  refine x_imul hF dX8_records_105 ?_
  refine x_iadd hF dX8_records_106 ?_
  refine x_iconst (v := (2 : Int32)) hF dX8_records_107 (by decide) ?_
  refine x_iadd hF dX8_records_108 ?_
  refine x_iload_n hF dX8_records_109 rfl rfl ?_
  obtain ⟨hg, h⟩ := og_some h
  obtain ⟨T12, eT12, h⟩ := ol_some h
  refine x_iast hF sh76 (by decide) hg rfl eT12 dX8_records_110 ?_
  refine x_aload_n hF dX8_records_111 rfl rfl ?_
  refine x_getr hF sh75 0 rfl ck7 (by decide) (by decide) tw_1042 rfl dX8_records_112 ?_
  refine x_iconst (v := (0 : Int32)) hF dX8_records_115 (by decide) ?_
  refine x_dup2 hF dX8_records_116 rfl rfl ?_
  refine x_iald (j := 0) hF sh76 (by decide) (by decide) (by decide) dX8_records_117 ?_
  refine x_iconst (v := (1 : Int32)) hF dX8_records_118 (by decide) ?_
  refine x_iadd hF dX8_records_119 ?_
  obtain ⟨T13, eT13, h⟩ := ol_some h
  refine x_iast (j := 0) hF sh76 (by decide) (by decide) (by decide) eT13 dX8_records_120 ?_
  refine x_iload hF dX8_records_121 rfl ?_
  obtain ⟨rfl, rfl⟩ := sm h
  exact hret _ _ _ _ hk dX8_records_123
noncomputable def X8_record (x1 : Int32) (x2 : Int32) (x3 : Int32) (S : St) : Option (Int32 × St) :=
  ob (X8_noRecord x1 x2 x3 S) (fun r1 S2 => ob (X8_refuses r1 S2) (fun r3 S4 => oi (r3 = 0) (ob (X8_keeps  S4) (fun r5 S6 => ob (X8_records x1 x2 x3 S6) (fun r7 S8 => some (r7, S8)))) (some ((0 : Int32), S4))))
set_option maxHeartbeats 4000000 in
set_option maxRecDepth 20000 in
theorem ctX8_record {l : Launch} {G : Ga} {x1 : Int32} {x2 : Int32} {x3 : Int32} (hl : l.stackTraces = false) {S : St} {r : Int32} {S1 : St} (h : X8_record x1 x2 x3 S = some (r, S1)) : CT l G 3 yX8_record cX8_record 4 (some .int) [.ref (G.1 75), .int x1, .int x2, .int x3] S (some (.int r)) S1 := by
  refine ct_of hl (by decide) (Nat.le_of_ble_eq_true rfl) (fun F hFl hFG hF hN hR hret => ?_)
  subst hFl hFG
  show X F 0 0 [(0, .ref (gA F 75)), (1, .int x1), (2, .int x2), (3, .int x3)] [] S
  have hret : ∀ (v : Int32) (S : St) (pc : Nat) (ls : List (Nat × Value)), (v = r ∧ S = S1) → decode cX8_record pc = .ok (.ireturn, 1) → X F 0 pc ls [.int v] S := fun v S2 pc ls hq hd => by obtain ⟨rfl, rfl⟩ := hq; exact hret.1 pc ls v rfl rfl hd
  have hk : r = r ∧ S1 = S1 := ⟨rfl, rfl⟩
  unfold X8_record at h
  refine x_aload_n hF dX8_record_0 rfl rfl ?_
  refine x_aload_n hF dX8_record_1 rfl rfl ?_
  refine x_iload_n hF dX8_record_2 rfl rfl ?_
  refine x_iload_n hF dX8_record_3 rfl rfl ?_
  refine x_iload_n hF dX8_record_4 rfl rfl ?_
  obtain ⟨r1, S2, hcall, h⟩ := ob_some h
  refine x_cVi hF hN hR (ctX8_noRecord hF.tr hcall) mwX8_noRecord miX8_noRecord sh75 ck7 (by decide) tw_1144 ⟨by decide, by decide⟩ rfl rfl (Nat.le_of_ble_eq_true rfl) dX8_record_5 ?_
  obtain ⟨r3, S4, hcall, h⟩ := ob_some h
  refine x_cVi hF hN hR (ctX8_refuses hF.tr hcall) mwX8_refuses miX8_refuses sh75 ck7 (by decide) tw_1154 ⟨by decide, by decide⟩ rfl rfl (Nat.le_of_ble_eq_true rfl) dX8_record_8 ?_
  refine x_if_eq (tgt := 16) hF dX8_record_11 (by decide) (fun hc => ?_) (fun hc => ?_)
  · have h := oi_pos hc h
    refine x_aload_n hF dX8_record_16 rfl rfl ?_
    obtain ⟨r5, S6, hcall, h⟩ := ob_some h
    refine x_cVv hF hN hR (ctX8_keeps hF.tr hcall) mwX8_keeps miX8_keeps sh75 ck7 (by decide) tw_1158 ⟨by decide, by decide⟩ rfl rfl (Nat.le_of_ble_eq_true rfl) dX8_record_17 ?_
    refine x_aload_n hF dX8_record_20 rfl rfl ?_
    refine x_iload_n hF dX8_record_21 rfl rfl ?_
    refine x_iload_n hF dX8_record_22 rfl rfl ?_
    refine x_iload_n hF dX8_record_23 rfl rfl ?_
    obtain ⟨r7, S8, hcall, h⟩ := ob_some h
    refine x_cVi hF hN hR (ctX8_records hF.tr hcall) mwX8_records miX8_records sh75 ck7 (by decide) tw_1162 ⟨by decide, by decide⟩ rfl rfl (Nat.le_of_ble_eq_true rfl) dX8_record_24 ?_
    obtain ⟨rfl, rfl⟩ := sm h
    exact hret _ _ _ _ hk dX8_record_27
  · have h := oi_neg hc h
    refine x_iconst (v := (0 : Int32)) hF dX8_record_14 (by decide) ?_
    obtain ⟨rfl, rfl⟩ := sm h
    exact hret _ _ _ _ hk dX8_record_15
noncomputable def X8_erase_42 (x2 : Int32) (S : St) : Option (((Int32) ⊕ Unit) × St) :=
  oi (((1 : Int32) + ((3 : Int32) * (gi S 76 0))) ≤ x2) (some (.inr (), S)) (og (inb (x2 + (3 : Int32)) 135) (og (inb x2 135) (ol (si S 76 (ix x2) (gi S 76 (ix (x2 + (3 : Int32))))) (fun T8 => some (.inl (x2 + (1 : Int32)), T8)))))
set_option maxHeartbeats 4000000 in
set_option maxRecDepth 20000 in
theorem xX8_erase_42 {F : Cx} (hF : Ok F cX8_erase RX8) (hN : nLF F 3) (hR : RmF F 2 0) {x2 : Int32} {K : ((Int32) ⊕ Unit) → St → Prop} (hag : ∀ (a : Int32) (S : St), K (.inl a) S → X F 0 42 [(0, .ref (gA F 75)), (2, .int a)] [] S) (hex76 : ∀ (q : Unit) (S : St), K (.inr q) S → X F 0 76 [(0, .ref (gA F 75))] [] S) {S : St} {r : (Int32) ⊕ Unit} {S1 : St} (h : X8_erase_42 x2 S = some (r, S1)) (hk : K r S1) : X F 0 42 [(0, .ref (gA F 75)), (2, .int x2)] [] S := by
  unfold X8_erase_42 at h
  refine x_iload_n hF dX8_erase_42 rfl rfl ?_
  refine x_iconst (v := (1 : Int32)) hF dX8_erase_43 (by decide) ?_
  refine x_iconst (v := (3 : Int32)) hF dX8_erase_44 (by decide) ?_
  refine x_aload_n hF dX8_erase_45 rfl rfl ?_
  refine x_getr hF sh75 0 rfl ck7 (by decide) (by decide) tw_1042 rfl dX8_erase_46 ?_
  refine x_iconst (v := (0 : Int32)) hF dX8_erase_49 (by decide) ?_
  refine x_iald (j := 0) hF sh76 (by decide) (by decide) (by decide) dX8_erase_50 ?_
  refine x_imul hF dX8_erase_51 ?_
  refine x_iadd hF dX8_erase_52 ?_
  refine x_icmp_ge (tgt := 76) hF dX8_erase_53 (by decide) (fun hc => ?_) (fun hc => ?_)
  · have h := oi_pos hc h
    obtain ⟨rfl, rfl⟩ := sm h
    exact x_sub (hex76 _ _ hk) ⟨rfl, trivial⟩
  · have h := oi_neg hc h
    refine x_aload_n hF dX8_erase_56 rfl rfl ?_
    refine x_getr hF sh75 0 rfl ck7 (by decide) (by decide) tw_1042 rfl dX8_erase_57 ?_
    refine x_iload_n hF dX8_erase_60 rfl rfl ?_
    refine x_aload_n hF dX8_erase_61 rfl rfl ?_
    refine x_getr hF sh75 0 rfl ck7 (by decide) (by decide) tw_1042 rfl dX8_erase_62 ?_
    refine x_iload_n hF dX8_erase_65 rfl rfl ?_
    refine x_iconst (v := (3 : Int32)) hF dX8_erase_66 (by decide) ?_
    refine x_iadd hF dX8_erase_67 ?_
    obtain ⟨hg, h⟩ := og_some h
    refine x_iald hF sh76 (by decide) hg rfl dX8_erase_68 ?_
    obtain ⟨hg, h⟩ := og_some h
    obtain ⟨T8, eT8, h⟩ := ol_some h
    refine x_iast hF sh76 (by decide) hg rfl eT8 dX8_erase_69 ?_
    refine x_iinc [(2, _), (0, _)] (v := (1 : Int32)) hF hN dX8_erase_70 rfl (by decide) (by decide) rfl ?_
    refine x_goto (tgt := 42) hF dX8_erase_73 (by decide) ?_
    obtain ⟨rfl, rfl⟩ := sm h
    exact x_sub (hag _ _ hk) ⟨rfl, rfl, trivial⟩
noncomputable def X8_erase_42L (a : Int32) (S : St) : Option (Unit × St) :=
  lp (fun (a : Int32) (S : St) => X8_erase_42 a S) a S
theorem xX8_erase_42L {F : Cx} (hF : Ok F cX8_erase RX8) (hN : nLF F 3) (hR : RmF F 2 0) {K : Unit → St → Prop} (hex76 : ∀ (q : Unit) (S : St), K (q) S → X F 0 76 [(0, .ref (gA F 75))] [] S) {a : Int32} {S : St} {b : Unit} {S1 : St} (h : X8_erase_42L  a S = some (b, S1)) (hk : K b S1) : X F 0 42 [(0, .ref (gA F 75)), (2, .int a)] [] S := by
  unfold X8_erase_42L at h
  exact lp_rule (Xh := fun (a : Int32) (S : St) => X F 0 42 [(0, .ref (gA F 75)), (2, .int a)] [] S) (K := K) (fun a S r S1 h hk => xX8_erase_42 hF hN hR (K := fun r S => match r with | .inl a => X F 0 42 [(0, .ref (gA F 75)), (2, .int a)] [] S | .inr b => K b S) (fun _ _ h => h) (fun q S h => hex76 q S h) h (by cases r <;> exact hk)) h hk
noncomputable def X8_erase_14 (x1 : Int32) (z1 : Int32) (S : St) : Option (Int32 × St) :=
  ob (X8_refuses z1 S) (fun r3 S4 => oi (r3 = 0) (ob (X8_keeps  S4) (fun r5 S6 => ol (si S6 76 0 ((gi S6 76 0) - (1 : Int32))) (fun T7 => ob (X8_erase_42L ((1 : Int32) + ((3 : Int32) * x1)) T7) (fun b9 S10 => some ((gi S10 76 0), S10))))) (some ((0 : Int32), S4)))
set_option maxHeartbeats 4000000 in
set_option maxRecDepth 20000 in
theorem xX8_erase_14 {F : Cx} (hF : Ok F cX8_erase RX8) (hN : nLF F 3) (hR : RmF F 2 0) {x1 : Int32} {z1 : Int32} {K : Int32 → St → Prop} (hret : ∀ (v : Int32) (S : St) (pc : Nat) (ls : List (Nat × Value)), K v S → decode cX8_erase pc = .ok (.ireturn, 1) → X F 0 pc ls [.int v] S) {S : St} {r : Int32} {S1 : St} (h : X8_erase_14 x1 z1 S = some (r, S1)) (hk : K r S1) : X F 0 14 [(0, .ref (gA F 75)), (1, .int x1)] [.int z1, .ref (gA F 75)] S := by
  unfold X8_erase_14 at h
  obtain ⟨r3, S4, hcall, h⟩ := ob_some h
  refine x_cVi hF hN hR (ctX8_refuses hF.tr hcall) mwX8_refuses miX8_refuses sh75 ck7 (by decide) tw_1154 ⟨by decide, by decide⟩ rfl rfl (Nat.le_of_ble_eq_true rfl) dX8_erase_14 ?_
  refine x_if_eq (tgt := 22) hF dX8_erase_17 (by decide) (fun hc => ?_) (fun hc => ?_)
  · have h := oi_pos hc h
    refine x_aload_n hF dX8_erase_22 rfl rfl ?_
    obtain ⟨r5, S6, hcall, h⟩ := ob_some h
    refine x_cVv hF hN hR (ctX8_keeps hF.tr hcall) mwX8_keeps miX8_keeps sh75 ck7 (by decide) tw_1158 ⟨by decide, by decide⟩ rfl rfl (Nat.le_of_ble_eq_true rfl) dX8_erase_23 ?_
    refine x_aload_n hF dX8_erase_26 rfl rfl ?_
    refine x_getr hF sh75 0 rfl ck7 (by decide) (by decide) tw_1042 rfl dX8_erase_27 ?_
    refine x_iconst (v := (0 : Int32)) hF dX8_erase_30 (by decide) ?_
    refine x_dup2 hF dX8_erase_31 rfl rfl ?_
    refine x_iald (j := 0) hF sh76 (by decide) (by decide) (by decide) dX8_erase_32 ?_
    refine x_iconst (v := (1 : Int32)) hF dX8_erase_33 (by decide) ?_
    refine x_isub hF dX8_erase_34 ?_
    obtain ⟨T7, eT7, h⟩ := ol_some h
    refine x_iast (j := 0) hF sh76 (by decide) (by decide) (by decide) eT7 dX8_erase_35 ?_
    refine x_iconst (v := (1 : Int32)) hF dX8_erase_36 (by decide) ?_
    refine x_iconst (v := (3 : Int32)) hF dX8_erase_37 (by decide) ?_
    refine x_iload_n hF dX8_erase_38 rfl rfl ?_
    refine x_imul hF dX8_erase_39 ?_
    refine x_iadd hF dX8_erase_40 ?_
    refine x_istore_n [(2, _), (0, _), (1, _)] hF hN dX8_erase_41 rfl (by decide) rfl ?_
    obtain ⟨b9, S10, hlb9, h⟩ := ob_some h
    refine x_sub (xX8_erase_42L hF hN hR (K := fun bb SS => bb = b9 ∧ SS = S10) ?_ hlb9 ⟨rfl, rfl⟩) ⟨rfl, rfl, trivial⟩
    rintro _ _ ⟨_, rfl⟩
    refine x_aload_n hF dX8_erase_76 rfl rfl ?_
    refine x_getr hF sh75 0 rfl ck7 (by decide) (by decide) tw_1042 rfl dX8_erase_77 ?_
    refine x_iconst (v := (0 : Int32)) hF dX8_erase_80 (by decide) ?_
    refine x_iald (j := 0) hF sh76 (by decide) (by decide) (by decide) dX8_erase_81 ?_
    obtain ⟨rfl, rfl⟩ := sm h
    exact hret _ _ _ _ hk dX8_erase_82
  · have h := oi_neg hc h
    refine x_iconst (v := (0 : Int32)) hF dX8_erase_20 (by decide) ?_
    obtain ⟨rfl, rfl⟩ := sm h
    exact hret _ _ _ _ hk dX8_erase_21
noncomputable def X8_erase (x1 : Int32) (S : St) : Option (Int32 × St) :=
  ob (X8_isPacket x1 S) (fun r1 S2 => oi (r1 = 0) (X8_erase_14 x1 (1 : Int32) S2) (X8_erase_14 x1 (0 : Int32) S2))
set_option maxHeartbeats 4000000 in
set_option maxRecDepth 20000 in
theorem ctX8_erase {l : Launch} {G : Ga} {x1 : Int32} (hl : l.stackTraces = false) {S : St} {r : Int32} {S1 : St} (h : X8_erase x1 S = some (r, S1)) : CT l G 2 yX8_erase cX8_erase 3 (some .int) [.ref (G.1 75), .int x1] S (some (.int r)) S1 := by
  refine ct_of hl (by decide) (Nat.le_of_ble_eq_true rfl) (fun F hFl hFG hF hN hR hret => ?_)
  subst hFl hFG
  show X F 0 0 [(0, .ref (gA F 75)), (1, .int x1)] [] S
  have hret : ∀ (v : Int32) (S : St) (pc : Nat) (ls : List (Nat × Value)), (v = r ∧ S = S1) → decode cX8_erase pc = .ok (.ireturn, 1) → X F 0 pc ls [.int v] S := fun v S2 pc ls hq hd => by obtain ⟨rfl, rfl⟩ := hq; exact hret.1 pc ls v rfl rfl hd
  have hk : r = r ∧ S1 = S1 := ⟨rfl, rfl⟩
  unfold X8_erase at h
  refine x_aload_n hF dX8_erase_0 rfl rfl ?_
  refine x_aload_n hF dX8_erase_1 rfl rfl ?_
  refine x_iload_n hF dX8_erase_2 rfl rfl ?_
  obtain ⟨r1, S2, hcall, h⟩ := ob_some h
  refine x_cVi hF hN hR (ctX8_isPacket hF.tr hcall) mwX8_isPacket miX8_isPacket sh75 ck7 (by decide) tw_1174 ⟨by decide, by decide⟩ rfl rfl (Nat.le_of_ble_eq_true rfl) dX8_erase_3 ?_
  refine x_if_eq (tgt := 13) hF dX8_erase_6 (by decide) (fun hc => ?_) (fun hc => ?_)
  · have h := oi_pos hc h
    refine x_iconst (v := (1 : Int32)) hF dX8_erase_13 (by decide) ?_
    exact x_sub (xX8_erase_14 hF hN hR (K := fun v9 S9 => v9 = r ∧ S9 = S1) hret h hk) ⟨rfl, rfl, trivial⟩
  · have h := oi_neg hc h
    refine x_iconst (v := (0 : Int32)) hF dX8_erase_9 (by decide) ?_
    refine x_goto (tgt := 14) hF dX8_erase_10 (by decide) ?_
    exact x_sub (xX8_erase_14 hF hN hR (K := fun v9 S9 => v9 = r ∧ S9 = S1) hret h hk) ⟨rfl, rfl, trivial⟩
noncomputable def X8_packets (S : St) : Option (Int32 × St) :=
  ol (si S 75 3 (0 : Int32)) (fun T1 => some ((gi T1 76 0), T1))
set_option maxHeartbeats 4000000 in
set_option maxRecDepth 20000 in
theorem ctX8_packets {l : Launch} {G : Ga} (hl : l.stackTraces = false) {S : St} {r : Int32} {S1 : St} (h : X8_packets  S = some (r, S1)) : CT l G 0 yX8_packets cX8_packets 1 (some .int) [.ref (G.1 75)] S (some (.int r)) S1 := by
  refine ct_of hl (by decide) (Nat.le_of_ble_eq_true rfl) (fun F hFl hFG hF hN hR hret => ?_)
  subst hFl hFG
  show X F 0 0 [(0, .ref (gA F 75))] [] S
  have hret : ∀ (v : Int32) (S : St) (pc : Nat) (ls : List (Nat × Value)), (v = r ∧ S = S1) → decode cX8_packets pc = .ok (.ireturn, 1) → X F 0 pc ls [.int v] S := fun v S2 pc ls hq hd => by obtain ⟨rfl, rfl⟩ := hq; exact hret.1 pc ls v rfl rfl hd
  have hk : r = r ∧ S1 = S1 := ⟨rfl, rfl⟩
  unfold X8_packets at h
  refine x_aload_n hF dX8_packets_0 rfl rfl ?_
  refine x_iconst (v := (0 : Int32)) hF dX8_packets_1 (by decide) ?_
  obtain ⟨T1, eT1, h⟩ := ol_some h
  refine x_puti hF sh75 3 rfl ck7 (by decide) (by decide) tw_1045 rfl rfl rfl rfl rfl eT1 dX8_packets_2 ?_
  refine x_aload_n hF dX8_packets_5 rfl rfl ?_
  refine x_getr hF sh75 0 rfl ck7 (by decide) (by decide) tw_1042 rfl dX8_packets_6 ?_
  refine x_iconst (v := (0 : Int32)) hF dX8_packets_9 (by decide) ?_
  refine x_iald (j := 0) hF sh76 (by decide) (by decide) (by decide) dX8_packets_10 ?_
  obtain ⟨rfl, rfl⟩ := sm h
  exact hret _ _ _ _ hk dX8_packets_11
noncomputable def X8_packet_27 (x1 : Int32) (x2 : Int32) (z1 : Int32) (S : St) : Option (Int32 × St) :=
  ob (X8_refuses z1 S) (fun r5 S6 => oi (r5 = 0) (ob (X8_of x1 x2 S6) (fun r7 S8 => some (r7, S8))) (some ((0 : Int32), S6)))
set_option maxHeartbeats 4000000 in
set_option maxRecDepth 20000 in
theorem xX8_packet_27 {F : Cx} (hF : Ok F cX8_packet RX8) (hN : nLF F 3) (hR : RmF F 2 0) {x1 : Int32} {x2 : Int32} {z1 : Int32} {K : Int32 → St → Prop} (hret : ∀ (v : Int32) (S : St) (pc : Nat) (ls : List (Nat × Value)), K v S → decode cX8_packet pc = .ok (.ireturn, 1) → X F 0 pc ls [.int v] S) {S : St} {r : Int32} {S1 : St} (h : X8_packet_27 x1 x2 z1 S = some (r, S1)) (hk : K r S1) : X F 0 27 [(0, .ref (gA F 75)), (1, .int x1), (2, .int x2)] [.int z1, .ref (gA F 75)] S := by
  unfold X8_packet_27 at h
  obtain ⟨r5, S6, hcall, h⟩ := ob_some h
  refine x_cVi hF hN hR (ctX8_refuses hF.tr hcall) mwX8_refuses miX8_refuses sh75 ck7 (by decide) tw_1154 ⟨by decide, by decide⟩ rfl rfl (Nat.le_of_ble_eq_true rfl) dX8_packet_27 ?_
  refine x_if_eq (tgt := 37) hF dX8_packet_30 (by decide) (fun hc => ?_) (fun hc => ?_)
  · have h := oi_pos hc h
    refine x_aload_n hF dX8_packet_37 rfl rfl ?_
    refine x_iload_n hF dX8_packet_38 rfl rfl ?_
    refine x_iload_n hF dX8_packet_39 rfl rfl ?_
    obtain ⟨r7, S8, hcall, h⟩ := ob_some h
    refine x_cVi hF hN hR (ctX8_of hF.tr hcall) mwX8_of miX8_of sh75 ck7 (by decide) tw_1166 ⟨by decide, by decide⟩ rfl rfl (Nat.le_of_ble_eq_true rfl) dX8_packet_40 ?_
    obtain ⟨rfl, rfl⟩ := sm h
    exact hret _ _ _ _ hk dX8_packet_43
  · have h := oi_neg hc h
    refine x_iconst (v := (0 : Int32)) hF dX8_packet_33 (by decide) ?_
    refine x_goto (tgt := 43) hF dX8_packet_34 (by decide) ?_
    obtain ⟨rfl, rfl⟩ := sm h
    exact hret _ _ _ _ hk dX8_packet_43
noncomputable def X8_packet (x1 : Int32) (x2 : Int32) (S : St) : Option (Int32 × St) :=
  ob (X8_isPacket x1 S) (fun r1 S2 => oi (r1 = 0) (X8_packet_27 x1 x2 (1 : Int32) S2) (ob (X8_in x2 (0 : Int32) (2 : Int32) S2) (fun r3 S4 => oi (r3 = 0) (X8_packet_27 x1 x2 (2 : Int32) S4) (X8_packet_27 x1 x2 (0 : Int32) S4))))
set_option maxHeartbeats 4000000 in
set_option maxRecDepth 20000 in
theorem ctX8_packet {l : Launch} {G : Ga} {x1 : Int32} {x2 : Int32} (hl : l.stackTraces = false) {S : St} {r : Int32} {S1 : St} (h : X8_packet x1 x2 S = some (r, S1)) : CT l G 2 yX8_packet cX8_packet 3 (some .int) [.ref (G.1 75), .int x1, .int x2] S (some (.int r)) S1 := by
  refine ct_of hl (by decide) (Nat.le_of_ble_eq_true rfl) (fun F hFl hFG hF hN hR hret => ?_)
  subst hFl hFG
  show X F 0 0 [(0, .ref (gA F 75)), (1, .int x1), (2, .int x2)] [] S
  have hret : ∀ (v : Int32) (S : St) (pc : Nat) (ls : List (Nat × Value)), (v = r ∧ S = S1) → decode cX8_packet pc = .ok (.ireturn, 1) → X F 0 pc ls [.int v] S := fun v S2 pc ls hq hd => by obtain ⟨rfl, rfl⟩ := hq; exact hret.1 pc ls v rfl rfl hd
  have hk : r = r ∧ S1 = S1 := ⟨rfl, rfl⟩
  unfold X8_packet at h
  refine x_aload_n hF dX8_packet_0 rfl rfl ?_
  refine x_aload_n hF dX8_packet_1 rfl rfl ?_
  refine x_iload_n hF dX8_packet_2 rfl rfl ?_
  obtain ⟨r1, S2, hcall, h⟩ := ob_some h
  refine x_cVi hF hN hR (ctX8_isPacket hF.tr hcall) mwX8_isPacket miX8_isPacket sh75 ck7 (by decide) tw_1174 ⟨by decide, by decide⟩ rfl rfl (Nat.le_of_ble_eq_true rfl) dX8_packet_3 ?_
  refine x_if_ne (tgt := 13) hF dX8_packet_6 (by decide) (fun hc => ?_) (fun hc => ?_)
  · have h := oi_neg hc h
    refine x_iload_n hF dX8_packet_13 rfl rfl ?_
    refine x_iconst (v := (0 : Int32)) hF dX8_packet_14 (by decide) ?_
    refine x_iconst (v := (2 : Int32)) hF dX8_packet_15 (by decide) ?_
    obtain ⟨r3, S4, hcall, h⟩ := ob_some h
    refine x_cSi hF hN hR (ctX8_in hF.tr hcall) mwX8_in tw_1152 tw_1151 ⟨by decide, by decide⟩ rfl rfl (Nat.le_of_ble_eq_true rfl) dX8_packet_16 ?_
    refine x_if_eq (tgt := 26) hF dX8_packet_19 (by decide) (fun hc => ?_) (fun hc => ?_)
    · have h := oi_pos hc h
      refine x_iconst (v := (2 : Int32)) hF dX8_packet_26 (by decide) ?_
      exact x_sub (xX8_packet_27 hF hN hR (K := fun v9 S9 => v9 = r ∧ S9 = S1) hret h hk) ⟨rfl, rfl, rfl, trivial⟩
    · have h := oi_neg hc h
      refine x_iconst (v := (0 : Int32)) hF dX8_packet_22 (by decide) ?_
      refine x_goto (tgt := 27) hF dX8_packet_23 (by decide) ?_
      exact x_sub (xX8_packet_27 hF hN hR (K := fun v9 S9 => v9 = r ∧ S9 = S1) hret h hk) ⟨rfl, rfl, rfl, trivial⟩
  · have h := oi_pos hc h
    refine x_iconst (v := (1 : Int32)) hF dX8_packet_9 (by decide) ?_
    refine x_goto (tgt := 27) hF dX8_packet_10 (by decide) ?_
    exact x_sub (xX8_packet_27 hF hN hR (K := fun v9 S9 => v9 = r ∧ S9 = S1) hret h hk) ⟨rfl, rfl, rfl, trivial⟩
noncomputable def X8_least (x0 : Int32) (S : St) : Option (Int32 × St) :=
  oi (x0 = (121 : Int32)) (some ((1 : Int32), S)) (oi (x0 = (122 : Int32)) (some ((1 : Int32), S)) (oi (x0 = (125 : Int32)) (some ((1 : Int32), S)) (oi (x0 = (127 : Int32)) (some ((2 : Int32), S)) (some ((0 : Int32), S)))))
set_option maxHeartbeats 4000000 in
set_option maxRecDepth 20000 in
theorem ctX8_least {l : Launch} {G : Ga} {x0 : Int32} (hl : l.stackTraces = false) {S : St} {r : Int32} {S1 : St} (h : X8_least x0 S = some (r, S1)) : CT l G 0 yX8_least cX8_least 1 (some .int) [.int x0] S (some (.int r)) S1 := by
  refine ct_of hl (by decide) (Nat.le_of_ble_eq_true rfl) (fun F hFl hFG hF hN hR hret => ?_)
  subst hFl hFG
  show X F 0 0 [(0, .int x0)] [] S
  have hret : ∀ (v : Int32) (S : St) (pc : Nat) (ls : List (Nat × Value)), (v = r ∧ S = S1) → decode cX8_least pc = .ok (.ireturn, 1) → X F 0 pc ls [.int v] S := fun v S2 pc ls hq hd => by obtain ⟨rfl, rfl⟩ := hq; exact hret.1 pc ls v rfl rfl hd
  have hk : r = r ∧ S1 = S1 := ⟨rfl, rfl⟩
  unfold X8_least at h
  refine x_iload_n hF dX8_least_0 rfl rfl ?_
  refine x_bipush (v := (121 : Int32)) hF dX8_least_1 (by decide) ?_
  refine x_icmp_eq (tgt := 18) hF dX8_least_3 (by decide) (fun hc => ?_) (fun hc => ?_)
  · have h := oi_pos hc h
    refine x_iconst (v := (1 : Int32)) hF dX8_least_18 (by decide) ?_
    refine x_goto (tgt := 33) hF dX8_least_19 (by decide) ?_
    obtain ⟨rfl, rfl⟩ := sm h
    exact hret _ _ _ _ hk dX8_least_33
  · have h := oi_neg hc h
    refine x_iload_n hF dX8_least_6 rfl rfl ?_
    refine x_bipush (v := (122 : Int32)) hF dX8_least_7 (by decide) ?_
    refine x_icmp_eq (tgt := 18) hF dX8_least_9 (by decide) (fun hc => ?_) (fun hc => ?_)
    · have h := oi_pos hc h
      refine x_iconst (v := (1 : Int32)) hF dX8_least_18 (by decide) ?_
      refine x_goto (tgt := 33) hF dX8_least_19 (by decide) ?_
      obtain ⟨rfl, rfl⟩ := sm h
      exact hret _ _ _ _ hk dX8_least_33
    · have h := oi_neg hc h
      refine x_iload_n hF dX8_least_12 rfl rfl ?_
      refine x_bipush (v := (125 : Int32)) hF dX8_least_13 (by decide) ?_
      refine x_icmp_ne (tgt := 22) hF dX8_least_15 (by decide) (fun hc => ?_) (fun hc => ?_)
      · have h := oi_neg hc h
        refine x_iload_n hF dX8_least_22 rfl rfl ?_
        refine x_bipush (v := (127 : Int32)) hF dX8_least_23 (by decide) ?_
        refine x_icmp_ne (tgt := 32) hF dX8_least_25 (by decide) (fun hc => ?_) (fun hc => ?_)
        · have h := oi_neg hc h
          refine x_iconst (v := (0 : Int32)) hF dX8_least_32 (by decide) ?_
          obtain ⟨rfl, rfl⟩ := sm h
          exact hret _ _ _ _ hk dX8_least_33
        · have h := oi_pos hc h
          refine x_iconst (v := (2 : Int32)) hF dX8_least_28 (by decide) ?_
          refine x_goto (tgt := 33) hF dX8_least_29 (by decide) ?_
          obtain ⟨rfl, rfl⟩ := sm h
          exact hret _ _ _ _ hk dX8_least_33
      · have h := oi_pos hc h
        refine x_iconst (v := (1 : Int32)) hF dX8_least_18 (by decide) ?_
        refine x_goto (tgt := 33) hF dX8_least_19 (by decide) ?_
        obtain ⟨rfl, rfl⟩ := sm h
        exact hret _ _ _ _ hk dX8_least_33
noncomputable def X8_greatest (x0 : Int32) (S : St) : Option (Int32 × St) :=
  oi (x0 = (121 : Int32)) (some ((1000 : Int32), S)) (oi (x0 = (122 : Int32)) (some ((100 : Int32), S)) (oi (x0 = (123 : Int32)) (some ((4 : Int32), S)) (oi (x0 = (124 : Int32)) (some ((2 : Int32), S)) (oi (x0 = (125 : Int32)) (some ((16 : Int32), S)) (oi (x0 = (126 : Int32)) (some ((1000 : Int32), S)) (oi (x0 = (127 : Int32)) (some ((9 : Int32), S)) (some ((2 : Int32), S))))))))
set_option maxHeartbeats 4000000 in
set_option maxRecDepth 20000 in
theorem ctX8_greatest {l : Launch} {G : Ga} {x0 : Int32} (hl : l.stackTraces = false) {S : St} {r : Int32} {S1 : St} (h : X8_greatest x0 S = some (r, S1)) : CT l G 0 yX8_greatest cX8_greatest 1 (some .int) [.int x0] S (some (.int r)) S1 := by
  refine ct_of hl (by decide) (Nat.le_of_ble_eq_true rfl) (fun F hFl hFG hF hN hR hret => ?_)
  subst hFl hFG
  show X F 0 0 [(0, .int x0)] [] S
  have hret : ∀ (v : Int32) (S : St) (pc : Nat) (ls : List (Nat × Value)), (v = r ∧ S = S1) → decode cX8_greatest pc = .ok (.ireturn, 1) → X F 0 pc ls [.int v] S := fun v S2 pc ls hq hd => by obtain ⟨rfl, rfl⟩ := hq; exact hret.1 pc ls v rfl rfl hd
  have hk : r = r ∧ S1 = S1 := ⟨rfl, rfl⟩
  unfold X8_greatest at h
  refine x_iload_n hF dX8_greatest_0 rfl rfl ?_
  by_cases hc1 : x0 = (121 : Int32)
  · have h := oi_pos hc1 h
    refine x_tsIn (tgt := 44) (off := 43) hF dX8_greatest_1 hc1 (by decide) (by decide) (by decide) (by decide) ?_
    refine x_sipush (v := (1000 : Int32)) hF dX8_greatest_44 (by decide) ?_
    obtain ⟨rfl, rfl⟩ := sm h
    exact hret _ _ _ _ hk dX8_greatest_47
  have h := oi_neg hc1 h
  by_cases hc2 : x0 = (122 : Int32)
  · have h := oi_pos hc2 h
    refine x_tsIn (tgt := 48) (off := 47) hF dX8_greatest_1 hc2 (by decide) (by decide) (by decide) (by decide) ?_
    refine x_bipush (v := (100 : Int32)) hF dX8_greatest_48 (by decide) ?_
    obtain ⟨rfl, rfl⟩ := sm h
    exact hret _ _ _ _ hk dX8_greatest_50
  have h := oi_neg hc2 h
  by_cases hc3 : x0 = (123 : Int32)
  · have h := oi_pos hc3 h
    refine x_tsIn (tgt := 51) (off := 50) hF dX8_greatest_1 hc3 (by decide) (by decide) (by decide) (by decide) ?_
    refine x_iconst (v := (4 : Int32)) hF dX8_greatest_51 (by decide) ?_
    obtain ⟨rfl, rfl⟩ := sm h
    exact hret _ _ _ _ hk dX8_greatest_52
  have h := oi_neg hc3 h
  by_cases hc4 : x0 = (124 : Int32)
  · have h := oi_pos hc4 h
    refine x_tsIn (tgt := 59) (off := 58) hF dX8_greatest_1 hc4 (by decide) (by decide) (by decide) (by decide) ?_
    refine x_iconst (v := (2 : Int32)) hF dX8_greatest_59 (by decide) ?_
    obtain ⟨rfl, rfl⟩ := sm h
    exact hret _ _ _ _ hk dX8_greatest_60
  have h := oi_neg hc4 h
  by_cases hc5 : x0 = (125 : Int32)
  · have h := oi_pos hc5 h
    refine x_tsIn (tgt := 53) (off := 52) hF dX8_greatest_1 hc5 (by decide) (by decide) (by decide) (by decide) ?_
    refine x_bipush (v := (16 : Int32)) hF dX8_greatest_53 (by decide) ?_
    obtain ⟨rfl, rfl⟩ := sm h
    exact hret _ _ _ _ hk dX8_greatest_55
  have h := oi_neg hc5 h
  by_cases hc6 : x0 = (126 : Int32)
  · have h := oi_pos hc6 h
    refine x_tsIn (tgt := 44) (off := 43) hF dX8_greatest_1 hc6 (by decide) (by decide) (by decide) (by decide) ?_
    refine x_sipush (v := (1000 : Int32)) hF dX8_greatest_44 (by decide) ?_
    obtain ⟨rfl, rfl⟩ := sm h
    exact hret _ _ _ _ hk dX8_greatest_47
  have h := oi_neg hc6 h
  by_cases hc7 : x0 = (127 : Int32)
  · have h := oi_pos hc7 h
    refine x_tsIn (tgt := 56) (off := 55) hF dX8_greatest_1 hc7 (by decide) (by decide) (by decide) (by decide) ?_
    refine x_bipush (v := (9 : Int32)) hF dX8_greatest_56 (by decide) ?_
    obtain ⟨rfl, rfl⟩ := sm h
    exact hret _ _ _ _ hk dX8_greatest_58
  have h := oi_neg hc7 h
  refine x_tsOut (tgt := 59) hF dX8_greatest_1 (by have e121 := i32ne 121 (by decide) hc1; have e122 := i32ne 122 (by decide) hc2; have e123 := i32ne 123 (by decide) hc3; have e124 := i32ne 124 (by decide) hc4; have e125 := i32ne 125 (by decide) hc5; have e126 := i32ne 126 (by decide) hc6; have e127 := i32ne 127 (by decide) hc7; omega) (by decide) ?_
  refine x_iconst (v := (2 : Int32)) hF dX8_greatest_59 (by decide) ?_
  obtain ⟨rfl, rfl⟩ := sm h
  exact hret _ _ _ _ hk dX8_greatest_60
noncomputable def X8_fits (x0 : Int32) (x1 : Int32) (S : St) : Option (Int32 × St) :=
  ob (X8_least x0 S) (fun r1 S2 => ob (X8_greatest x0 S2) (fun r3 S4 => ob (X8_in x1 r1 r3 S4) (fun r5 S6 => og (isB r5) (some (r5, S6)))))
set_option maxHeartbeats 4000000 in
set_option maxRecDepth 20000 in
theorem ctX8_fits {l : Launch} {G : Ga} {x0 : Int32} {x1 : Int32} (hl : l.stackTraces = false) {S : St} {r : Int32} {S1 : St} (h : X8_fits x0 x1 S = some (r, S1)) : CT l G 1 yX8_fits cX8_fits 2 (some .boolean) [.int x0, .int x1] S (some (.int r)) S1 := by
  refine ct_of hl (by decide) (Nat.le_of_ble_eq_true rfl) (fun F hFl hFG hF hN hR hret => ?_)
  subst hFl hFG
  show X F 0 0 [(0, .int x0), (1, .int x1)] [] S
  have hret : ∀ (v : Int32) (S : St) (pc : Nat) (ls : List (Nat × Value)), isB v → (v = r ∧ S = S1) → decode cX8_fits pc = .ok (.ireturn, 1) → X F 0 pc ls [.int v] S := fun v S2 pc ls hb hq hd => by obtain ⟨rfl, rfl⟩ := hq; exact hret.2.1 pc ls v rfl hb rfl hd
  have hk : r = r ∧ S1 = S1 := ⟨rfl, rfl⟩
  unfold X8_fits at h
  refine x_iload_n hF dX8_fits_0 rfl rfl ?_
  refine x_iload_n hF dX8_fits_1 rfl rfl ?_
  obtain ⟨r1, S2, hcall, h⟩ := ob_some h
  refine x_cSi hF hN hR (ctX8_least hF.tr hcall) mwX8_least tw_1198 tw_1197 ⟨by decide, by decide⟩ rfl rfl (Nat.le_of_ble_eq_true rfl) dX8_fits_2 ?_
  refine x_iload_n hF dX8_fits_5 rfl rfl ?_
  obtain ⟨r3, S4, hcall, h⟩ := ob_some h
  refine x_cSi hF hN hR (ctX8_greatest hF.tr hcall) mwX8_greatest tw_1201 tw_1200 ⟨by decide, by decide⟩ rfl rfl (Nat.le_of_ble_eq_true rfl) dX8_fits_6 ?_
  obtain ⟨r5, S6, hcall, h⟩ := ob_some h
  refine x_cSi hF hN hR (ctX8_in hF.tr hcall) mwX8_in tw_1152 tw_1151 ⟨by decide, by decide⟩ rfl rfl (Nat.le_of_ble_eq_true rfl) dX8_fits_9 ?_
  obtain ⟨hg, h⟩ := og_some h
  obtain ⟨rfl, rfl⟩ := sm h
  exact hret _ _ _ _ hg hk dX8_fits_12
noncomputable def X8_becomes (x1 : Int32) (x2 : Int32) (S : St) : Option (Int32 × St) :=
  og (inb x1 135) (og (inb x1 135) (ol (si S 76 (ix x1) x2) (fun T1 => some ((gi S 76 (ix x1)), T1))))
set_option maxHeartbeats 4000000 in
set_option maxRecDepth 20000 in
theorem ctX8_becomes {l : Launch} {G : Ga} {x1 : Int32} {x2 : Int32} (hl : l.stackTraces = false) {S : St} {r : Int32} {S1 : St} (h : X8_becomes x1 x2 S = some (r, S1)) : CT l G 0 yX8_becomes cX8_becomes 4 (some .int) [.ref (G.1 75), .int x1, .int x2] S (some (.int r)) S1 := by
  refine ct_of hl (by decide) (Nat.le_of_ble_eq_true rfl) (fun F hFl hFG hF hN hR hret => ?_)
  subst hFl hFG
  show X F 0 0 [(0, .ref (gA F 75)), (1, .int x1), (2, .int x2)] [] S
  have hret : ∀ (v : Int32) (S : St) (pc : Nat) (ls : List (Nat × Value)), (v = r ∧ S = S1) → decode cX8_becomes pc = .ok (.ireturn, 1) → X F 0 pc ls [.int v] S := fun v S2 pc ls hq hd => by obtain ⟨rfl, rfl⟩ := hq; exact hret.1 pc ls v rfl rfl hd
  have hk : r = r ∧ S1 = S1 := ⟨rfl, rfl⟩
  unfold X8_becomes at h
  refine x_aload_n hF dX8_becomes_0 rfl rfl ?_
  refine x_getr hF sh75 0 rfl ck7 (by decide) (by decide) tw_1042 rfl dX8_becomes_1 ?_
  refine x_iload_n hF dX8_becomes_4 rfl rfl ?_
  obtain ⟨hg, h⟩ := og_some h
  refine x_iald hF sh76 (by decide) hg rfl dX8_becomes_5 ?_
  refine x_istore_n [(3, _), (0, _), (1, _), (2, _)] hF hN dX8_becomes_6 rfl (by decide) rfl ?_
  refine x_aload_n hF dX8_becomes_7 rfl rfl ?_
  refine x_getr hF sh75 0 rfl ck7 (by decide) (by decide) tw_1042 rfl dX8_becomes_8 ?_
  refine x_iload_n hF dX8_becomes_11 rfl rfl ?_
  refine x_iload_n hF dX8_becomes_12 rfl rfl ?_
  obtain ⟨hg, h⟩ := og_some h
  obtain ⟨T1, eT1, h⟩ := ol_some h
  refine x_iast hF sh76 (by decide) hg rfl eT1 dX8_becomes_13 ?_
  refine x_iload_n hF dX8_becomes_14 rfl rfl ?_
  obtain ⟨rfl, rfl⟩ := sm h
  exact hret _ _ _ _ hk dX8_becomes_15
noncomputable def X8_sets_14 (x1 : Int32) (x2 : Int32) (z1 : Int32) (S : St) : Option (Int32 × St) :=
  ob (X8_refuses z1 S) (fun r3 S4 => oi (r3 = 0) (ob (X8_keeps  S4) (fun r5 S6 => ob (X8_becomes x1 x2 S6) (fun r7 S8 => some (r7, S8)))) (some ((0 : Int32), S4)))
set_option maxHeartbeats 4000000 in
set_option maxRecDepth 20000 in
theorem xX8_sets_14 {F : Cx} (hF : Ok F cX8_sets RX8) (hN : nLF F 3) (hR : RmF F 2 0) {x1 : Int32} {x2 : Int32} {z1 : Int32} {K : Int32 → St → Prop} (hret : ∀ (v : Int32) (S : St) (pc : Nat) (ls : List (Nat × Value)), K v S → decode cX8_sets pc = .ok (.ireturn, 1) → X F 0 pc ls [.int v] S) {S : St} {r : Int32} {S1 : St} (h : X8_sets_14 x1 x2 z1 S = some (r, S1)) (hk : K r S1) : X F 0 14 [(0, .ref (gA F 75)), (1, .int x1), (2, .int x2)] [.int z1, .ref (gA F 75)] S := by
  unfold X8_sets_14 at h
  obtain ⟨r3, S4, hcall, h⟩ := ob_some h
  refine x_cVi hF hN hR (ctX8_refuses hF.tr hcall) mwX8_refuses miX8_refuses sh75 ck7 (by decide) tw_1154 ⟨by decide, by decide⟩ rfl rfl (Nat.le_of_ble_eq_true rfl) dX8_sets_14 ?_
  refine x_if_eq (tgt := 22) hF dX8_sets_17 (by decide) (fun hc => ?_) (fun hc => ?_)
  · have h := oi_pos hc h
    refine x_aload_n hF dX8_sets_22 rfl rfl ?_
    obtain ⟨r5, S6, hcall, h⟩ := ob_some h
    refine x_cVv hF hN hR (ctX8_keeps hF.tr hcall) mwX8_keeps miX8_keeps sh75 ck7 (by decide) tw_1158 ⟨by decide, by decide⟩ rfl rfl (Nat.le_of_ble_eq_true rfl) dX8_sets_23 ?_
    refine x_aload_n hF dX8_sets_26 rfl rfl ?_
    refine x_iload_n hF dX8_sets_27 rfl rfl ?_
    refine x_iload_n hF dX8_sets_28 rfl rfl ?_
    obtain ⟨r7, S8, hcall, h⟩ := ob_some h
    refine x_cVi hF hN hR (ctX8_becomes hF.tr hcall) mwX8_becomes miX8_becomes sh75 ck7 (by decide) tw_1203 ⟨by decide, by decide⟩ rfl rfl (Nat.le_of_ble_eq_true rfl) dX8_sets_29 ?_
    obtain ⟨rfl, rfl⟩ := sm h
    exact hret _ _ _ _ hk dX8_sets_32
  · have h := oi_neg hc h
    refine x_iconst (v := (0 : Int32)) hF dX8_sets_20 (by decide) ?_
    obtain ⟨rfl, rfl⟩ := sm h
    exact hret _ _ _ _ hk dX8_sets_21
noncomputable def X8_sets (x1 : Int32) (x2 : Int32) (S : St) : Option (Int32 × St) :=
  ob (X8_fits x1 x2 S) (fun r1 S2 => oi (r1 = 0) (X8_sets_14 x1 x2 (1 : Int32) S2) (X8_sets_14 x1 x2 (0 : Int32) S2))
set_option maxHeartbeats 4000000 in
set_option maxRecDepth 20000 in
theorem ctX8_sets {l : Launch} {G : Ga} {x1 : Int32} {x2 : Int32} (hl : l.stackTraces = false) {S : St} {r : Int32} {S1 : St} (h : X8_sets x1 x2 S = some (r, S1)) : CT l G 2 yX8_sets cX8_sets 3 (some .int) [.ref (G.1 75), .int x1, .int x2] S (some (.int r)) S1 := by
  refine ct_of hl (by decide) (Nat.le_of_ble_eq_true rfl) (fun F hFl hFG hF hN hR hret => ?_)
  subst hFl hFG
  show X F 0 0 [(0, .ref (gA F 75)), (1, .int x1), (2, .int x2)] [] S
  have hret : ∀ (v : Int32) (S : St) (pc : Nat) (ls : List (Nat × Value)), (v = r ∧ S = S1) → decode cX8_sets pc = .ok (.ireturn, 1) → X F 0 pc ls [.int v] S := fun v S2 pc ls hq hd => by obtain ⟨rfl, rfl⟩ := hq; exact hret.1 pc ls v rfl rfl hd
  have hk : r = r ∧ S1 = S1 := ⟨rfl, rfl⟩
  unfold X8_sets at h
  refine x_aload_n hF dX8_sets_0 rfl rfl ?_
  refine x_iload_n hF dX8_sets_1 rfl rfl ?_
  refine x_iload_n hF dX8_sets_2 rfl rfl ?_
  obtain ⟨r1, S2, hcall, h⟩ := ob_some h
  refine x_cSi hF hN hR (ctX8_fits hF.tr hcall) mwX8_fits tw_1195 tw_1194 ⟨by decide, by decide⟩ rfl rfl (Nat.le_of_ble_eq_true rfl) dX8_sets_3 ?_
  refine x_if_eq (tgt := 13) hF dX8_sets_6 (by decide) (fun hc => ?_) (fun hc => ?_)
  · have h := oi_pos hc h
    refine x_iconst (v := (1 : Int32)) hF dX8_sets_13 (by decide) ?_
    exact x_sub (xX8_sets_14 hF hN hR (K := fun v9 S9 => v9 = r ∧ S9 = S1) hret h hk) ⟨rfl, rfl, rfl, trivial⟩
  · have h := oi_neg hc h
    refine x_iconst (v := (0 : Int32)) hF dX8_sets_9 (by decide) ?_
    refine x_goto (tgt := 14) hF dX8_sets_10 (by decide) ?_
    exact x_sub (xX8_sets_14 hF hN hR (K := fun v9 S9 => v9 = r ∧ S9 = S1) hret h hk) ⟨rfl, rfl, rfl, trivial⟩
noncomputable def X8_setCapacity (x1 : Int32) (S : St) : Option (Int32 × St) :=
  ob (X8_sets (121 : Int32) x1 S) (fun r1 S2 => some (r1, S2))
set_option maxHeartbeats 4000000 in
set_option maxRecDepth 20000 in
theorem ctX8_setCapacity {l : Launch} {G : Ga} {x1 : Int32} (hl : l.stackTraces = false) {S : St} {r : Int32} {S1 : St} (h : X8_setCapacity x1 S = some (r, S1)) : CT l G 3 yX8_setCapacity cX8_setCapacity 2 (some .int) [.ref (G.1 75), .int x1] S (some (.int r)) S1 := by
  refine ct_of hl (by decide) (Nat.le_of_ble_eq_true rfl) (fun F hFl hFG hF hN hR hret => ?_)
  subst hFl hFG
  show X F 0 0 [(0, .ref (gA F 75)), (1, .int x1)] [] S
  have hret : ∀ (v : Int32) (S : St) (pc : Nat) (ls : List (Nat × Value)), (v = r ∧ S = S1) → decode cX8_setCapacity pc = .ok (.ireturn, 1) → X F 0 pc ls [.int v] S := fun v S2 pc ls hq hd => by obtain ⟨rfl, rfl⟩ := hq; exact hret.1 pc ls v rfl rfl hd
  have hk : r = r ∧ S1 = S1 := ⟨rfl, rfl⟩
  unfold X8_setCapacity at h
  refine x_aload_n hF dX8_setCapacity_0 rfl rfl ?_
  refine x_bipush (v := (121 : Int32)) hF dX8_setCapacity_1 (by decide) ?_
  refine x_iload_n hF dX8_setCapacity_3 rfl rfl ?_
  obtain ⟨r1, S2, hcall, h⟩ := ob_some h
  refine x_cVi hF hN hR (ctX8_sets hF.tr hcall) mwX8_sets miX8_sets sh75 ck7 (by decide) tw_1190 ⟨by decide, by decide⟩ rfl rfl (Nat.le_of_ble_eq_true rfl) dX8_setCapacity_4 ?_
  obtain ⟨rfl, rfl⟩ := sm h
  exact hret _ _ _ _ hk dX8_setCapacity_7
noncomputable def X8_setRate (x1 : Int32) (S : St) : Option (Int32 × St) :=
  ob (X8_sets (122 : Int32) x1 S) (fun r1 S2 => some (r1, S2))
set_option maxHeartbeats 4000000 in
set_option maxRecDepth 20000 in
theorem ctX8_setRate {l : Launch} {G : Ga} {x1 : Int32} (hl : l.stackTraces = false) {S : St} {r : Int32} {S1 : St} (h : X8_setRate x1 S = some (r, S1)) : CT l G 3 yX8_setRate cX8_setRate 2 (some .int) [.ref (G.1 75), .int x1] S (some (.int r)) S1 := by
  refine ct_of hl (by decide) (Nat.le_of_ble_eq_true rfl) (fun F hFl hFG hF hN hR hret => ?_)
  subst hFl hFG
  show X F 0 0 [(0, .ref (gA F 75)), (1, .int x1)] [] S
  have hret : ∀ (v : Int32) (S : St) (pc : Nat) (ls : List (Nat × Value)), (v = r ∧ S = S1) → decode cX8_setRate pc = .ok (.ireturn, 1) → X F 0 pc ls [.int v] S := fun v S2 pc ls hq hd => by obtain ⟨rfl, rfl⟩ := hq; exact hret.1 pc ls v rfl rfl hd
  have hk : r = r ∧ S1 = S1 := ⟨rfl, rfl⟩
  unfold X8_setRate at h
  refine x_aload_n hF dX8_setRate_0 rfl rfl ?_
  refine x_bipush (v := (122 : Int32)) hF dX8_setRate_1 (by decide) ?_
  refine x_iload_n hF dX8_setRate_3 rfl rfl ?_
  obtain ⟨r1, S2, hcall, h⟩ := ob_some h
  refine x_cVi hF hN hR (ctX8_sets hF.tr hcall) mwX8_sets miX8_sets sh75 ck7 (by decide) tw_1190 ⟨by decide, by decide⟩ rfl rfl (Nat.le_of_ble_eq_true rfl) dX8_setRate_4 ?_
  obtain ⟨rfl, rfl⟩ := sm h
  exact hret _ _ _ _ hk dX8_setRate_7
noncomputable def X8_setPolicy (x1 : Int32) (S : St) : Option (Int32 × St) :=
  ob (X8_sets (123 : Int32) x1 S) (fun r1 S2 => some (r1, S2))
set_option maxHeartbeats 4000000 in
set_option maxRecDepth 20000 in
theorem ctX8_setPolicy {l : Launch} {G : Ga} {x1 : Int32} (hl : l.stackTraces = false) {S : St} {r : Int32} {S1 : St} (h : X8_setPolicy x1 S = some (r, S1)) : CT l G 3 yX8_setPolicy cX8_setPolicy 2 (some .int) [.ref (G.1 75), .int x1] S (some (.int r)) S1 := by
  refine ct_of hl (by decide) (Nat.le_of_ble_eq_true rfl) (fun F hFl hFG hF hN hR hret => ?_)
  subst hFl hFG
  show X F 0 0 [(0, .ref (gA F 75)), (1, .int x1)] [] S
  have hret : ∀ (v : Int32) (S : St) (pc : Nat) (ls : List (Nat × Value)), (v = r ∧ S = S1) → decode cX8_setPolicy pc = .ok (.ireturn, 1) → X F 0 pc ls [.int v] S := fun v S2 pc ls hq hd => by obtain ⟨rfl, rfl⟩ := hq; exact hret.1 pc ls v rfl rfl hd
  have hk : r = r ∧ S1 = S1 := ⟨rfl, rfl⟩
  unfold X8_setPolicy at h
  refine x_aload_n hF dX8_setPolicy_0 rfl rfl ?_
  refine x_bipush (v := (123 : Int32)) hF dX8_setPolicy_1 (by decide) ?_
  refine x_iload_n hF dX8_setPolicy_3 rfl rfl ?_
  obtain ⟨r1, S2, hcall, h⟩ := ob_some h
  refine x_cVi hF hN hR (ctX8_sets hF.tr hcall) mwX8_sets miX8_sets sh75 ck7 (by decide) tw_1190 ⟨by decide, by decide⟩ rfl rfl (Nat.le_of_ble_eq_true rfl) dX8_setPolicy_4 ?_
  obtain ⟨rfl, rfl⟩ := sm h
  exact hret _ _ _ _ hk dX8_setPolicy_7
noncomputable def X8_setScheduler (x1 : Int32) (S : St) : Option (Int32 × St) :=
  ob (X8_sets (124 : Int32) x1 S) (fun r1 S2 => some (r1, S2))
set_option maxHeartbeats 4000000 in
set_option maxRecDepth 20000 in
theorem ctX8_setScheduler {l : Launch} {G : Ga} {x1 : Int32} (hl : l.stackTraces = false) {S : St} {r : Int32} {S1 : St} (h : X8_setScheduler x1 S = some (r, S1)) : CT l G 3 yX8_setScheduler cX8_setScheduler 2 (some .int) [.ref (G.1 75), .int x1] S (some (.int r)) S1 := by
  refine ct_of hl (by decide) (Nat.le_of_ble_eq_true rfl) (fun F hFl hFG hF hN hR hret => ?_)
  subst hFl hFG
  show X F 0 0 [(0, .ref (gA F 75)), (1, .int x1)] [] S
  have hret : ∀ (v : Int32) (S : St) (pc : Nat) (ls : List (Nat × Value)), (v = r ∧ S = S1) → decode cX8_setScheduler pc = .ok (.ireturn, 1) → X F 0 pc ls [.int v] S := fun v S2 pc ls hq hd => by obtain ⟨rfl, rfl⟩ := hq; exact hret.1 pc ls v rfl rfl hd
  have hk : r = r ∧ S1 = S1 := ⟨rfl, rfl⟩
  unfold X8_setScheduler at h
  refine x_aload_n hF dX8_setScheduler_0 rfl rfl ?_
  refine x_bipush (v := (124 : Int32)) hF dX8_setScheduler_1 (by decide) ?_
  refine x_iload_n hF dX8_setScheduler_3 rfl rfl ?_
  obtain ⟨r1, S2, hcall, h⟩ := ob_some h
  refine x_cVi hF hN hR (ctX8_sets hF.tr hcall) mwX8_sets miX8_sets sh75 ck7 (by decide) tw_1190 ⟨by decide, by decide⟩ rfl rfl (Nat.le_of_ble_eq_true rfl) dX8_setScheduler_4 ?_
  obtain ⟨rfl, rfl⟩ := sm h
  exact hret _ _ _ _ hk dX8_setScheduler_7
