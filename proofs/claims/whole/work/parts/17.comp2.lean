noncomputable def X3_noteDrop (k : Nat) (x1 : Int32) (S : St) : Option (Unit × St) :=
  oi (x1 < 0) (some ((), S)) (oi ((gi S k 1) ≤ x1) (some ((), S)) (oi ((40 : Int32) ≤ (gi S k 3)) (some ((), S)) (og (inb x1 40) (ol (si S (k + 1) (ix x1) (-2 : Int32)) (fun T1 => og (inb (gi T1 k 3) 40) (ol (si T1 (k + 2) (ix (gi T1 k 3)) x1) (fun T2 => ol (si T2 k 3 ((gi T2 k 3) + (1 : Int32))) (fun T3 => some ((), T3)))))))))
set_option maxHeartbeats 4000000 in
set_option maxRecDepth 20000 in
theorem ctX3_noteDrop {l : Launch} {G : Ga} {k : Nat} (ik : isOutcome k) {x1 : Int32} (hl : l.stackTraces = false) {S : St} {r : Unit} {S1 : St} (h : X3_noteDrop k x1 S = some (r, S1)) : CT l G 0 yX3_noteDrop cX3_noteDrop 2 none [.ref (G.1 k), .int x1] S none S1 := by
  refine ct_of hl (by decide) (Nat.le_of_ble_eq_true rfl) (fun F hFl hFG hF hN hR hret => ?_)
  subst hFl hFG
  show X F 0 0 [(0, .ref (gA F k)), (1, .int x1)] [] S
  have hret : ∀ (v : Unit) (S : St) (pc : Nat) (ls : List (Nat × Value)), (v = r ∧ S = S1) → decode cX3_noteDrop pc = .ok (.return_, 1) → X F 0 pc ls [] S := fun v S2 pc ls hq hd => by obtain ⟨rfl, rfl⟩ := hq; exact hret.2.2.2.2.1 pc ls rfl rfl hd
  have hk : r = r ∧ S1 = S1 := ⟨rfl, rfl⟩
  unfold X3_noteDrop at h
  refine x_iload_n hF dX3_noteDrop_0 rfl rfl ?_
  refine x_if_lt (tgt := 49) hF dX3_noteDrop_1 (by decide) (fun hc => ?_) (fun hc => ?_)
  · have h := oi_pos hc h
    obtain ⟨rfl, rfl⟩ := sm h
    exact hret _ _ _ _ hk dX3_noteDrop_49
  · have h := oi_neg hc h
    refine x_iload_n hF dX3_noteDrop_4 rfl rfl ?_
    refine x_aload_n hF dX3_noteDrop_5 rfl rfl ?_
    refine x_geti hF (shOutcome_0 ik) 1 rfl ck2 (ltOutcome_0 ik) (by decide) tw_178 rfl dX3_noteDrop_6 ?_
    refine x_icmp_ge (tgt := 49) hF dX3_noteDrop_9 (by decide) (fun hc => ?_) (fun hc => ?_)
    · have h := oi_pos hc h
      obtain ⟨rfl, rfl⟩ := sm h
      exact hret _ _ _ _ hk dX3_noteDrop_49
    · have h := oi_neg hc h
      refine x_aload_n hF dX3_noteDrop_12 rfl rfl ?_
      refine x_geti hF (shOutcome_0 ik) 3 rfl ck2 (ltOutcome_0 ik) (by decide) tw_181 rfl dX3_noteDrop_13 ?_
      refine x_bipush (v := (40 : Int32)) hF dX3_noteDrop_16 (by decide) ?_
      refine x_icmp_ge (tgt := 49) hF dX3_noteDrop_18 (by decide) (fun hc => ?_) (fun hc => ?_)
      · have h := oi_pos hc h
        obtain ⟨rfl, rfl⟩ := sm h
        exact hret _ _ _ _ hk dX3_noteDrop_49
      · have h := oi_neg hc h
        refine x_aload_n hF dX3_noteDrop_21 rfl rfl ?_
        refine x_getr hF (shOutcome_0 ik) 2 rfl ck2 (ltOutcome_0 ik) (by decide) tw_179 rfl dX3_noteDrop_22 ?_
        refine x_iload_n hF dX3_noteDrop_25 rfl rfl ?_
        refine x_bipush (v := (-2 : Int32)) hF dX3_noteDrop_26 (by decide) ?_
        obtain ⟨hg, h⟩ := og_some h
        obtain ⟨T1, eT1, h⟩ := ol_some h
        refine x_iast hF (shOutcome_1 ik) (ltOutcome_1 ik) hg rfl eT1 dX3_noteDrop_28 ?_
        refine x_aload_n hF dX3_noteDrop_29 rfl rfl ?_
        refine x_getr hF (shOutcome_0 ik) 4 rfl ck2 (ltOutcome_0 ik) (by decide) tw_183 rfl dX3_noteDrop_30 ?_
        refine x_aload_n hF dX3_noteDrop_33 rfl rfl ?_
        refine x_geti hF (shOutcome_0 ik) 3 rfl ck2 (ltOutcome_0 ik) (by decide) tw_181 rfl dX3_noteDrop_34 ?_
        refine x_iload_n hF dX3_noteDrop_37 rfl rfl ?_
        obtain ⟨hg, h⟩ := og_some h
        obtain ⟨T2, eT2, h⟩ := ol_some h
        refine x_iast hF (shOutcome_2 ik) (ltOutcome_2 ik) hg rfl eT2 dX3_noteDrop_38 ?_
        refine x_aload_n hF dX3_noteDrop_39 rfl rfl ?_
        refine x_dup hF dX3_noteDrop_40 rfl ?_
        refine x_geti hF (shOutcome_0 ik) 3 rfl ck2 (ltOutcome_0 ik) (by decide) tw_181 rfl dX3_noteDrop_41 ?_
        refine x_iconst (v := (1 : Int32)) hF dX3_noteDrop_44 (by decide) ?_
        refine x_iadd hF dX3_noteDrop_45 ?_
        obtain ⟨T3, eT3, h⟩ := ol_some h
        refine x_puti hF (shOutcome_0 ik) 3 rfl ck2 (ltOutcome_0 ik) (by decide) tw_181 rfl rfl rfl rfl rfl eT3 dX3_noteDrop_46 ?_
        obtain ⟨rfl, rfl⟩ := sm h
        exact hret _ _ _ _ hk dX3_noteDrop_49
noncomputable def X7_quotient (x0 : Int32) (x1 : Int32) (S : St) : Option (Int32 × St) :=
  oi (x1 ≤ 0) (some ((0 : Int32), S)) (og (¬ x1 = 0) (some ((x0 / x1), S)))
set_option maxHeartbeats 4000000 in
set_option maxRecDepth 20000 in
theorem ctX7_quotient {l : Launch} {G : Ga} {x0 : Int32} {x1 : Int32} (hl : l.stackTraces = false) {S : St} {r : Int32} {S1 : St} (h : X7_quotient x0 x1 S = some (r, S1)) : CT l G 0 yX7_quotient cX7_quotient 2 (some .int) [.int x0, .int x1] S (some (.int r)) S1 := by
  refine ct_of hl (by decide) (Nat.le_of_ble_eq_true rfl) (fun F hFl hFG hF hN hR hret => ?_)
  subst hFl hFG
  show X F 0 0 [(0, .int x0), (1, .int x1)] [] S
  have hret : ∀ (v : Int32) (S : St) (pc : Nat) (ls : List (Nat × Value)), (v = r ∧ S = S1) → decode cX7_quotient pc = .ok (.ireturn, 1) → X F 0 pc ls [.int v] S := fun v S2 pc ls hq hd => by obtain ⟨rfl, rfl⟩ := hq; exact hret.1 pc ls v rfl rfl hd
  have hk : r = r ∧ S1 = S1 := ⟨rfl, rfl⟩
  unfold X7_quotient at h
  refine x_iload_n hF dX7_quotient_0 rfl rfl ?_
  refine x_if_le (tgt := 10) hF dX7_quotient_1 (by decide) (fun hc => ?_) (fun hc => ?_)
  · have h := oi_pos hc h
    refine x_iconst (v := (0 : Int32)) hF dX7_quotient_10 (by decide) ?_
    obtain ⟨rfl, rfl⟩ := sm h
    exact hret _ _ _ _ hk dX7_quotient_11
  · have h := oi_neg hc h
    refine x_iload_n hF dX7_quotient_4 rfl rfl ?_
    refine x_iload_n hF dX7_quotient_5 rfl rfl ?_
    obtain ⟨hg, h⟩ := og_some h
    refine x_idiv hF dX7_quotient_6 hg ?_
    refine x_goto (tgt := 11) hF dX7_quotient_7 (by decide) ?_
    obtain ⟨rfl, rfl⟩ := sm h
    exact hret _ _ _ _ hk dX7_quotient_11
noncomputable def X5_bytesForThreshold_5 (k : Nat) (x1 : Int32) (x3 : Int32) (x4 : Int32) (S : St) : Option (((Int32 × Int32) ⊕ Int32) × St) :=
  oi ((gi S (k + 6) 0) ≤ x4) (some (.inr x3, S)) (og (inb x4 40) (og (inb (gi S (k + 7) (ix x4)) 40) (oi ((gi S 3 (ix (gi S (k + 7) (ix x4)))) = x1) (og (inb (gi S (k + 7) (ix x4)) 40) (some (.inl ((x3 + (gi S (k + 8) (ix (gi S (k + 7) (ix x4))))), (x4 + (1 : Int32))), S))) (some (.inl (x3, (x4 + (1 : Int32))), S)))))
set_option maxHeartbeats 4000000 in
set_option maxRecDepth 20000 in
theorem xX5_bytesForThreshold_5 {F : Cx} {k : Nat} (ik : isReplayer k) (hF : Ok F cX5_bytesForThreshold RX5) (hN : nLF F 6) (hR : RmF F 1 0) {x1 : Int32} {x3 : Int32} {x4 : Int32} {K : ((Int32 × Int32) ⊕ Int32) → St → Prop} (hag : ∀ (a : Int32 × Int32) (S : St), K (.inl a) S → X F 0 5 [(0, .ref (gA F k)), (1, .int x1), (3, .int a.1), (4, .int a.2)] [] S) (hex62 : ∀ (q : Int32) (S : St), K (.inr q) S → X F 0 62 [(0, .ref (gA F k)), (3, .int q)] [] S) {S : St} {r : (Int32 × Int32) ⊕ Int32} {S1 : St} (h : X5_bytesForThreshold_5 k x1 x3 x4 S = some (r, S1)) (hk : K r S1) : X F 0 5 [(0, .ref (gA F k)), (1, .int x1), (3, .int x3), (4, .int x4)] [] S := by
  unfold X5_bytesForThreshold_5 at h
  refine x_iload hF dX5_bytesForThreshold_5 rfl ?_
  refine x_aload_n hF dX5_bytesForThreshold_7 rfl rfl ?_
  refine x_getr hF (shReplayer_0 ik) 2 rfl ck4 (ltReplayer_0 ik) (by decide) tw_237 rfl dX5_bytesForThreshold_8 ?_
  refine x_geti hF (shReplayer_6 ik) 0 rfl ck1 (ltReplayer_6 ik) (by decide) tw_214 rfl dX5_bytesForThreshold_11 ?_
  refine x_icmp_ge (tgt := 62) hF dX5_bytesForThreshold_14 (by decide) (fun hc => ?_) (fun hc => ?_)
  · have h := oi_pos hc h
    obtain ⟨rfl, rfl⟩ := sm h
    exact x_sub (hex62 _ _ hk) ⟨rfl, rfl, trivial⟩
  · have h := oi_neg hc h
    refine x_aload_n hF dX5_bytesForThreshold_17 rfl rfl ?_
    refine x_getr hF (shReplayer_0 ik) 2 rfl ck4 (ltReplayer_0 ik) (by decide) tw_237 rfl dX5_bytesForThreshold_18 ?_
    refine x_getr hF (shReplayer_6 ik) 1 rfl ck1 (ltReplayer_6 ik) (by decide) tw_216 rfl dX5_bytesForThreshold_21 ?_
    refine x_iload hF dX5_bytesForThreshold_24 rfl ?_
    obtain ⟨hg, h⟩ := og_some h
    refine x_iald hF (shReplayer_7 ik) (ltReplayer_7 ik) hg rfl dX5_bytesForThreshold_26 ?_
    refine x_istore [(5, _), (0, _), (1, _), (3, _), (4, _)] hF hN dX5_bytesForThreshold_27 (by decide) rfl ?_
    refine x_aload_n hF dX5_bytesForThreshold_29 rfl rfl ?_
    refine x_getr hF (shReplayer_0 ik) 0 rfl ck4 (ltReplayer_0 ik) (by decide) tw_234 rfl dX5_bytesForThreshold_30 ?_
    refine x_getr hF sh1 2 rfl ck3 (by decide) (by decide) tw_125 rfl dX5_bytesForThreshold_33 ?_
    refine x_iload hF dX5_bytesForThreshold_36 rfl ?_
    obtain ⟨hg, h⟩ := og_some h
    refine x_iald hF sh3 (by decide) hg rfl dX5_bytesForThreshold_38 ?_
    refine x_iload_n hF dX5_bytesForThreshold_39 rfl rfl ?_
    refine x_icmp_ne (tgt := 56) hF dX5_bytesForThreshold_40 (by decide) (fun hc => ?_) (fun hc => ?_)
    · have h := oi_neg hc h
      refine x_iinc [(4, _), (5, _), (0, _), (1, _), (3, _)] (v := (1 : Int32)) hF hN dX5_bytesForThreshold_56 rfl (by decide) (by decide) rfl ?_
      refine x_goto (tgt := 5) hF dX5_bytesForThreshold_59 (by decide) ?_
      obtain ⟨rfl, rfl⟩ := sm h
      exact x_sub (hag _ _ hk) ⟨rfl, rfl, rfl, rfl, trivial⟩
    · have h := oi_pos hc h
      refine x_iload_n hF dX5_bytesForThreshold_43 rfl rfl ?_
      refine x_aload_n hF dX5_bytesForThreshold_44 rfl rfl ?_
      refine x_getr hF (shReplayer_0 ik) 2 rfl ck4 (ltReplayer_0 ik) (by decide) tw_237 rfl dX5_bytesForThreshold_45 ?_
      refine x_getr hF (shReplayer_6 ik) 2 rfl ck1 (ltReplayer_6 ik) (by decide) tw_218 rfl dX5_bytesForThreshold_48 ?_
      refine x_iload hF dX5_bytesForThreshold_51 rfl ?_
      obtain ⟨hg, h⟩ := og_some h
      refine x_iald hF (shReplayer_8 ik) (ltReplayer_8 ik) hg rfl dX5_bytesForThreshold_53 ?_
      refine x_iadd hF dX5_bytesForThreshold_54 ?_
      refine x_istore_n [(3, _), (5, _), (0, _), (1, _), (4, _)] hF hN dX5_bytesForThreshold_55 rfl (by decide) rfl ?_
      refine x_iinc [(4, _), (3, _), (5, _), (0, _), (1, _)] (v := (1 : Int32)) hF hN dX5_bytesForThreshold_56 rfl (by decide) (by decide) rfl ?_
      refine x_goto (tgt := 5) hF dX5_bytesForThreshold_59 (by decide) ?_
      obtain ⟨rfl, rfl⟩ := sm h
      exact x_sub (hag _ _ hk) ⟨rfl, rfl, rfl, rfl, trivial⟩
noncomputable def X5_bytesForThreshold_5L (k : Nat) (x1 : Int32) (a : Int32 × Int32) (S : St) : Option (Int32 × St) :=
  lp (fun (a : Int32 × Int32) (S : St) => X5_bytesForThreshold_5 k x1 a.1 a.2 S) a S
theorem xX5_bytesForThreshold_5L {F : Cx} {k : Nat} (ik : isReplayer k) (hF : Ok F cX5_bytesForThreshold RX5) (hN : nLF F 6) (hR : RmF F 1 0) {x1 : Int32} {K : Int32 → St → Prop} (hex62 : ∀ (q : Int32) (S : St), K (q) S → X F 0 62 [(0, .ref (gA F k)), (3, .int q)] [] S) {a : Int32 × Int32} {S : St} {b : Int32} {S1 : St} (h : X5_bytesForThreshold_5L k x1 a S = some (b, S1)) (hk : K b S1) : X F 0 5 [(0, .ref (gA F k)), (1, .int x1), (3, .int a.1), (4, .int a.2)] [] S := by
  unfold X5_bytesForThreshold_5L at h
  exact lp_rule (Xh := fun (a : Int32 × Int32) (S : St) => X F 0 5 [(0, .ref (gA F k)), (1, .int x1), (3, .int a.1), (4, .int a.2)] [] S) (K := K) (fun a S r S1 h hk => xX5_bytesForThreshold_5 ik hF hN hR (K := fun r S => match r with | .inl a => X F 0 5 [(0, .ref (gA F k)), (1, .int x1), (3, .int a.1), (4, .int a.2)] [] S | .inr b => K b S) (fun _ _ h => h) (fun q S h => hex62 q S h) h (by cases r <;> exact hk)) h hk
noncomputable def X5_bytesForThreshold (k : Nat) (x1 : Int32) (x2 : Int32) (S : St) : Option (Int32 × St) :=
  ob (X5_bytesForThreshold_5L k x1 (x2, (0 : Int32)) S) (fun b1 S2 => ob (X7_quotient ((((4 : Int32) * b1) + (gi S2 5 4)) - (1 : Int32)) (gi S2 5 4) S2) (fun r3 S4 => some (r3, S4)))
set_option maxHeartbeats 4000000 in
set_option maxRecDepth 20000 in
theorem ctX5_bytesForThreshold {l : Launch} {G : Ga} {k : Nat} (ik : isReplayer k) {x1 : Int32} {x2 : Int32} (hl : l.stackTraces = false) {S : St} {r : Int32} {S1 : St} (h : X5_bytesForThreshold k x1 x2 S = some (r, S1)) : CT l G 1 yX5_bytesForThreshold cX5_bytesForThreshold 6 (some .int) [.ref (G.1 k), .int x1, .int x2] S (some (.int r)) S1 := by
  refine ct_of hl (by decide) (Nat.le_of_ble_eq_true rfl) (fun F hFl hFG hF hN hR hret => ?_)
  subst hFl hFG
  show X F 0 0 [(0, .ref (gA F k)), (1, .int x1), (2, .int x2)] [] S
  have hret : ∀ (v : Int32) (S : St) (pc : Nat) (ls : List (Nat × Value)), (v = r ∧ S = S1) → decode cX5_bytesForThreshold pc = .ok (.ireturn, 1) → X F 0 pc ls [.int v] S := fun v S2 pc ls hq hd => by obtain ⟨rfl, rfl⟩ := hq; exact hret.1 pc ls v rfl rfl hd
  have hk : r = r ∧ S1 = S1 := ⟨rfl, rfl⟩
  unfold X5_bytesForThreshold at h
  refine x_iload_n hF dX5_bytesForThreshold_0 rfl rfl ?_
  refine x_istore_n [(3, _), (0, _), (1, _), (2, _)] hF hN dX5_bytesForThreshold_1 rfl (by decide) rfl ?_
  refine x_iconst (v := (0 : Int32)) hF dX5_bytesForThreshold_2 (by decide) ?_
  refine x_istore [(4, _), (3, _), (0, _), (1, _), (2, _)] hF hN dX5_bytesForThreshold_3 (by decide) rfl ?_
  obtain ⟨b1, S2, hlb1, h⟩ := ob_some h
  refine x_sub (xX5_bytesForThreshold_5L ik hF hN hR (K := fun bb SS => bb = b1 ∧ SS = S2) ?_ hlb1 ⟨rfl, rfl⟩) ⟨rfl, rfl, rfl, rfl, trivial⟩
  rintro _ _ ⟨rfl, rfl⟩
  refine x_aload_n hF dX5_bytesForThreshold_62 rfl rfl ?_
  refine x_getr hF (shReplayer_0 ik) 0 rfl ck4 (ltReplayer_0 ik) (by decide) tw_234 rfl dX5_bytesForThreshold_63 ?_
  refine x_getr hF sh1 4 rfl ck3 (by decide) (by decide) tw_131 rfl dX5_bytesForThreshold_66 ?_
  refine x_iconst (v := (4 : Int32)) hF dX5_bytesForThreshold_69 (by decide) ?_
  refine x_iald (j := 4) hF sh5 (by decide) (by decide) (by decide) dX5_bytesForThreshold_70 ?_
  refine x_istore [(4, _), (0, _), (3, _)] hF hN dX5_bytesForThreshold_71 (by decide) rfl ?_
  refine x_iconst (v := (4 : Int32)) hF dX5_bytesForThreshold_73 (by decide) ?_
  refine x_iload_n hF dX5_bytesForThreshold_74 rfl rfl ?_
  refine x_imul hF dX5_bytesForThreshold_75 ?_
  refine x_iload hF dX5_bytesForThreshold_76 rfl ?_
  refine x_iadd hF dX5_bytesForThreshold_78 ?_
  refine x_iconst (v := (1 : Int32)) hF dX5_bytesForThreshold_79 (by decide) ?_
  refine x_isub hF dX5_bytesForThreshold_80 ?_
  refine x_iload hF dX5_bytesForThreshold_81 rfl ?_
  obtain ⟨r3, S4, hcall, h⟩ := ob_some h
  refine x_cSN hF hN hR (ctX7_quotient hF.tr hcall) mwX7_quotient tw_425 (List.mem_of_getElem? (i := 6) rfl) ⟨by decide, by decide⟩ rfl rfl (Nat.le_of_ble_eq_true rfl) dX5_bytesForThreshold_83 ?_
  obtain ⟨rfl, rfl⟩ := sm h
  exact hret _ _ _ _ hk dX5_bytesForThreshold_86
noncomputable def X5_holds (k : Nat) (x1 : Int32) (S : St) : Option (Int32 × St) :=
  oi ((gi S k 4) < x1) (ol (si S k 5 (if x1 < (gi S k 5) then x1 else (gi S k 5))) (fun T1 => some ((0 : Int32), T1))) (some ((1 : Int32), S))
set_option maxHeartbeats 4000000 in
set_option maxRecDepth 20000 in
theorem ctX5_holds {l : Launch} {G : Ga} {k : Nat} (ik : isReplayer k) {x1 : Int32} (hl : l.stackTraces = false) {S : St} {r : Int32} {S1 : St} (h : X5_holds k x1 S = some (r, S1)) : CT l G 1 yX5_holds cX5_holds 2 (some .boolean) [.ref (G.1 k), .int x1] S (some (.int r)) S1 := by
  refine ct_of hl (by decide) (Nat.le_of_ble_eq_true rfl) (fun F hFl hFG hF hN hR hret => ?_)
  subst hFl hFG
  show X F 0 0 [(0, .ref (gA F k)), (1, .int x1)] [] S
  have hret : ∀ (v : Int32) (S : St) (pc : Nat) (ls : List (Nat × Value)), isB v → (v = r ∧ S = S1) → decode cX5_holds pc = .ok (.ireturn, 1) → X F 0 pc ls [.int v] S := fun v S2 pc ls hb hq hd => by obtain ⟨rfl, rfl⟩ := hq; exact hret.2.1 pc ls v rfl hb rfl hd
  have hk : r = r ∧ S1 = S1 := ⟨rfl, rfl⟩
  unfold X5_holds at h
  refine x_iload_n hF dX5_holds_0 rfl rfl ?_
  refine x_aload_n hF dX5_holds_1 rfl rfl ?_
  refine x_geti hF (shReplayer_0 ik) 4 rfl ck4 (ltReplayer_0 ik) (by decide) tw_239 rfl dX5_holds_2 ?_
  refine x_icmp_gt (tgt := 10) hF dX5_holds_5 (by decide) (fun hc => ?_) (fun hc => ?_)
  · have h := oi_pos hc h
    refine x_aload_n hF dX5_holds_10 rfl rfl ?_
    refine x_aload_n hF dX5_holds_11 rfl rfl ?_
    refine x_geti hF (shReplayer_0 ik) 5 rfl ck4 (ltReplayer_0 ik) (by decide) tw_240 rfl dX5_holds_12 ?_
    refine x_iload_n hF dX5_holds_15 rfl rfl ?_
    refine x_mmin hF hR tw_386 mcmin.1 tw_87 mcmin.2 ⟨by decide, by decide⟩ (Nat.le_of_ble_eq_true rfl) dX5_holds_16 ?_
    obtain ⟨T1, eT1, h⟩ := ol_some h
    refine x_puti hF (shReplayer_0 ik) 5 rfl ck4 (ltReplayer_0 ik) (by decide) tw_240 rfl rfl rfl rfl rfl eT1 dX5_holds_19 ?_
    refine x_iconst (v := (0 : Int32)) hF dX5_holds_22 (by decide) ?_
    obtain ⟨rfl, rfl⟩ := sm h
    exact hret _ _ _ _ (by decide) hk dX5_holds_23
  · have h := oi_neg hc h
    refine x_iconst (v := (1 : Int32)) hF dX5_holds_8 (by decide) ?_
    obtain ⟨rfl, rfl⟩ := sm h
    exact hret _ _ _ _ (by decide) hk dX5_holds_9
noncomputable def X5_isDroppedEarly (k : Nat) (S : St) : Option (Int32 × St) :=
  oi ((gi S 5 5) ≤ (gi S (k + 6) 3)) (ol (si S k 7 ((gi S k 7) + (1 : Int32))) (fun T1 => oi ((gi T1 5 6) ≤ (gi T1 k 7)) (ol (si T1 k 7 (0 : Int32)) (fun T2 => some ((1 : Int32), T2))) (some ((0 : Int32), T1)))) (some ((0 : Int32), S))
set_option maxHeartbeats 4000000 in
set_option maxRecDepth 20000 in
theorem ctX5_isDroppedEarly {l : Launch} {G : Ga} {k : Nat} (ik : isReplayer k) (hl : l.stackTraces = false) {S : St} {r : Int32} {S1 : St} (h : X5_isDroppedEarly k S = some (r, S1)) : CT l G 0 yX5_isDroppedEarly cX5_isDroppedEarly 1 (some .boolean) [.ref (G.1 k)] S (some (.int r)) S1 := by
  refine ct_of hl (by decide) (Nat.le_of_ble_eq_true rfl) (fun F hFl hFG hF hN hR hret => ?_)
  subst hFl hFG
  show X F 0 0 [(0, .ref (gA F k))] [] S
  have hret : ∀ (v : Int32) (S : St) (pc : Nat) (ls : List (Nat × Value)), isB v → (v = r ∧ S = S1) → decode cX5_isDroppedEarly pc = .ok (.ireturn, 1) → X F 0 pc ls [.int v] S := fun v S2 pc ls hb hq hd => by obtain ⟨rfl, rfl⟩ := hq; exact hret.2.1 pc ls v rfl hb rfl hd
  have hk : r = r ∧ S1 = S1 := ⟨rfl, rfl⟩
  unfold X5_isDroppedEarly at h
  refine x_aload_n hF dX5_isDroppedEarly_0 rfl rfl ?_
  refine x_getr hF (shReplayer_0 ik) 2 rfl ck4 (ltReplayer_0 ik) (by decide) tw_237 rfl dX5_isDroppedEarly_1 ?_
  refine x_geti hF (shReplayer_6 ik) 3 rfl ck1 (ltReplayer_6 ik) (by decide) tw_220 rfl dX5_isDroppedEarly_4 ?_
  refine x_aload_n hF dX5_isDroppedEarly_7 rfl rfl ?_
  refine x_getr hF (shReplayer_0 ik) 0 rfl ck4 (ltReplayer_0 ik) (by decide) tw_234 rfl dX5_isDroppedEarly_8 ?_
  refine x_getr hF sh1 4 rfl ck3 (by decide) (by decide) tw_131 rfl dX5_isDroppedEarly_11 ?_
  refine x_iconst (v := (5 : Int32)) hF dX5_isDroppedEarly_14 (by decide) ?_
  refine x_iald (j := 5) hF sh5 (by decide) (by decide) (by decide) dX5_isDroppedEarly_15 ?_
  refine x_icmp_ge (tgt := 21) hF dX5_isDroppedEarly_16 (by decide) (fun hc => ?_) (fun hc => ?_)
  · have h := oi_pos hc h
    refine x_aload_n hF dX5_isDroppedEarly_21 rfl rfl ?_
    refine x_dup hF dX5_isDroppedEarly_22 rfl ?_
    refine x_geti hF (shReplayer_0 ik) 7 rfl ck4 (ltReplayer_0 ik) (by decide) tw_243 rfl dX5_isDroppedEarly_23 ?_
    refine x_iconst (v := (1 : Int32)) hF dX5_isDroppedEarly_26 (by decide) ?_
    refine x_iadd hF dX5_isDroppedEarly_27 ?_
    obtain ⟨T1, eT1, h⟩ := ol_some h
    refine x_puti hF (shReplayer_0 ik) 7 rfl ck4 (ltReplayer_0 ik) (by decide) tw_243 rfl rfl rfl rfl rfl eT1 dX5_isDroppedEarly_28 ?_
    refine x_aload_n hF dX5_isDroppedEarly_31 rfl rfl ?_
    refine x_geti hF (shReplayer_0 ik) 7 rfl ck4 (ltReplayer_0 ik) (by decide) tw_243 rfl dX5_isDroppedEarly_32 ?_
    refine x_aload_n hF dX5_isDroppedEarly_35 rfl rfl ?_
    refine x_getr hF (shReplayer_0 ik) 0 rfl ck4 (ltReplayer_0 ik) (by decide) tw_234 rfl dX5_isDroppedEarly_36 ?_
    refine x_getr hF sh1 4 rfl ck3 (by decide) (by decide) tw_131 rfl dX5_isDroppedEarly_39 ?_
    refine x_bipush (v := (6 : Int32)) hF dX5_isDroppedEarly_42 (by decide) ?_
    refine x_iald (j := 6) hF sh5 (by decide) (by decide) (by decide) dX5_isDroppedEarly_44 ?_
    refine x_icmp_ge (tgt := 50) hF dX5_isDroppedEarly_45 (by decide) (fun hc => ?_) (fun hc => ?_)
    · have h := oi_pos hc h
      refine x_aload_n hF dX5_isDroppedEarly_50 rfl rfl ?_
      refine x_iconst (v := (0 : Int32)) hF dX5_isDroppedEarly_51 (by decide) ?_
      obtain ⟨T2, eT2, h⟩ := ol_some h
      refine x_puti hF (shReplayer_0 ik) 7 rfl ck4 (ltReplayer_0 ik) (by decide) tw_243 rfl rfl rfl rfl rfl eT2 dX5_isDroppedEarly_52 ?_
      refine x_iconst (v := (1 : Int32)) hF dX5_isDroppedEarly_55 (by decide) ?_
      obtain ⟨rfl, rfl⟩ := sm h
      exact hret _ _ _ _ (by decide) hk dX5_isDroppedEarly_56
    · have h := oi_neg hc h
      refine x_iconst (v := (0 : Int32)) hF dX5_isDroppedEarly_48 (by decide) ?_
      obtain ⟨rfl, rfl⟩ := sm h
      exact hret _ _ _ _ (by decide) hk dX5_isDroppedEarly_49
  · have h := oi_neg hc h
    refine x_iconst (v := (0 : Int32)) hF dX5_isDroppedEarly_19 (by decide) ?_
    obtain ⟨rfl, rfl⟩ := sm h
    exact hret _ _ _ _ (by decide) hk dX5_isDroppedEarly_20
noncomputable def X2_firstNotBegun_2 (k : Nat) (x1 : Int32) (S : St) : Option (((Int32) ⊕ (Int32 ⊕ Unit)) × St) :=
  oi ((gi S k 0) ≤ x1) (some (.inr (.inr ()), S)) (og (inb x1 40) (oi ((gi S (k + 1) (ix x1)) = (gi S k 4)) (some (.inl (x1 + (1 : Int32)), S)) (some (.inr (.inl x1), S))))
set_option maxHeartbeats 4000000 in
set_option maxRecDepth 20000 in
theorem xX2_firstNotBegun_2 {F : Cx} {k : Nat} (ik : isLine k) (hF : Ok F cX2_firstNotBegun RX2) (hN : nLF F 2) (hR : RmF F 0 0) {x1 : Int32} {K : ((Int32) ⊕ (Int32 ⊕ Unit)) → St → Prop} (hag : ∀ (a : Int32) (S : St), K (.inl a) S → X F 0 2 [(0, .ref (gA F k)), (1, .int a)] [] S) (hex23 : ∀ (q : Int32) (S : St), K (.inr (.inl q)) S → X F 0 23 [(1, .int q)] [] S) (hex31 : ∀ (q : Unit) (S : St), K (.inr (.inr q)) S → X F 0 31 [] [] S) {S : St} {r : (Int32) ⊕ (Int32 ⊕ Unit)} {S1 : St} (h : X2_firstNotBegun_2 k x1 S = some (r, S1)) (hk : K r S1) : X F 0 2 [(0, .ref (gA F k)), (1, .int x1)] [] S := by
  unfold X2_firstNotBegun_2 at h
  refine x_iload_n hF dX2_firstNotBegun_2 rfl rfl ?_
  refine x_aload_n hF dX2_firstNotBegun_3 rfl rfl ?_
  refine x_geti hF (shLine_0 ik) 0 rfl ck1 (ltLine_0 ik) (by decide) tw_213 rfl dX2_firstNotBegun_4 ?_
  refine x_icmp_ge (tgt := 31) hF dX2_firstNotBegun_7 (by decide) (fun hc => ?_) (fun hc => ?_)
  · have h := oi_pos hc h
    obtain ⟨rfl, rfl⟩ := sm h
    exact x_sub (hex31 _ _ hk) trivial
  · have h := oi_neg hc h
    refine x_aload_n hF dX2_firstNotBegun_10 rfl rfl ?_
    refine x_getr hF (shLine_0 ik) 1 rfl ck1 (ltLine_0 ik) (by decide) tw_215 rfl dX2_firstNotBegun_11 ?_
    refine x_iload_n hF dX2_firstNotBegun_14 rfl rfl ?_
    obtain ⟨hg, h⟩ := og_some h
    refine x_iald hF (shLine_1 ik) (ltLine_1 ik) hg rfl dX2_firstNotBegun_15 ?_
    refine x_aload_n hF dX2_firstNotBegun_16 rfl rfl ?_
    refine x_geti hF (shLine_0 ik) 4 rfl ck1 (ltLine_0 ik) (by decide) tw_221 rfl dX2_firstNotBegun_17 ?_
    refine x_icmp_eq (tgt := 25) hF dX2_firstNotBegun_20 (by decide) (fun hc => ?_) (fun hc => ?_)
    · have h := oi_pos hc h
      refine x_iinc [(1, _), (0, _)] (v := (1 : Int32)) hF hN dX2_firstNotBegun_25 rfl (by decide) (by decide) rfl ?_
      refine x_goto (tgt := 2) hF dX2_firstNotBegun_28 (by decide) ?_
      obtain ⟨rfl, rfl⟩ := sm h
      exact x_sub (hag _ _ hk) ⟨rfl, rfl, trivial⟩
    · have h := oi_neg hc h
      obtain ⟨rfl, rfl⟩ := sm h
      exact x_sub (hex23 _ _ hk) ⟨rfl, trivial⟩
noncomputable def X2_firstNotBegun_2L (k : Nat) (a : Int32) (S : St) : Option ((Int32 ⊕ Unit) × St) :=
  lp (fun (a : Int32) (S : St) => X2_firstNotBegun_2 k a S) a S
theorem xX2_firstNotBegun_2L {F : Cx} {k : Nat} (ik : isLine k) (hF : Ok F cX2_firstNotBegun RX2) (hN : nLF F 2) (hR : RmF F 0 0) {K : (Int32 ⊕ Unit) → St → Prop} (hex23 : ∀ (q : Int32) (S : St), K ((.inl q)) S → X F 0 23 [(1, .int q)] [] S) (hex31 : ∀ (q : Unit) (S : St), K ((.inr q)) S → X F 0 31 [] [] S) {a : Int32} {S : St} {b : Int32 ⊕ Unit} {S1 : St} (h : X2_firstNotBegun_2L k a S = some (b, S1)) (hk : K b S1) : X F 0 2 [(0, .ref (gA F k)), (1, .int a)] [] S := by
  unfold X2_firstNotBegun_2L at h
  exact lp_rule (Xh := fun (a : Int32) (S : St) => X F 0 2 [(0, .ref (gA F k)), (1, .int a)] [] S) (K := K) (fun a S r S1 h hk => xX2_firstNotBegun_2 ik hF hN hR (K := fun r S => match r with | .inl a => X F 0 2 [(0, .ref (gA F k)), (1, .int a)] [] S | .inr b => K b S) (fun _ _ h => h) (fun q S h => hex23 q S h) (fun q S h => hex31 q S h) h (by cases r <;> exact hk)) h hk
noncomputable def X2_firstNotBegun (k : Nat) (S : St) : Option (Int32 × St) :=
  ob (X2_firstNotBegun_2L k (0 : Int32) S) (fun b1 S2 => match b1 with | .inl q3 => some (q3, S2) | .inr q4 => some ((-1 : Int32), S2))
set_option maxHeartbeats 4000000 in
set_option maxRecDepth 20000 in
theorem ctX2_firstNotBegun {l : Launch} {G : Ga} {k : Nat} (ik : isLine k) (hl : l.stackTraces = false) {S : St} {r : Int32} {S1 : St} (h : X2_firstNotBegun k S = some (r, S1)) : CT l G 0 yX2_firstNotBegun cX2_firstNotBegun 2 (some .int) [.ref (G.1 k)] S (some (.int r)) S1 := by
  refine ct_of hl (by decide) (Nat.le_of_ble_eq_true rfl) (fun F hFl hFG hF hN hR hret => ?_)
  subst hFl hFG
  show X F 0 0 [(0, .ref (gA F k))] [] S
  have hret : ∀ (v : Int32) (S : St) (pc : Nat) (ls : List (Nat × Value)), (v = r ∧ S = S1) → decode cX2_firstNotBegun pc = .ok (.ireturn, 1) → X F 0 pc ls [.int v] S := fun v S2 pc ls hq hd => by obtain ⟨rfl, rfl⟩ := hq; exact hret.1 pc ls v rfl rfl hd
  have hk : r = r ∧ S1 = S1 := ⟨rfl, rfl⟩
  unfold X2_firstNotBegun at h
  refine x_iconst (v := (0 : Int32)) hF dX2_firstNotBegun_0 (by decide) ?_
  refine x_istore_n [(1, _), (0, _)] hF hN dX2_firstNotBegun_1 rfl (by decide) rfl ?_
  obtain ⟨b1, S2, hlb1, h⟩ := ob_some h
  refine x_sub (xX2_firstNotBegun_2L ik hF hN hR (K := fun bb SS => bb = b1 ∧ SS = S2) ?_ ?_ hlb1 ⟨rfl, rfl⟩) ⟨rfl, rfl, trivial⟩
  · rintro _ _ ⟨rfl, rfl⟩
    dsimp only at h
    refine x_iload_n hF dX2_firstNotBegun_23 rfl rfl ?_
    obtain ⟨rfl, rfl⟩ := sm h
    exact hret _ _ _ _ hk dX2_firstNotBegun_24
  · rintro _ _ ⟨rfl, rfl⟩
    dsimp only at h
    refine x_iconst (v := (-1 : Int32)) hF dX2_firstNotBegun_31 (by decide) ?_
    obtain ⟨rfl, rfl⟩ := sm h
    exact hret _ _ _ _ hk dX2_firstNotBegun_32
noncomputable def X2_takeOut (k : Nat) (x1 : Int32) (S : St) : Option (Int32 × St) :=
  oi (x1 < 0) (some ((-1 : Int32), S)) (oi (x1 < (gi S k 0)) (og (inb x1 40) (og (inb (gi S (k + 1) (ix x1)) 40) (ol (si S k 3 ((gi S k 3) - (gi S (k + 2) (ix (gi S (k + 1) (ix x1)))))) (fun T1 => ol (si T1 k 0 ((gi T1 k 0) - (1 : Int32))) (fun T2 => og (cpy (x1 + (1 : Int32)) x1 ((gi T2 k 0) - x1) 40 40) (ol (sc T2 (k + 1) (k + 1) (ix (x1 + (1 : Int32))) (ix x1) (ix ((gi T2 k 0) - x1))) (fun T3 => some ((gi S (k + 1) (ix x1)), T3)))))))) (some ((-1 : Int32), S)))
set_option maxHeartbeats 4000000 in
set_option maxRecDepth 20000 in
theorem ctX2_takeOut {l : Launch} {G : Ga} {k : Nat} (ik : isLine k) {x1 : Int32} (hl : l.stackTraces = false) {S : St} {r : Int32} {S1 : St} (h : X2_takeOut k x1 S = some (r, S1)) : CT l G 1 yX2_takeOut cX2_takeOut 3 (some .int) [.ref (G.1 k), .int x1] S (some (.int r)) S1 := by
  refine ct_of hl (by decide) (Nat.le_of_ble_eq_true rfl) (fun F hFl hFG hF hN hR hret => ?_)
  subst hFl hFG
  show X F 0 0 [(0, .ref (gA F k)), (1, .int x1)] [] S
  have hret : ∀ (v : Int32) (S : St) (pc : Nat) (ls : List (Nat × Value)), (v = r ∧ S = S1) → decode cX2_takeOut pc = .ok (.ireturn, 1) → X F 0 pc ls [.int v] S := fun v S2 pc ls hq hd => by obtain ⟨rfl, rfl⟩ := hq; exact hret.1 pc ls v rfl rfl hd
  have hk : r = r ∧ S1 = S1 := ⟨rfl, rfl⟩
  unfold X2_takeOut at h
  refine x_iload_n hF dX2_takeOut_0 rfl rfl ?_
  refine x_if_lt (tgt := 12) hF dX2_takeOut_1 (by decide) (fun hc => ?_) (fun hc => ?_)
  · have h := oi_pos hc h
    refine x_iconst (v := (-1 : Int32)) hF dX2_takeOut_12 (by decide) ?_
    obtain ⟨rfl, rfl⟩ := sm h
    exact hret _ _ _ _ hk dX2_takeOut_13
  · have h := oi_neg hc h
    refine x_iload_n hF dX2_takeOut_4 rfl rfl ?_
    refine x_aload_n hF dX2_takeOut_5 rfl rfl ?_
    refine x_geti hF (shLine_0 ik) 0 rfl ck1 (ltLine_0 ik) (by decide) tw_213 rfl dX2_takeOut_6 ?_
    refine x_icmp_lt (tgt := 14) hF dX2_takeOut_9 (by decide) (fun hc => ?_) (fun hc => ?_)
    · have h := oi_pos hc h
      refine x_aload_n hF dX2_takeOut_14 rfl rfl ?_
      refine x_getr hF (shLine_0 ik) 1 rfl ck1 (ltLine_0 ik) (by decide) tw_215 rfl dX2_takeOut_15 ?_
      refine x_iload_n hF dX2_takeOut_18 rfl rfl ?_
      obtain ⟨hg, h⟩ := og_some h
      refine x_iald hF (shLine_1 ik) (ltLine_1 ik) hg rfl dX2_takeOut_19 ?_
      refine x_istore_n [(2, _), (0, _), (1, _)] hF hN dX2_takeOut_20 rfl (by decide) rfl ?_
      refine x_aload_n hF dX2_takeOut_21 rfl rfl ?_
      refine x_dup hF dX2_takeOut_22 rfl ?_
      refine x_geti hF (shLine_0 ik) 3 rfl ck1 (ltLine_0 ik) (by decide) tw_219 rfl dX2_takeOut_23 ?_
      refine x_aload_n hF dX2_takeOut_26 rfl rfl ?_
      refine x_getr hF (shLine_0 ik) 2 rfl ck1 (ltLine_0 ik) (by decide) tw_217 rfl dX2_takeOut_27 ?_
      refine x_iload_n hF dX2_takeOut_30 rfl rfl ?_
      obtain ⟨hg, h⟩ := og_some h
      refine x_iald hF (shLine_2 ik) (ltLine_2 ik) hg rfl dX2_takeOut_31 ?_
      refine x_isub hF dX2_takeOut_32 ?_
      obtain ⟨T1, eT1, h⟩ := ol_some h
      refine x_puti hF (shLine_0 ik) 3 rfl ck1 (ltLine_0 ik) (by decide) tw_219 rfl rfl rfl rfl rfl eT1 dX2_takeOut_33 ?_
      refine x_aload_n hF dX2_takeOut_36 rfl rfl ?_
      refine x_dup hF dX2_takeOut_37 rfl ?_
      refine x_geti hF (shLine_0 ik) 0 rfl ck1 (ltLine_0 ik) (by decide) tw_213 rfl dX2_takeOut_38 ?_
      refine x_iconst (v := (1 : Int32)) hF dX2_takeOut_41 (by decide) ?_
      refine x_isub hF dX2_takeOut_42 ?_
      obtain ⟨T2, eT2, h⟩ := ol_some h
      refine x_puti hF (shLine_0 ik) 0 rfl ck1 (ltLine_0 ik) (by decide) tw_213 rfl rfl rfl rfl rfl eT2 dX2_takeOut_43 ?_
      refine x_aload_n hF dX2_takeOut_46 rfl rfl ?_
      refine x_getr hF (shLine_0 ik) 1 rfl ck1 (ltLine_0 ik) (by decide) tw_215 rfl dX2_takeOut_47 ?_
      refine x_iload_n hF dX2_takeOut_50 rfl rfl ?_
      refine x_iconst (v := (1 : Int32)) hF dX2_takeOut_51 (by decide) ?_
      refine x_iadd hF dX2_takeOut_52 ?_
      refine x_aload_n hF dX2_takeOut_53 rfl rfl ?_
      refine x_getr hF (shLine_0 ik) 1 rfl ck1 (ltLine_0 ik) (by decide) tw_215 rfl dX2_takeOut_54 ?_
      refine x_iload_n hF dX2_takeOut_57 rfl rfl ?_
      refine x_aload_n hF dX2_takeOut_58 rfl rfl ?_
      refine x_geti hF (shLine_0 ik) 0 rfl ck1 (ltLine_0 ik) (by decide) tw_213 rfl dX2_takeOut_59 ?_
      refine x_iload_n hF dX2_takeOut_62 rfl rfl ?_
      refine x_isub hF dX2_takeOut_63 ?_
      obtain ⟨hg, h⟩ := og_some h
      obtain ⟨T3, eT3, h⟩ := ol_some h
      refine x_copy hF hN hR (shLine_1 ik) (ltLine_1 ik) (shLine_1 ik) (ltLine_1 ik) hg tw_401 tw_403 tw_402 tw_86 (by decide) (Nat.le_of_ble_eq_true rfl) eT3 dX2_takeOut_64 ?_
      refine x_iload_n hF dX2_takeOut_67 rfl rfl ?_
      obtain ⟨rfl, rfl⟩ := sm h
      exact hret _ _ _ _ hk dX2_takeOut_68
    · have h := oi_neg hc h
      refine x_iconst (v := (-1 : Int32)) hF dX2_takeOut_12 (by decide) ?_
      obtain ⟨rfl, rfl⟩ := sm h
      exact hret _ _ _ _ hk dX2_takeOut_13
noncomputable def X5_makesRoomAtHead_2 (k : Nat) (x1 : Int32) (x2 : Int32) (S : St) : Option (((Int32) ⊕ (Unit ⊕ Unit)) × St) :=
  oi ((40 : Int32) < x2) (some (.inr (.inr ()), S)) (ob (X5_holds k ((gi S (k + 6) 3) + x1) S) (fun r1 S2 => oi (r1 = 0) (ob (X2_firstNotBegun (k + 6) S2) (fun r3 S4 => oi (r3 = (-1 : Int32)) (some (.inr (.inl ()), S4)) (ob (X2_takeOut (k + 6) r3 S4) (fun r5 S6 => ob (X3_noteDrop (k + 1) r5 S6) (fun r7 S8 => some (.inl (x2 + (1 : Int32)), S8)))))) (some (.inr (.inr ()), S2))))
set_option maxHeartbeats 4000000 in
set_option maxRecDepth 20000 in
theorem xX5_makesRoomAtHead_2 {F : Cx} {k : Nat} (ik : isReplayer k) (hF : Ok F cX5_makesRoomAtHead RX5) (hN : nLF F 4) (hR : RmF F 2 0) {x1 : Int32} {x2 : Int32} {K : ((Int32) ⊕ (Unit ⊕ Unit)) → St → Prop} (hag : ∀ (a : Int32) (S : St), K (.inl a) S → X F 0 2 [(0, .ref (gA F k)), (1, .int x1), (2, .int a)] [] S) (hex37 : ∀ (q : Unit) (S : St), K (.inr (.inl q)) S → X F 0 37 [] [] S) (hex60 : ∀ (q : Unit) (S : St), K (.inr (.inr q)) S → X F 0 60 [] [] S) {S : St} {r : (Int32) ⊕ (Unit ⊕ Unit)} {S1 : St} (h : X5_makesRoomAtHead_2 k x1 x2 S = some (r, S1)) (hk : K r S1) : X F 0 2 [(0, .ref (gA F k)), (1, .int x1), (2, .int x2)] [] S := by
  unfold X5_makesRoomAtHead_2 at h
  refine x_iload_n hF dX5_makesRoomAtHead_2 rfl rfl ?_
  refine x_bipush (v := (40 : Int32)) hF dX5_makesRoomAtHead_3 (by decide) ?_
  refine x_icmp_gt (tgt := 60) hF dX5_makesRoomAtHead_5 (by decide) (fun hc => ?_) (fun hc => ?_)
  · have h := oi_pos hc h
    obtain ⟨rfl, rfl⟩ := sm h
    exact x_sub (hex60 _ _ hk) trivial
  · have h := oi_neg hc h
    refine x_aload_n hF dX5_makesRoomAtHead_8 rfl rfl ?_
    refine x_aload_n hF dX5_makesRoomAtHead_9 rfl rfl ?_
    refine x_getr hF (shReplayer_0 ik) 2 rfl ck4 (ltReplayer_0 ik) (by decide) tw_237 rfl dX5_makesRoomAtHead_10 ?_
    refine x_geti hF (shReplayer_6 ik) 3 rfl ck1 (ltReplayer_6 ik) (by decide) tw_220 rfl dX5_makesRoomAtHead_13 ?_
    refine x_iload_n hF dX5_makesRoomAtHead_16 rfl rfl ?_
    refine x_iadd hF dX5_makesRoomAtHead_17 ?_
    obtain ⟨r1, S2, hcall, h⟩ := ob_some h
    refine x_cVi hF hN hR (ctX5_holds ik hF.tr hcall) mwX5_holds miX5_holds (shReplayer_0 ik) ck4 (ltReplayer_0 ik) tw_382 ⟨by decide, by decide⟩ rfl rfl (Nat.le_of_ble_eq_true rfl) dX5_makesRoomAtHead_18 ?_
    refine x_if_ne (tgt := 60) hF dX5_makesRoomAtHead_21 (by decide) (fun hc => ?_) (fun hc => ?_)
    · have h := oi_neg hc h
      obtain ⟨rfl, rfl⟩ := sm h
      exact x_sub (hex60 _ _ hk) trivial
    · have h := oi_pos hc h
      refine x_aload_n hF dX5_makesRoomAtHead_24 rfl rfl ?_
      refine x_getr hF (shReplayer_0 ik) 2 rfl ck4 (ltReplayer_0 ik) (by decide) tw_237 rfl dX5_makesRoomAtHead_25 ?_
      obtain ⟨r3, S4, hcall, h⟩ := ob_some h
      refine x_cVi hF hN hR (ctX2_firstNotBegun (isReplayer_Line ik) hF.tr hcall) mwX2_firstNotBegun miX2_firstNotBegun (shReplayer_6 ik) ck1 (ltReplayer_6 ik) tw_393 ⟨by decide, by decide⟩ rfl rfl (Nat.le_of_ble_eq_true rfl) dX5_makesRoomAtHead_28 ?_
      refine x_istore_n [(3, _), (0, _), (1, _), (2, _)] hF hN dX5_makesRoomAtHead_31 rfl (by decide) rfl ?_
      refine x_iload_n hF dX5_makesRoomAtHead_32 rfl rfl ?_
      refine x_iconst (v := (-1 : Int32)) hF dX5_makesRoomAtHead_33 (by decide) ?_
      refine x_icmp_ne (tgt := 39) hF dX5_makesRoomAtHead_34 (by decide) (fun hc => ?_) (fun hc => ?_)
      · have h := oi_neg hc h
        refine x_aload_n hF dX5_makesRoomAtHead_39 rfl rfl ?_
        refine x_getr hF (shReplayer_0 ik) 1 rfl ck4 (ltReplayer_0 ik) (by decide) tw_235 rfl dX5_makesRoomAtHead_40 ?_
        refine x_aload_n hF dX5_makesRoomAtHead_43 rfl rfl ?_
        refine x_getr hF (shReplayer_0 ik) 2 rfl ck4 (ltReplayer_0 ik) (by decide) tw_237 rfl dX5_makesRoomAtHead_44 ?_
        refine x_iload_n hF dX5_makesRoomAtHead_47 rfl rfl ?_
        obtain ⟨r5, S6, hcall, h⟩ := ob_some h
        refine x_cVi hF hN hR (ctX2_takeOut (isReplayer_Line ik) hF.tr hcall) mwX2_takeOut miX2_takeOut (shReplayer_6 ik) ck1 (ltReplayer_6 ik) tw_397 ⟨by decide, by decide⟩ rfl rfl (Nat.le_of_ble_eq_true rfl) dX5_makesRoomAtHead_48 ?_
        obtain ⟨r7, S8, hcall, h⟩ := ob_some h
        refine x_cVv hF hN hR (ctX3_noteDrop (isReplayer_Outcome ik) hF.tr hcall) mwX3_noteDrop miX3_noteDrop (shReplayer_1 ik) ck2 (ltReplayer_1 ik) tw_404 ⟨by decide, by decide⟩ rfl rfl (Nat.le_of_ble_eq_true rfl) dX5_makesRoomAtHead_51 ?_
        refine x_iinc [(2, _), (3, _), (0, _), (1, _)] (v := (1 : Int32)) hF hN dX5_makesRoomAtHead_54 rfl (by decide) (by decide) rfl ?_
        refine x_goto (tgt := 2) hF dX5_makesRoomAtHead_57 (by decide) ?_
        obtain ⟨rfl, rfl⟩ := sm h
        exact x_sub (hag _ _ hk) ⟨rfl, rfl, rfl, trivial⟩
      · have h := oi_pos hc h
        obtain ⟨rfl, rfl⟩ := sm h
        exact x_sub (hex37 _ _ hk) trivial
noncomputable def X5_makesRoomAtHead_2L (k : Nat) (x1 : Int32) (a : Int32) (S : St) : Option ((Unit ⊕ Unit) × St) :=
  lp (fun (a : Int32) (S : St) => X5_makesRoomAtHead_2 k x1 a S) a S
theorem xX5_makesRoomAtHead_2L {F : Cx} {k : Nat} (ik : isReplayer k) (hF : Ok F cX5_makesRoomAtHead RX5) (hN : nLF F 4) (hR : RmF F 2 0) {x1 : Int32} {K : (Unit ⊕ Unit) → St → Prop} (hex37 : ∀ (q : Unit) (S : St), K ((.inl q)) S → X F 0 37 [] [] S) (hex60 : ∀ (q : Unit) (S : St), K ((.inr q)) S → X F 0 60 [] [] S) {a : Int32} {S : St} {b : Unit ⊕ Unit} {S1 : St} (h : X5_makesRoomAtHead_2L k x1 a S = some (b, S1)) (hk : K b S1) : X F 0 2 [(0, .ref (gA F k)), (1, .int x1), (2, .int a)] [] S := by
  unfold X5_makesRoomAtHead_2L at h
  exact lp_rule (Xh := fun (a : Int32) (S : St) => X F 0 2 [(0, .ref (gA F k)), (1, .int x1), (2, .int a)] [] S) (K := K) (fun a S r S1 h hk => xX5_makesRoomAtHead_2 ik hF hN hR (K := fun r S => match r with | .inl a => X F 0 2 [(0, .ref (gA F k)), (1, .int x1), (2, .int a)] [] S | .inr b => K b S) (fun _ _ h => h) (fun q S h => hex37 q S h) (fun q S h => hex60 q S h) h (by cases r <;> exact hk)) h hk
noncomputable def X5_makesRoomAtHead (k : Nat) (x1 : Int32) (S : St) : Option (Int32 × St) :=
  ob (X5_makesRoomAtHead_2L k x1 (0 : Int32) S) (fun b9 S10 => match b9 with | .inl q11 => some ((0 : Int32), S10) | .inr q12 => some ((1 : Int32), S10))
set_option maxHeartbeats 4000000 in
set_option maxRecDepth 20000 in
theorem ctX5_makesRoomAtHead {l : Launch} {G : Ga} {k : Nat} (ik : isReplayer k) {x1 : Int32} (hl : l.stackTraces = false) {S : St} {r : Int32} {S1 : St} (h : X5_makesRoomAtHead k x1 S = some (r, S1)) : CT l G 2 yX5_makesRoomAtHead cX5_makesRoomAtHead 4 (some .boolean) [.ref (G.1 k), .int x1] S (some (.int r)) S1 := by
  refine ct_of hl (by decide) (Nat.le_of_ble_eq_true rfl) (fun F hFl hFG hF hN hR hret => ?_)
  subst hFl hFG
  show X F 0 0 [(0, .ref (gA F k)), (1, .int x1)] [] S
  have hret : ∀ (v : Int32) (S : St) (pc : Nat) (ls : List (Nat × Value)), isB v → (v = r ∧ S = S1) → decode cX5_makesRoomAtHead pc = .ok (.ireturn, 1) → X F 0 pc ls [.int v] S := fun v S2 pc ls hb hq hd => by obtain ⟨rfl, rfl⟩ := hq; exact hret.2.1 pc ls v rfl hb rfl hd
  have hk : r = r ∧ S1 = S1 := ⟨rfl, rfl⟩
  unfold X5_makesRoomAtHead at h
  refine x_iconst (v := (0 : Int32)) hF dX5_makesRoomAtHead_0 (by decide) ?_
  refine x_istore_n [(2, _), (0, _), (1, _)] hF hN dX5_makesRoomAtHead_1 rfl (by decide) rfl ?_
  obtain ⟨b9, S10, hlb9, h⟩ := ob_some h
  refine x_sub (xX5_makesRoomAtHead_2L ik hF hN hR (K := fun bb SS => bb = b9 ∧ SS = S10) ?_ ?_ hlb9 ⟨rfl, rfl⟩) ⟨rfl, rfl, rfl, trivial⟩
  · rintro _ _ ⟨rfl, rfl⟩
    dsimp only at h
    refine x_iconst (v := (0 : Int32)) hF dX5_makesRoomAtHead_37 (by decide) ?_
    obtain ⟨rfl, rfl⟩ := sm h
    exact hret _ _ _ _ (by decide) hk dX5_makesRoomAtHead_38
  · rintro _ _ ⟨rfl, rfl⟩
    dsimp only at h
    refine x_iconst (v := (1 : Int32)) hF dX5_makesRoomAtHead_60 (by decide) ?_
    obtain ⟨rfl, rfl⟩ := sm h
    exact hret _ _ _ _ (by decide) hk dX5_makesRoomAtHead_61
noncomputable def X5_lastNotBegunOf_10 (k : Nat) (x1 : Int32) (x2 : Int32) (S : St) : Option (((Int32) ⊕ (Int32 ⊕ Unit)) × St) :=
  oi (x2 < 0) (some (.inr (.inr ()), S)) (og (inb x2 40) (oi ((gi S (k + 7) (ix x2)) = (gi S (k + 6) 4)) (some (.inl (x2 + (-1 : Int32)), S)) (og (inb (gi S (k + 7) (ix x2)) 40) (oi ((gi S 3 (ix (gi S (k + 7) (ix x2)))) = x1) (some (.inr (.inl x2), S)) (some (.inl (x2 + (-1 : Int32)), S))))))
set_option maxHeartbeats 4000000 in
set_option maxRecDepth 20000 in
theorem xX5_lastNotBegunOf_10 {F : Cx} {k : Nat} (ik : isReplayer k) (hF : Ok F cX5_lastNotBegunOf RX5) (hN : nLF F 4) (hR : RmF F 0 0) {x1 : Int32} {x2 : Int32} {K : ((Int32) ⊕ (Int32 ⊕ Unit)) → St → Prop} (hag : ∀ (a : Int32) (S : St), K (.inl a) S → X F 0 10 [(0, .ref (gA F k)), (1, .int x1), (2, .int a)] [] S) (hex48 : ∀ (q : Int32) (S : St), K (.inr (.inl q)) S → X F 0 48 [(2, .int q)] [] S) (hex56 : ∀ (q : Unit) (S : St), K (.inr (.inr q)) S → X F 0 56 [] [] S) {S : St} {r : (Int32) ⊕ (Int32 ⊕ Unit)} {S1 : St} (h : X5_lastNotBegunOf_10 k x1 x2 S = some (r, S1)) (hk : K r S1) : X F 0 10 [(0, .ref (gA F k)), (1, .int x1), (2, .int x2)] [] S := by
  unfold X5_lastNotBegunOf_10 at h
  refine x_iload_n hF dX5_lastNotBegunOf_10 rfl rfl ?_
  refine x_if_lt (tgt := 56) hF dX5_lastNotBegunOf_11 (by decide) (fun hc => ?_) (fun hc => ?_)
  · have h := oi_pos hc h
    obtain ⟨rfl, rfl⟩ := sm h
    exact x_sub (hex56 _ _ hk) trivial
  · have h := oi_neg hc h
    refine x_aload_n hF dX5_lastNotBegunOf_14 rfl rfl ?_
    refine x_getr hF (shReplayer_0 ik) 2 rfl ck4 (ltReplayer_0 ik) (by decide) tw_237 rfl dX5_lastNotBegunOf_15 ?_
    refine x_getr hF (shReplayer_6 ik) 1 rfl ck1 (ltReplayer_6 ik) (by decide) tw_216 rfl dX5_lastNotBegunOf_18 ?_
    refine x_iload_n hF dX5_lastNotBegunOf_21 rfl rfl ?_
    obtain ⟨hg, h⟩ := og_some h
    refine x_iald hF (shReplayer_7 ik) (ltReplayer_7 ik) hg rfl dX5_lastNotBegunOf_22 ?_
    refine x_istore_n [(3, _), (0, _), (1, _), (2, _)] hF hN dX5_lastNotBegunOf_23 rfl (by decide) rfl ?_
    refine x_iload_n hF dX5_lastNotBegunOf_24 rfl rfl ?_
    refine x_aload_n hF dX5_lastNotBegunOf_25 rfl rfl ?_
    refine x_getr hF (shReplayer_0 ik) 2 rfl ck4 (ltReplayer_0 ik) (by decide) tw_237 rfl dX5_lastNotBegunOf_26 ?_
    refine x_geti hF (shReplayer_6 ik) 4 rfl ck1 (ltReplayer_6 ik) (by decide) tw_222 rfl dX5_lastNotBegunOf_29 ?_
    refine x_icmp_eq (tgt := 50) hF dX5_lastNotBegunOf_32 (by decide) (fun hc => ?_) (fun hc => ?_)
    · have h := oi_pos hc h
      refine x_iinc [(2, _), (3, _), (0, _), (1, _)] (v := (-1 : Int32)) hF hN dX5_lastNotBegunOf_50 rfl (by decide) (by decide) rfl ?_
      refine x_goto (tgt := 10) hF dX5_lastNotBegunOf_53 (by decide) ?_
      obtain ⟨rfl, rfl⟩ := sm h
      exact x_sub (hag _ _ hk) ⟨rfl, rfl, rfl, trivial⟩
    · have h := oi_neg hc h
      refine x_aload_n hF dX5_lastNotBegunOf_35 rfl rfl ?_
      refine x_getr hF (shReplayer_0 ik) 0 rfl ck4 (ltReplayer_0 ik) (by decide) tw_234 rfl dX5_lastNotBegunOf_36 ?_
      refine x_getr hF sh1 2 rfl ck3 (by decide) (by decide) tw_125 rfl dX5_lastNotBegunOf_39 ?_
      refine x_iload_n hF dX5_lastNotBegunOf_42 rfl rfl ?_
      obtain ⟨hg, h⟩ := og_some h
      refine x_iald hF sh3 (by decide) hg rfl dX5_lastNotBegunOf_43 ?_
      refine x_iload_n hF dX5_lastNotBegunOf_44 rfl rfl ?_
      refine x_icmp_ne (tgt := 50) hF dX5_lastNotBegunOf_45 (by decide) (fun hc => ?_) (fun hc => ?_)
      · have h := oi_neg hc h
        refine x_iinc [(2, _), (3, _), (0, _), (1, _)] (v := (-1 : Int32)) hF hN dX5_lastNotBegunOf_50 rfl (by decide) (by decide) rfl ?_
        refine x_goto (tgt := 10) hF dX5_lastNotBegunOf_53 (by decide) ?_
        obtain ⟨rfl, rfl⟩ := sm h
        exact x_sub (hag _ _ hk) ⟨rfl, rfl, rfl, trivial⟩
      · have h := oi_pos hc h
        obtain ⟨rfl, rfl⟩ := sm h
        exact x_sub (hex48 _ _ hk) ⟨rfl, trivial⟩
noncomputable def X5_lastNotBegunOf_10L (k : Nat) (x1 : Int32) (a : Int32) (S : St) : Option ((Int32 ⊕ Unit) × St) :=
  lp (fun (a : Int32) (S : St) => X5_lastNotBegunOf_10 k x1 a S) a S
theorem xX5_lastNotBegunOf_10L {F : Cx} {k : Nat} (ik : isReplayer k) (hF : Ok F cX5_lastNotBegunOf RX5) (hN : nLF F 4) (hR : RmF F 0 0) {x1 : Int32} {K : (Int32 ⊕ Unit) → St → Prop} (hex48 : ∀ (q : Int32) (S : St), K ((.inl q)) S → X F 0 48 [(2, .int q)] [] S) (hex56 : ∀ (q : Unit) (S : St), K ((.inr q)) S → X F 0 56 [] [] S) {a : Int32} {S : St} {b : Int32 ⊕ Unit} {S1 : St} (h : X5_lastNotBegunOf_10L k x1 a S = some (b, S1)) (hk : K b S1) : X F 0 10 [(0, .ref (gA F k)), (1, .int x1), (2, .int a)] [] S := by
  unfold X5_lastNotBegunOf_10L at h
  exact lp_rule (Xh := fun (a : Int32) (S : St) => X F 0 10 [(0, .ref (gA F k)), (1, .int x1), (2, .int a)] [] S) (K := K) (fun a S r S1 h hk => xX5_lastNotBegunOf_10 ik hF hN hR (K := fun r S => match r with | .inl a => X F 0 10 [(0, .ref (gA F k)), (1, .int x1), (2, .int a)] [] S | .inr b => K b S) (fun _ _ h => h) (fun q S h => hex48 q S h) (fun q S h => hex56 q S h) h (by cases r <;> exact hk)) h hk
noncomputable def X5_lastNotBegunOf (k : Nat) (x1 : Int32) (S : St) : Option (Int32 × St) :=
  ob (X5_lastNotBegunOf_10L k x1 ((gi S (k + 6) 0) - (1 : Int32)) S) (fun b1 S2 => match b1 with | .inl q3 => some (q3, S2) | .inr q4 => some ((-1 : Int32), S2))
set_option maxHeartbeats 4000000 in
set_option maxRecDepth 20000 in
theorem ctX5_lastNotBegunOf {l : Launch} {G : Ga} {k : Nat} (ik : isReplayer k) {x1 : Int32} (hl : l.stackTraces = false) {S : St} {r : Int32} {S1 : St} (h : X5_lastNotBegunOf k x1 S = some (r, S1)) : CT l G 0 yX5_lastNotBegunOf cX5_lastNotBegunOf 4 (some .int) [.ref (G.1 k), .int x1] S (some (.int r)) S1 := by
  refine ct_of hl (by decide) (Nat.le_of_ble_eq_true rfl) (fun F hFl hFG hF hN hR hret => ?_)
  subst hFl hFG
  show X F 0 0 [(0, .ref (gA F k)), (1, .int x1)] [] S
  have hret : ∀ (v : Int32) (S : St) (pc : Nat) (ls : List (Nat × Value)), (v = r ∧ S = S1) → decode cX5_lastNotBegunOf pc = .ok (.ireturn, 1) → X F 0 pc ls [.int v] S := fun v S2 pc ls hq hd => by obtain ⟨rfl, rfl⟩ := hq; exact hret.1 pc ls v rfl rfl hd
  have hk : r = r ∧ S1 = S1 := ⟨rfl, rfl⟩
  unfold X5_lastNotBegunOf at h
  refine x_aload_n hF dX5_lastNotBegunOf_0 rfl rfl ?_
  refine x_getr hF (shReplayer_0 ik) 2 rfl ck4 (ltReplayer_0 ik) (by decide) tw_237 rfl dX5_lastNotBegunOf_1 ?_
  refine x_geti hF (shReplayer_6 ik) 0 rfl ck1 (ltReplayer_6 ik) (by decide) tw_214 rfl dX5_lastNotBegunOf_4 ?_
  refine x_iconst (v := (1 : Int32)) hF dX5_lastNotBegunOf_7 (by decide) ?_
  refine x_isub hF dX5_lastNotBegunOf_8 ?_
  refine x_istore_n [(2, _), (0, _), (1, _)] hF hN dX5_lastNotBegunOf_9 rfl (by decide) rfl ?_
  obtain ⟨b1, S2, hlb1, h⟩ := ob_some h
  refine x_sub (xX5_lastNotBegunOf_10L ik hF hN hR (K := fun bb SS => bb = b1 ∧ SS = S2) ?_ ?_ hlb1 ⟨rfl, rfl⟩) ⟨rfl, rfl, rfl, trivial⟩
  · rintro _ _ ⟨rfl, rfl⟩
    dsimp only at h
    refine x_iload_n hF dX5_lastNotBegunOf_48 rfl rfl ?_
    obtain ⟨rfl, rfl⟩ := sm h
    exact hret _ _ _ _ hk dX5_lastNotBegunOf_49
  · rintro _ _ ⟨rfl, rfl⟩
    dsimp only at h
    refine x_iconst (v := (-1 : Int32)) hF dX5_lastNotBegunOf_56 (by decide) ?_
    obtain ⟨rfl, rfl⟩ := sm h
    exact hret _ _ _ _ hk dX5_lastNotBegunOf_57
noncomputable def X5_longestFlow_2 (k : Nat) (x1 : Int32) (x2 : Int32) (x3 : Int32) (S : St) : Option (((Int32) ⊕ Unit) × St) :=
  oi ((6 : Int32) ≤ x3) (some (.inr (), S)) (oi (x3 = x1) (og (inb x3 6) (ol (si S (k + 9) (ix x3) x2) (fun T2 => some (.inl (x3 + (1 : Int32)), T2)))) (og (inb x3 6) (ol (si S (k + 9) (ix x3) (0 : Int32)) (fun T1 => some (.inl (x3 + (1 : Int32)), T1)))))
set_option maxHeartbeats 4000000 in
set_option maxRecDepth 20000 in
theorem xX5_longestFlow_2 {F : Cx} {k : Nat} (ik : isReplayer k) (hF : Ok F cX5_longestFlow RX5) (hN : nLF F 5) (hR : RmF F 0 0) {x1 : Int32} {x2 : Int32} {x3 : Int32} {K : ((Int32) ⊕ Unit) → St → Prop} (hag : ∀ (a : Int32) (S : St), K (.inl a) S → X F 0 2 [(0, .ref (gA F k)), (1, .int x1), (2, .int x2), (3, .int a)] [] S) (hex30 : ∀ (q : Unit) (S : St), K (.inr q) S → X F 0 30 [(0, .ref (gA F k))] [] S) {S : St} {r : (Int32) ⊕ Unit} {S1 : St} (h : X5_longestFlow_2 k x1 x2 x3 S = some (r, S1)) (hk : K r S1) : X F 0 2 [(0, .ref (gA F k)), (1, .int x1), (2, .int x2), (3, .int x3)] [] S := by
  unfold X5_longestFlow_2 at h
  refine x_iload_n hF dX5_longestFlow_2 rfl rfl ?_
  refine x_bipush (v := (6 : Int32)) hF dX5_longestFlow_3 (by decide) ?_
  refine x_icmp_ge (tgt := 30) hF dX5_longestFlow_5 (by decide) (fun hc => ?_) (fun hc => ?_)
  · have h := oi_pos hc h
    obtain ⟨rfl, rfl⟩ := sm h
    exact x_sub (hex30 _ _ hk) ⟨rfl, trivial⟩
  · have h := oi_neg hc h
    refine x_aload_n hF dX5_longestFlow_8 rfl rfl ?_
    refine x_getr hF (shReplayer_0 ik) 3 rfl ck4 (ltReplayer_0 ik) (by decide) tw_238 rfl dX5_longestFlow_9 ?_
    refine x_iload_n hF dX5_longestFlow_12 rfl rfl ?_
    refine x_iload_n hF dX5_longestFlow_13 rfl rfl ?_
    refine x_iload_n hF dX5_longestFlow_14 rfl rfl ?_
    refine x_icmp_ne (tgt := 22) hF dX5_longestFlow_15 (by decide) (fun hc => ?_) (fun hc => ?_)
    · have h := oi_neg hc h
      refine x_iconst (v := (0 : Int32)) hF dX5_longestFlow_22 (by decide) ?_
      obtain ⟨hg, h⟩ := og_some h
      obtain ⟨T1, eT1, h⟩ := ol_some h
      refine x_iast hF (shReplayer_9 ik) (ltReplayer_9 ik) hg rfl eT1 dX5_longestFlow_23 ?_
      refine x_iinc [(3, _), (0, _), (1, _), (2, _)] (v := (1 : Int32)) hF hN dX5_longestFlow_24 rfl (by decide) (by decide) rfl ?_
      refine x_goto (tgt := 2) hF dX5_longestFlow_27 (by decide) ?_
      obtain ⟨rfl, rfl⟩ := sm h
      exact x_sub (hag _ _ hk) ⟨rfl, rfl, rfl, rfl, trivial⟩
    · have h := oi_pos hc h
      refine x_iload_n hF dX5_longestFlow_18 rfl rfl ?_
      refine x_goto (tgt := 23) hF dX5_longestFlow_19 (by decide) ?_
      obtain ⟨hg, h⟩ := og_some h
      obtain ⟨T2, eT2, h⟩ := ol_some h
      refine x_iast hF (shReplayer_9 ik) (ltReplayer_9 ik) hg rfl eT2 dX5_longestFlow_23 ?_
      refine x_iinc [(3, _), (0, _), (1, _), (2, _)] (v := (1 : Int32)) hF hN dX5_longestFlow_24 rfl (by decide) (by decide) rfl ?_
      refine x_goto (tgt := 2) hF dX5_longestFlow_27 (by decide) ?_
      obtain ⟨rfl, rfl⟩ := sm h
      exact x_sub (hag _ _ hk) ⟨rfl, rfl, rfl, rfl, trivial⟩
noncomputable def X5_longestFlow_2L (k : Nat) (x1 : Int32) (x2 : Int32) (a : Int32) (S : St) : Option (Unit × St) :=
  lp (fun (a : Int32) (S : St) => X5_longestFlow_2 k x1 x2 a S) a S
theorem xX5_longestFlow_2L {F : Cx} {k : Nat} (ik : isReplayer k) (hF : Ok F cX5_longestFlow RX5) (hN : nLF F 5) (hR : RmF F 0 0) {x1 : Int32} {x2 : Int32} {K : Unit → St → Prop} (hex30 : ∀ (q : Unit) (S : St), K (q) S → X F 0 30 [(0, .ref (gA F k))] [] S) {a : Int32} {S : St} {b : Unit} {S1 : St} (h : X5_longestFlow_2L k x1 x2 a S = some (b, S1)) (hk : K b S1) : X F 0 2 [(0, .ref (gA F k)), (1, .int x1), (2, .int x2), (3, .int a)] [] S := by
  unfold X5_longestFlow_2L at h
  exact lp_rule (Xh := fun (a : Int32) (S : St) => X F 0 2 [(0, .ref (gA F k)), (1, .int x1), (2, .int x2), (3, .int a)] [] S) (K := K) (fun a S r S1 h hk => xX5_longestFlow_2 ik hF hN hR (K := fun r S => match r with | .inl a => X F 0 2 [(0, .ref (gA F k)), (1, .int x1), (2, .int x2), (3, .int a)] [] S | .inr b => K b S) (fun _ _ h => h) (fun q S h => hex30 q S h) h (by cases r <;> exact hk)) h hk
noncomputable def X5_longestFlow_32 (k : Nat) (x3 : Int32) (S : St) : Option (((Int32) ⊕ Unit) × St) :=
  oi ((gi S (k + 6) 0) ≤ x3) (some (.inr (), S)) (og (inb x3 40) (oi ((gi S (k + 7) (ix x3)) = (gi S (k + 6) 4)) (some (.inl (x3 + (1 : Int32)), S)) (og (inb (gi S (k + 7) (ix x3)) 40) (og (inb (gi S 3 (ix (gi S (k + 7) (ix x3)))) 6) (og (inb (gi S (k + 7) (ix x3)) 40) (og (inb (gi S 3 (ix (gi S (k + 7) (ix x3)))) 6) (ol (si S (k + 9) (ix (gi S 3 (ix (gi S (k + 7) (ix x3))))) ((gi S (k + 9) (ix (gi S 3 (ix (gi S (k + 7) (ix x3)))))) + (gi S 4 (ix (gi S (k + 7) (ix x3)))))) (fun T5 => some (.inl (x3 + (1 : Int32)), T5)))))))))
set_option maxHeartbeats 4000000 in
set_option maxRecDepth 20000 in
theorem xX5_longestFlow_32 {F : Cx} {k : Nat} (ik : isReplayer k) (hF : Ok F cX5_longestFlow RX5) (hN : nLF F 5) (hR : RmF F 0 0) {x3 : Int32} {K : ((Int32) ⊕ Unit) → St → Prop} (hag : ∀ (a : Int32) (S : St), K (.inl a) S → X F 0 32 [(0, .ref (gA F k)), (3, .int a)] [] S) (hex100 : ∀ (q : Unit) (S : St), K (.inr q) S → X F 0 100 [(0, .ref (gA F k))] [] S) {S : St} {r : (Int32) ⊕ Unit} {S1 : St} (h : X5_longestFlow_32 k x3 S = some (r, S1)) (hk : K r S1) : X F 0 32 [(0, .ref (gA F k)), (3, .int x3)] [] S := by
  unfold X5_longestFlow_32 at h
  refine x_iload_n hF dX5_longestFlow_32 rfl rfl ?_
  refine x_aload_n hF dX5_longestFlow_33 rfl rfl ?_
  refine x_getr hF (shReplayer_0 ik) 2 rfl ck4 (ltReplayer_0 ik) (by decide) tw_237 rfl dX5_longestFlow_34 ?_
  refine x_geti hF (shReplayer_6 ik) 0 rfl ck1 (ltReplayer_6 ik) (by decide) tw_214 rfl dX5_longestFlow_37 ?_
  refine x_icmp_ge (tgt := 100) hF dX5_longestFlow_40 (by decide) (fun hc => ?_) (fun hc => ?_)
  · have h := oi_pos hc h
    obtain ⟨rfl, rfl⟩ := sm h
    exact x_sub (hex100 _ _ hk) ⟨rfl, trivial⟩
  · have h := oi_neg hc h
    refine x_aload_n hF dX5_longestFlow_43 rfl rfl ?_
    refine x_getr hF (shReplayer_0 ik) 2 rfl ck4 (ltReplayer_0 ik) (by decide) tw_237 rfl dX5_longestFlow_44 ?_
    refine x_getr hF (shReplayer_6 ik) 1 rfl ck1 (ltReplayer_6 ik) (by decide) tw_216 rfl dX5_longestFlow_47 ?_
    refine x_iload_n hF dX5_longestFlow_50 rfl rfl ?_
    obtain ⟨hg, h⟩ := og_some h
    refine x_iald hF (shReplayer_7 ik) (ltReplayer_7 ik) hg rfl dX5_longestFlow_51 ?_
    refine x_istore [(4, _), (0, _), (3, _)] hF hN dX5_longestFlow_52 (by decide) rfl ?_
    refine x_iload hF dX5_longestFlow_54 rfl ?_
    refine x_aload_n hF dX5_longestFlow_56 rfl rfl ?_
    refine x_getr hF (shReplayer_0 ik) 2 rfl ck4 (ltReplayer_0 ik) (by decide) tw_237 rfl dX5_longestFlow_57 ?_
    refine x_geti hF (shReplayer_6 ik) 4 rfl ck1 (ltReplayer_6 ik) (by decide) tw_222 rfl dX5_longestFlow_60 ?_
    refine x_icmp_eq (tgt := 94) hF dX5_longestFlow_63 (by decide) (fun hc => ?_) (fun hc => ?_)
    · have h := oi_pos hc h
      refine x_iinc [(3, _), (4, _), (0, _)] (v := (1 : Int32)) hF hN dX5_longestFlow_94 rfl (by decide) (by decide) rfl ?_
      refine x_goto (tgt := 32) hF dX5_longestFlow_97 (by decide) ?_
      obtain ⟨rfl, rfl⟩ := sm h
      exact x_sub (hag _ _ hk) ⟨rfl, rfl, trivial⟩
    · have h := oi_neg hc h
      refine x_aload_n hF dX5_longestFlow_66 rfl rfl ?_
      refine x_getr hF (shReplayer_0 ik) 3 rfl ck4 (ltReplayer_0 ik) (by decide) tw_238 rfl dX5_longestFlow_67 ?_
      refine x_aload_n hF dX5_longestFlow_70 rfl rfl ?_
      refine x_getr hF (shReplayer_0 ik) 0 rfl ck4 (ltReplayer_0 ik) (by decide) tw_234 rfl dX5_longestFlow_71 ?_
      refine x_getr hF sh1 2 rfl ck3 (by decide) (by decide) tw_125 rfl dX5_longestFlow_74 ?_
      refine x_iload hF dX5_longestFlow_77 rfl ?_
      obtain ⟨hg, h⟩ := og_some h
      refine x_iald hF sh3 (by decide) hg rfl dX5_longestFlow_79 ?_
      refine x_dup2 hF dX5_longestFlow_80 rfl rfl ?_
      obtain ⟨hg, h⟩ := og_some h
      refine x_iald hF (shReplayer_9 ik) (ltReplayer_9 ik) hg rfl dX5_longestFlow_81 ?_
      refine x_aload_n hF dX5_longestFlow_82 rfl rfl ?_
      refine x_getr hF (shReplayer_0 ik) 0 rfl ck4 (ltReplayer_0 ik) (by decide) tw_234 rfl dX5_longestFlow_83 ?_
      refine x_getr hF sh1 3 rfl ck3 (by decide) (by decide) tw_128 rfl dX5_longestFlow_86 ?_
      refine x_iload hF dX5_longestFlow_89 rfl ?_
      obtain ⟨hg, h⟩ := og_some h
      refine x_iald hF sh4 (by decide) hg rfl dX5_longestFlow_91 ?_
      refine x_iadd hF dX5_longestFlow_92 ?_
      obtain ⟨hg, h⟩ := og_some h
      obtain ⟨T5, eT5, h⟩ := ol_some h
      refine x_iast hF (shReplayer_9 ik) (ltReplayer_9 ik) hg rfl eT5 dX5_longestFlow_93 ?_
      refine x_iinc [(3, _), (4, _), (0, _)] (v := (1 : Int32)) hF hN dX5_longestFlow_94 rfl (by decide) (by decide) rfl ?_
      refine x_goto (tgt := 32) hF dX5_longestFlow_97 (by decide) ?_
      obtain ⟨rfl, rfl⟩ := sm h
      exact x_sub (hag _ _ hk) ⟨rfl, rfl, trivial⟩
noncomputable def X5_longestFlow_32L (k : Nat) (a : Int32) (S : St) : Option (Unit × St) :=
  lp (fun (a : Int32) (S : St) => X5_longestFlow_32 k a S) a S
theorem xX5_longestFlow_32L {F : Cx} {k : Nat} (ik : isReplayer k) (hF : Ok F cX5_longestFlow RX5) (hN : nLF F 5) (hR : RmF F 0 0) {K : Unit → St → Prop} (hex100 : ∀ (q : Unit) (S : St), K (q) S → X F 0 100 [(0, .ref (gA F k))] [] S) {a : Int32} {S : St} {b : Unit} {S1 : St} (h : X5_longestFlow_32L k a S = some (b, S1)) (hk : K b S1) : X F 0 32 [(0, .ref (gA F k)), (3, .int a)] [] S := by
  unfold X5_longestFlow_32L at h
  exact lp_rule (Xh := fun (a : Int32) (S : St) => X F 0 32 [(0, .ref (gA F k)), (3, .int a)] [] S) (K := K) (fun a S r S1 h hk => xX5_longestFlow_32 ik hF hN hR (K := fun r S => match r with | .inl a => X F 0 32 [(0, .ref (gA F k)), (3, .int a)] [] S | .inr b => K b S) (fun _ _ h => h) (fun q S h => hex100 q S h) h (by cases r <;> exact hk)) h hk
noncomputable def X5_longestFlow_105 (k : Nat) (x3 : Int32) (x4 : Int32) (S : St) : Option (((Int32 × Int32) ⊕ Int32) × St) :=
  oi ((6 : Int32) ≤ x4) (some (.inr x3, S)) (og (inb x4 6) (og (inb x3 6) (oi ((gi S (k + 9) (ix x4)) ≤ (gi S (k + 9) (ix x3))) (some (.inl (x3, (x4 + (1 : Int32))), S)) (some (.inl (x4, (x4 + (1 : Int32))), S)))))
set_option maxHeartbeats 4000000 in
set_option maxRecDepth 20000 in
theorem xX5_longestFlow_105 {F : Cx} {k : Nat} (ik : isReplayer k) (hF : Ok F cX5_longestFlow RX5) (hN : nLF F 5) (hR : RmF F 0 0) {x3 : Int32} {x4 : Int32} {K : ((Int32 × Int32) ⊕ Int32) → St → Prop} (hag : ∀ (a : Int32 × Int32) (S : St), K (.inl a) S → X F 0 105 [(0, .ref (gA F k)), (3, .int a.1), (4, .int a.2)] [] S) (hex137 : ∀ (q : Int32) (S : St), K (.inr q) S → X F 0 137 [(3, .int q)] [] S) {S : St} {r : (Int32 × Int32) ⊕ Int32} {S1 : St} (h : X5_longestFlow_105 k x3 x4 S = some (r, S1)) (hk : K r S1) : X F 0 105 [(0, .ref (gA F k)), (3, .int x3), (4, .int x4)] [] S := by
  unfold X5_longestFlow_105 at h
  refine x_iload hF dX5_longestFlow_105 rfl ?_
  refine x_bipush (v := (6 : Int32)) hF dX5_longestFlow_107 (by decide) ?_
  refine x_icmp_ge (tgt := 137) hF dX5_longestFlow_109 (by decide) (fun hc => ?_) (fun hc => ?_)
  · have h := oi_pos hc h
    obtain ⟨rfl, rfl⟩ := sm h
    exact x_sub (hex137 _ _ hk) ⟨rfl, trivial⟩
  · have h := oi_neg hc h
    refine x_aload_n hF dX5_longestFlow_112 rfl rfl ?_
    refine x_getr hF (shReplayer_0 ik) 3 rfl ck4 (ltReplayer_0 ik) (by decide) tw_238 rfl dX5_longestFlow_113 ?_
    refine x_iload hF dX5_longestFlow_116 rfl ?_
    obtain ⟨hg, h⟩ := og_some h
    refine x_iald hF (shReplayer_9 ik) (ltReplayer_9 ik) hg rfl dX5_longestFlow_118 ?_
    refine x_aload_n hF dX5_longestFlow_119 rfl rfl ?_
    refine x_getr hF (shReplayer_0 ik) 3 rfl ck4 (ltReplayer_0 ik) (by decide) tw_238 rfl dX5_longestFlow_120 ?_
    refine x_iload_n hF dX5_longestFlow_123 rfl rfl ?_
    obtain ⟨hg, h⟩ := og_some h
    refine x_iald hF (shReplayer_9 ik) (ltReplayer_9 ik) hg rfl dX5_longestFlow_124 ?_
    refine x_icmp_le (tgt := 131) hF dX5_longestFlow_125 (by decide) (fun hc => ?_) (fun hc => ?_)
    · have h := oi_pos hc h
      refine x_iinc [(4, _), (0, _), (3, _)] (v := (1 : Int32)) hF hN dX5_longestFlow_131 rfl (by decide) (by decide) rfl ?_
      refine x_goto (tgt := 105) hF dX5_longestFlow_134 (by decide) ?_
      obtain ⟨rfl, rfl⟩ := sm h
      exact x_sub (hag _ _ hk) ⟨rfl, rfl, rfl, trivial⟩
    · have h := oi_neg hc h
      refine x_iload hF dX5_longestFlow_128 rfl ?_
      refine x_istore_n [(3, _), (0, _), (4, _)] hF hN dX5_longestFlow_130 rfl (by decide) rfl ?_
      refine x_iinc [(4, _), (3, _), (0, _)] (v := (1 : Int32)) hF hN dX5_longestFlow_131 rfl (by decide) (by decide) rfl ?_
      refine x_goto (tgt := 105) hF dX5_longestFlow_134 (by decide) ?_
      obtain ⟨rfl, rfl⟩ := sm h
      exact x_sub (hag _ _ hk) ⟨rfl, rfl, rfl, trivial⟩
noncomputable def X5_longestFlow_105L (k : Nat) (a : Int32 × Int32) (S : St) : Option (Int32 × St) :=
  lp (fun (a : Int32 × Int32) (S : St) => X5_longestFlow_105 k a.1 a.2 S) a S
theorem xX5_longestFlow_105L {F : Cx} {k : Nat} (ik : isReplayer k) (hF : Ok F cX5_longestFlow RX5) (hN : nLF F 5) (hR : RmF F 0 0) {K : Int32 → St → Prop} (hex137 : ∀ (q : Int32) (S : St), K (q) S → X F 0 137 [(3, .int q)] [] S) {a : Int32 × Int32} {S : St} {b : Int32} {S1 : St} (h : X5_longestFlow_105L k a S = some (b, S1)) (hk : K b S1) : X F 0 105 [(0, .ref (gA F k)), (3, .int a.1), (4, .int a.2)] [] S := by
  unfold X5_longestFlow_105L at h
  exact lp_rule (Xh := fun (a : Int32 × Int32) (S : St) => X F 0 105 [(0, .ref (gA F k)), (3, .int a.1), (4, .int a.2)] [] S) (K := K) (fun a S r S1 h hk => xX5_longestFlow_105 ik hF hN hR (K := fun r S => match r with | .inl a => X F 0 105 [(0, .ref (gA F k)), (3, .int a.1), (4, .int a.2)] [] S | .inr b => K b S) (fun _ _ h => h) (fun q S h => hex137 q S h) h (by cases r <;> exact hk)) h hk
noncomputable def X5_longestFlow (k : Nat) (x1 : Int32) (x2 : Int32) (S : St) : Option (Int32 × St) :=
  ob (X5_longestFlow_2L k x1 x2 (0 : Int32) S) (fun b3 S4 => ob (X5_longestFlow_32L k (0 : Int32) S4) (fun b6 S7 => ob (X5_longestFlow_105L k ((0 : Int32), (1 : Int32)) S7) (fun b8 S9 => some (b8, S9))))
set_option maxHeartbeats 4000000 in
set_option maxRecDepth 20000 in
theorem ctX5_longestFlow {l : Launch} {G : Ga} {k : Nat} (ik : isReplayer k) {x1 : Int32} {x2 : Int32} (hl : l.stackTraces = false) {S : St} {r : Int32} {S1 : St} (h : X5_longestFlow k x1 x2 S = some (r, S1)) : CT l G 0 yX5_longestFlow cX5_longestFlow 5 (some .int) [.ref (G.1 k), .int x1, .int x2] S (some (.int r)) S1 := by
  refine ct_of hl (by decide) (Nat.le_of_ble_eq_true rfl) (fun F hFl hFG hF hN hR hret => ?_)
  subst hFl hFG
  show X F 0 0 [(0, .ref (gA F k)), (1, .int x1), (2, .int x2)] [] S
  have hret : ∀ (v : Int32) (S : St) (pc : Nat) (ls : List (Nat × Value)), (v = r ∧ S = S1) → decode cX5_longestFlow pc = .ok (.ireturn, 1) → X F 0 pc ls [.int v] S := fun v S2 pc ls hq hd => by obtain ⟨rfl, rfl⟩ := hq; exact hret.1 pc ls v rfl rfl hd
  have hk : r = r ∧ S1 = S1 := ⟨rfl, rfl⟩
  unfold X5_longestFlow at h
  refine x_iconst (v := (0 : Int32)) hF dX5_longestFlow_0 (by decide) ?_
  refine x_istore_n [(3, _), (0, _), (1, _), (2, _)] hF hN dX5_longestFlow_1 rfl (by decide) rfl ?_
  obtain ⟨b3, S4, hlb3, h⟩ := ob_some h
  refine x_sub (xX5_longestFlow_2L ik hF hN hR (K := fun bb SS => bb = b3 ∧ SS = S4) ?_ hlb3 ⟨rfl, rfl⟩) ⟨rfl, rfl, rfl, rfl, trivial⟩
  rintro _ _ ⟨_, rfl⟩
  refine x_iconst (v := (0 : Int32)) hF dX5_longestFlow_30 (by decide) ?_
  refine x_istore_n [(3, _), (0, _)] hF hN dX5_longestFlow_31 rfl (by decide) rfl ?_
  obtain ⟨b6, S7, hlb6, h⟩ := ob_some h
  refine x_sub (xX5_longestFlow_32L ik hF hN hR (K := fun bb SS => bb = b6 ∧ SS = S7) ?_ hlb6 ⟨rfl, rfl⟩) ⟨rfl, rfl, trivial⟩
  rintro _ _ ⟨_, rfl⟩
  refine x_iconst (v := (0 : Int32)) hF dX5_longestFlow_100 (by decide) ?_
  refine x_istore_n [(3, _), (0, _)] hF hN dX5_longestFlow_101 rfl (by decide) rfl ?_
  refine x_iconst (v := (1 : Int32)) hF dX5_longestFlow_102 (by decide) ?_
  refine x_istore [(4, _), (3, _), (0, _)] hF hN dX5_longestFlow_103 (by decide) rfl ?_
  obtain ⟨b8, S9, hlb8, h⟩ := ob_some h
  refine x_sub (xX5_longestFlow_105L ik hF hN hR (K := fun bb SS => bb = b8 ∧ SS = S9) ?_ hlb8 ⟨rfl, rfl⟩) ⟨rfl, rfl, rfl, trivial⟩
  rintro _ _ ⟨rfl, rfl⟩
  refine x_iload_n hF dX5_longestFlow_137 rfl rfl ?_
  obtain ⟨rfl, rfl⟩ := sm h
  exact hret _ _ _ _ hk dX5_longestFlow_138
noncomputable def X5_makesRoomInLongestFlow_2 (k : Nat) (x1 : Int32) (x2 : Int32) (x3 : Int32) (S : St) : Option (((Int32) ⊕ (Unit ⊕ Unit)) × St) :=
  oi ((40 : Int32) < x3) (some (.inr (.inr ()), S)) (ob (X5_holds k ((gi S (k + 6) 3) + x2) S) (fun r1 S2 => oi (r1 = 0) (ob (X5_longestFlow k x1 x2 S2) (fun r3 S4 => oi (r3 = x1) (some (.inr (.inl ()), S4)) (ob (X5_lastNotBegunOf k r3 S4) (fun r5 S6 => ob (X2_takeOut (k + 6) r5 S6) (fun r7 S8 => ob (X3_noteDrop (k + 1) r7 S8) (fun r9 S10 => some (.inl (x3 + (1 : Int32)), S10))))))) (some (.inr (.inr ()), S2))))
set_option maxHeartbeats 4000000 in
set_option maxRecDepth 20000 in
theorem xX5_makesRoomInLongestFlow_2 {F : Cx} {k : Nat} (ik : isReplayer k) (hF : Ok F cX5_makesRoomInLongestFlow RX5) (hN : nLF F 5) (hR : RmF F 2 0) {x1 : Int32} {x2 : Int32} {x3 : Int32} {K : ((Int32) ⊕ (Unit ⊕ Unit)) → St → Prop} (hag : ∀ (a : Int32) (S : St), K (.inl a) S → X F 0 2 [(0, .ref (gA F k)), (1, .int x1), (2, .int x2), (3, .int a)] [] S) (hex38 : ∀ (q : Unit) (S : St), K (.inr (.inl q)) S → X F 0 38 [] [] S) (hex66 : ∀ (q : Unit) (S : St), K (.inr (.inr q)) S → X F 0 66 [] [] S) {S : St} {r : (Int32) ⊕ (Unit ⊕ Unit)} {S1 : St} (h : X5_makesRoomInLongestFlow_2 k x1 x2 x3 S = some (r, S1)) (hk : K r S1) : X F 0 2 [(0, .ref (gA F k)), (1, .int x1), (2, .int x2), (3, .int x3)] [] S := by
  unfold X5_makesRoomInLongestFlow_2 at h
  refine x_iload_n hF dX5_makesRoomInLongestFlow_2 rfl rfl ?_
  refine x_bipush (v := (40 : Int32)) hF dX5_makesRoomInLongestFlow_3 (by decide) ?_
  refine x_icmp_gt (tgt := 66) hF dX5_makesRoomInLongestFlow_5 (by decide) (fun hc => ?_) (fun hc => ?_)
  · have h := oi_pos hc h
    obtain ⟨rfl, rfl⟩ := sm h
    exact x_sub (hex66 _ _ hk) trivial
  · have h := oi_neg hc h
    refine x_aload_n hF dX5_makesRoomInLongestFlow_8 rfl rfl ?_
    refine x_aload_n hF dX5_makesRoomInLongestFlow_9 rfl rfl ?_
    refine x_getr hF (shReplayer_0 ik) 2 rfl ck4 (ltReplayer_0 ik) (by decide) tw_237 rfl dX5_makesRoomInLongestFlow_10 ?_
    refine x_geti hF (shReplayer_6 ik) 3 rfl ck1 (ltReplayer_6 ik) (by decide) tw_220 rfl dX5_makesRoomInLongestFlow_13 ?_
    refine x_iload_n hF dX5_makesRoomInLongestFlow_16 rfl rfl ?_
    refine x_iadd hF dX5_makesRoomInLongestFlow_17 ?_
    obtain ⟨r1, S2, hcall, h⟩ := ob_some h
    refine x_cVi hF hN hR (ctX5_holds ik hF.tr hcall) mwX5_holds miX5_holds (shReplayer_0 ik) ck4 (ltReplayer_0 ik) tw_382 ⟨by decide, by decide⟩ rfl rfl (Nat.le_of_ble_eq_true rfl) dX5_makesRoomInLongestFlow_18 ?_
    refine x_if_ne (tgt := 66) hF dX5_makesRoomInLongestFlow_21 (by decide) (fun hc => ?_) (fun hc => ?_)
    · have h := oi_neg hc h
      obtain ⟨rfl, rfl⟩ := sm h
      exact x_sub (hex66 _ _ hk) trivial
    · have h := oi_pos hc h
      refine x_aload_n hF dX5_makesRoomInLongestFlow_24 rfl rfl ?_
      refine x_iload_n hF dX5_makesRoomInLongestFlow_25 rfl rfl ?_
      refine x_iload_n hF dX5_makesRoomInLongestFlow_26 rfl rfl ?_
      obtain ⟨r3, S4, hcall, h⟩ := ob_some h
      refine x_cVi hF hN hR (ctX5_longestFlow ik hF.tr hcall) mwX5_longestFlow miX5_longestFlow (shReplayer_0 ik) ck4 (ltReplayer_0 ik) tw_412 ⟨by decide, by decide⟩ rfl rfl (Nat.le_of_ble_eq_true rfl) dX5_makesRoomInLongestFlow_27 ?_
      refine x_istore [(4, _), (0, _), (1, _), (2, _), (3, _)] hF hN dX5_makesRoomInLongestFlow_30 (by decide) rfl ?_
      refine x_iload hF dX5_makesRoomInLongestFlow_32 rfl ?_
      refine x_iload_n hF dX5_makesRoomInLongestFlow_34 rfl rfl ?_
      refine x_icmp_ne (tgt := 40) hF dX5_makesRoomInLongestFlow_35 (by decide) (fun hc => ?_) (fun hc => ?_)
      · have h := oi_neg hc h
        refine x_aload_n hF dX5_makesRoomInLongestFlow_40 rfl rfl ?_
        refine x_getr hF (shReplayer_0 ik) 1 rfl ck4 (ltReplayer_0 ik) (by decide) tw_235 rfl dX5_makesRoomInLongestFlow_41 ?_
        refine x_aload_n hF dX5_makesRoomInLongestFlow_44 rfl rfl ?_
        refine x_getr hF (shReplayer_0 ik) 2 rfl ck4 (ltReplayer_0 ik) (by decide) tw_237 rfl dX5_makesRoomInLongestFlow_45 ?_
        refine x_aload_n hF dX5_makesRoomInLongestFlow_48 rfl rfl ?_
        refine x_iload hF dX5_makesRoomInLongestFlow_49 rfl ?_
        obtain ⟨r5, S6, hcall, h⟩ := ob_some h
        refine x_cVi hF hN hR (ctX5_lastNotBegunOf ik hF.tr hcall) mwX5_lastNotBegunOf miX5_lastNotBegunOf (shReplayer_0 ik) ck4 (ltReplayer_0 ik) tw_416 ⟨by decide, by decide⟩ rfl rfl (Nat.le_of_ble_eq_true rfl) dX5_makesRoomInLongestFlow_51 ?_
        obtain ⟨r7, S8, hcall, h⟩ := ob_some h
        refine x_cVi hF hN hR (ctX2_takeOut (isReplayer_Line ik) hF.tr hcall) mwX2_takeOut miX2_takeOut (shReplayer_6 ik) ck1 (ltReplayer_6 ik) tw_397 ⟨by decide, by decide⟩ rfl rfl (Nat.le_of_ble_eq_true rfl) dX5_makesRoomInLongestFlow_54 ?_
        obtain ⟨r9, S10, hcall, h⟩ := ob_some h
        refine x_cVv hF hN hR (ctX3_noteDrop (isReplayer_Outcome ik) hF.tr hcall) mwX3_noteDrop miX3_noteDrop (shReplayer_1 ik) ck2 (ltReplayer_1 ik) tw_404 ⟨by decide, by decide⟩ rfl rfl (Nat.le_of_ble_eq_true rfl) dX5_makesRoomInLongestFlow_57 ?_
        refine x_iinc [(3, _), (4, _), (0, _), (1, _), (2, _)] (v := (1 : Int32)) hF hN dX5_makesRoomInLongestFlow_60 rfl (by decide) (by decide) rfl ?_
        refine x_goto (tgt := 2) hF dX5_makesRoomInLongestFlow_63 (by decide) ?_
        obtain ⟨rfl, rfl⟩ := sm h
        exact x_sub (hag _ _ hk) ⟨rfl, rfl, rfl, rfl, trivial⟩
      · have h := oi_pos hc h
        obtain ⟨rfl, rfl⟩ := sm h
        exact x_sub (hex38 _ _ hk) trivial
noncomputable def X5_makesRoomInLongestFlow_2L (k : Nat) (x1 : Int32) (x2 : Int32) (a : Int32) (S : St) : Option ((Unit ⊕ Unit) × St) :=
  lp (fun (a : Int32) (S : St) => X5_makesRoomInLongestFlow_2 k x1 x2 a S) a S
theorem xX5_makesRoomInLongestFlow_2L {F : Cx} {k : Nat} (ik : isReplayer k) (hF : Ok F cX5_makesRoomInLongestFlow RX5) (hN : nLF F 5) (hR : RmF F 2 0) {x1 : Int32} {x2 : Int32} {K : (Unit ⊕ Unit) → St → Prop} (hex38 : ∀ (q : Unit) (S : St), K ((.inl q)) S → X F 0 38 [] [] S) (hex66 : ∀ (q : Unit) (S : St), K ((.inr q)) S → X F 0 66 [] [] S) {a : Int32} {S : St} {b : Unit ⊕ Unit} {S1 : St} (h : X5_makesRoomInLongestFlow_2L k x1 x2 a S = some (b, S1)) (hk : K b S1) : X F 0 2 [(0, .ref (gA F k)), (1, .int x1), (2, .int x2), (3, .int a)] [] S := by
  unfold X5_makesRoomInLongestFlow_2L at h
  exact lp_rule (Xh := fun (a : Int32) (S : St) => X F 0 2 [(0, .ref (gA F k)), (1, .int x1), (2, .int x2), (3, .int a)] [] S) (K := K) (fun a S r S1 h hk => xX5_makesRoomInLongestFlow_2 ik hF hN hR (K := fun r S => match r with | .inl a => X F 0 2 [(0, .ref (gA F k)), (1, .int x1), (2, .int x2), (3, .int a)] [] S | .inr b => K b S) (fun _ _ h => h) (fun q S h => hex38 q S h) (fun q S h => hex66 q S h) h (by cases r <;> exact hk)) h hk
noncomputable def X5_makesRoomInLongestFlow (k : Nat) (x1 : Int32) (x2 : Int32) (S : St) : Option (Int32 × St) :=
  ob (X5_makesRoomInLongestFlow_2L k x1 x2 (0 : Int32) S) (fun b11 S12 => match b11 with | .inl q13 => some ((0 : Int32), S12) | .inr q14 => some ((1 : Int32), S12))
set_option maxHeartbeats 4000000 in
set_option maxRecDepth 20000 in
theorem ctX5_makesRoomInLongestFlow {l : Launch} {G : Ga} {k : Nat} (ik : isReplayer k) {x1 : Int32} {x2 : Int32} (hl : l.stackTraces = false) {S : St} {r : Int32} {S1 : St} (h : X5_makesRoomInLongestFlow k x1 x2 S = some (r, S1)) : CT l G 2 yX5_makesRoomInLongestFlow cX5_makesRoomInLongestFlow 5 (some .boolean) [.ref (G.1 k), .int x1, .int x2] S (some (.int r)) S1 := by
  refine ct_of hl (by decide) (Nat.le_of_ble_eq_true rfl) (fun F hFl hFG hF hN hR hret => ?_)
  subst hFl hFG
  show X F 0 0 [(0, .ref (gA F k)), (1, .int x1), (2, .int x2)] [] S
  have hret : ∀ (v : Int32) (S : St) (pc : Nat) (ls : List (Nat × Value)), isB v → (v = r ∧ S = S1) → decode cX5_makesRoomInLongestFlow pc = .ok (.ireturn, 1) → X F 0 pc ls [.int v] S := fun v S2 pc ls hb hq hd => by obtain ⟨rfl, rfl⟩ := hq; exact hret.2.1 pc ls v rfl hb rfl hd
  have hk : r = r ∧ S1 = S1 := ⟨rfl, rfl⟩
  unfold X5_makesRoomInLongestFlow at h
  refine x_iconst (v := (0 : Int32)) hF dX5_makesRoomInLongestFlow_0 (by decide) ?_
  refine x_istore_n [(3, _), (0, _), (1, _), (2, _)] hF hN dX5_makesRoomInLongestFlow_1 rfl (by decide) rfl ?_
  obtain ⟨b11, S12, hlb11, h⟩ := ob_some h
  refine x_sub (xX5_makesRoomInLongestFlow_2L ik hF hN hR (K := fun bb SS => bb = b11 ∧ SS = S12) ?_ ?_ hlb11 ⟨rfl, rfl⟩) ⟨rfl, rfl, rfl, rfl, trivial⟩
  · rintro _ _ ⟨rfl, rfl⟩
    dsimp only at h
    refine x_iconst (v := (0 : Int32)) hF dX5_makesRoomInLongestFlow_38 (by decide) ?_
    obtain ⟨rfl, rfl⟩ := sm h
    exact hret _ _ _ _ (by decide) hk dX5_makesRoomInLongestFlow_39
  · rintro _ _ ⟨rfl, rfl⟩
    dsimp only at h
    refine x_iconst (v := (1 : Int32)) hF dX5_makesRoomInLongestFlow_66 (by decide) ?_
    obtain ⟨rfl, rfl⟩ := sm h
    exact hret _ _ _ _ (by decide) hk dX5_makesRoomInLongestFlow_67
noncomputable def X5_admits (k : Nat) (x1 : Int32) (x2 : Int32) (S : St) : Option (Int32 × St) :=
  og (inb x1 40) (og (inb x1 40) (ob (X5_holds k (gi S 4 (ix x1)) S) (fun r1 S2 => oi (r1 = 0) (some ((0 : Int32), S2)) (oi (x2 = (1 : Int32)) (ob (X5_makesRoomAtHead k (gi S 4 (ix x1)) S2) (fun r4 S5 => og (isB r4) (some (r4, S5)))) (oi (x2 = (2 : Int32)) (ob (X5_makesRoomInLongestFlow k (gi S 3 (ix x1)) (gi S 4 (ix x1)) S2) (fun r7 S8 => og (isB r7) (some (r7, S8)))) (oi (x2 = (3 : Int32)) (ob (X5_holds k ((gi S2 (k + 6) 3) + (gi S 4 (ix x1))) S2) (fun r10 S11 => oi (r10 = 0) (some ((0 : Int32), S11)) (ob (X5_bytesForThreshold k (gi S 3 (ix x1)) (gi S 4 (ix x1)) S11) (fun r12 S13 => ob (X5_holds k ((gi S11 (k + 6) 3) + r12) S13) (fun r14 S15 => oi (r14 = 0) (some ((0 : Int32), S15)) (some ((1 : Int32), S15))))))) (oi (x2 = (4 : Int32)) (ob (X5_holds k ((gi S2 (k + 6) 3) + (gi S 4 (ix x1))) S2) (fun r17 S18 => oi (r17 = 0) (some ((0 : Int32), S18)) (ob (X5_isDroppedEarly k S18) (fun r19 S20 => oi (r19 = 0) (some ((1 : Int32), S20)) (some ((0 : Int32), S20)))))) (ob (X5_holds k ((gi S2 (k + 6) 3) + (gi S 4 (ix x1))) S2) (fun r21 S22 => og (isB r21) (some (r21, S22)))))))))))
set_option maxHeartbeats 4000000 in
set_option maxRecDepth 20000 in
theorem ctX5_admits {l : Launch} {G : Ga} {k : Nat} (ik : isReplayer k) {x1 : Int32} {x2 : Int32} (hl : l.stackTraces = false) {S : St} {r : Int32} {S1 : St} (h : X5_admits k x1 x2 S = some (r, S1)) : CT l G 3 yX5_admits cX5_admits 5 (some .boolean) [.ref (G.1 k), .int x1, .int x2] S (some (.int r)) S1 := by
  refine ct_of hl (by decide) (Nat.le_of_ble_eq_true rfl) (fun F hFl hFG hF hN hR hret => ?_)
  subst hFl hFG
  show X F 0 0 [(0, .ref (gA F k)), (1, .int x1), (2, .int x2)] [] S
  have hret : ∀ (v : Int32) (S : St) (pc : Nat) (ls : List (Nat × Value)), isB v → (v = r ∧ S = S1) → decode cX5_admits pc = .ok (.ireturn, 1) → X F 0 pc ls [.int v] S := fun v S2 pc ls hb hq hd => by obtain ⟨rfl, rfl⟩ := hq; exact hret.2.1 pc ls v rfl hb rfl hd
  have hk : r = r ∧ S1 = S1 := ⟨rfl, rfl⟩
  unfold X5_admits at h
  refine x_aload_n hF dX5_admits_0 rfl rfl ?_
  refine x_getr hF (shReplayer_0 ik) 0 rfl ck4 (ltReplayer_0 ik) (by decide) tw_234 rfl dX5_admits_1 ?_
  refine x_getr hF sh1 2 rfl ck3 (by decide) (by decide) tw_125 rfl dX5_admits_4 ?_
  refine x_iload_n hF dX5_admits_7 rfl rfl ?_
  obtain ⟨hg, h⟩ := og_some h
  refine x_iald hF sh3 (by decide) hg rfl dX5_admits_8 ?_
  refine x_istore_n [(3, _), (0, _), (1, _), (2, _)] hF hN dX5_admits_9 rfl (by decide) rfl ?_
  refine x_aload_n hF dX5_admits_10 rfl rfl ?_
  refine x_getr hF (shReplayer_0 ik) 0 rfl ck4 (ltReplayer_0 ik) (by decide) tw_234 rfl dX5_admits_11 ?_
  refine x_getr hF sh1 3 rfl ck3 (by decide) (by decide) tw_128 rfl dX5_admits_14 ?_
  refine x_iload_n hF dX5_admits_17 rfl rfl ?_
  obtain ⟨hg, h⟩ := og_some h
  refine x_iald hF sh4 (by decide) hg rfl dX5_admits_18 ?_
  refine x_istore [(4, _), (3, _), (0, _), (1, _), (2, _)] hF hN dX5_admits_19 (by decide) rfl ?_
  refine x_aload_n hF dX5_admits_21 rfl rfl ?_
  refine x_iload hF dX5_admits_22 rfl ?_
  obtain ⟨r1, S2, hcall, h⟩ := ob_some h
  refine x_cVi hF hN hR (ctX5_holds ik hF.tr hcall) mwX5_holds miX5_holds (shReplayer_0 ik) ck4 (ltReplayer_0 ik) tw_382 ⟨by decide, by decide⟩ rfl rfl (Nat.le_of_ble_eq_true rfl) dX5_admits_24 ?_
  refine x_if_ne (tgt := 32) hF dX5_admits_27 (by decide) (fun hc => ?_) (fun hc => ?_)
  · have h := oi_neg hc h
    refine x_iload_n hF dX5_admits_32 rfl rfl ?_
    by_cases hc3 : x2 = (1 : Int32)
    · have h := oi_pos hc3 h
      refine x_tsIn (tgt := 64) (off := 31) hF dX5_admits_33 hc3 (by decide) (by decide) (by decide) (by decide) ?_
      refine x_aload_n hF dX5_admits_64 rfl rfl ?_
      refine x_iload hF dX5_admits_65 rfl ?_
      obtain ⟨r4, S5, hcall, h⟩ := ob_some h
      refine x_cVi hF hN hR (ctX5_makesRoomAtHead ik hF.tr hcall) mwX5_makesRoomAtHead miX5_makesRoomAtHead (shReplayer_0 ik) ck4 (ltReplayer_0 ik) tw_389 ⟨by decide, by decide⟩ rfl rfl (Nat.le_of_ble_eq_true rfl) dX5_admits_67 ?_
      obtain ⟨hg, h⟩ := og_some h
      obtain ⟨rfl, rfl⟩ := sm h
      exact hret _ _ _ _ hg hk dX5_admits_70
    have h := oi_neg hc3 h
    by_cases hc6 : x2 = (2 : Int32)
    · have h := oi_pos hc6 h
      refine x_tsIn (tgt := 71) (off := 38) hF dX5_admits_33 hc6 (by decide) (by decide) (by decide) (by decide) ?_
      refine x_aload_n hF dX5_admits_71 rfl rfl ?_
      refine x_iload_n hF dX5_admits_72 rfl rfl ?_
      refine x_iload hF dX5_admits_73 rfl ?_
      obtain ⟨r7, S8, hcall, h⟩ := ob_some h
      refine x_cVi hF hN hR (ctX5_makesRoomInLongestFlow ik hF.tr hcall) mwX5_makesRoomInLongestFlow miX5_makesRoomInLongestFlow (shReplayer_0 ik) ck4 (ltReplayer_0 ik) tw_408 ⟨by decide, by decide⟩ rfl rfl (Nat.le_of_ble_eq_true rfl) dX5_admits_75 ?_
      obtain ⟨hg, h⟩ := og_some h
      obtain ⟨rfl, rfl⟩ := sm h
      exact hret _ _ _ _ hg hk dX5_admits_78
    have h := oi_neg hc6 h
    by_cases hc9 : x2 = (3 : Int32)
    · have h := oi_pos hc9 h
      refine x_tsIn (tgt := 79) (off := 46) hF dX5_admits_33 hc9 (by decide) (by decide) (by decide) (by decide) ?_
      refine x_aload_n hF dX5_admits_79 rfl rfl ?_
      refine x_aload_n hF dX5_admits_80 rfl rfl ?_
      refine x_getr hF (shReplayer_0 ik) 2 rfl ck4 (ltReplayer_0 ik) (by decide) tw_237 rfl dX5_admits_81 ?_
      refine x_geti hF (shReplayer_6 ik) 3 rfl ck1 (ltReplayer_6 ik) (by decide) tw_220 rfl dX5_admits_84 ?_
      refine x_iload hF dX5_admits_87 rfl ?_
      refine x_iadd hF dX5_admits_89 ?_
      obtain ⟨r10, S11, hcall, h⟩ := ob_some h
      refine x_cVi hF hN hR (ctX5_holds ik hF.tr hcall) mwX5_holds miX5_holds (shReplayer_0 ik) ck4 (ltReplayer_0 ik) tw_382 ⟨by decide, by decide⟩ rfl rfl (Nat.le_of_ble_eq_true rfl) dX5_admits_90 ?_
      refine x_if_eq (tgt := 122) hF dX5_admits_93 (by decide) (fun hc => ?_) (fun hc => ?_)
      · have h := oi_pos hc h
        refine x_iconst (v := (0 : Int32)) hF dX5_admits_122 (by decide) ?_
        obtain ⟨rfl, rfl⟩ := sm h
        exact hret _ _ _ _ (by decide) hk dX5_admits_123
      · have h := oi_neg hc h
        refine x_aload_n hF dX5_admits_96 rfl rfl ?_
        refine x_aload_n hF dX5_admits_97 rfl rfl ?_
        refine x_getr hF (shReplayer_0 ik) 2 rfl ck4 (ltReplayer_0 ik) (by decide) tw_237 rfl dX5_admits_98 ?_
        refine x_geti hF (shReplayer_6 ik) 3 rfl ck1 (ltReplayer_6 ik) (by decide) tw_220 rfl dX5_admits_101 ?_
        refine x_aload_n hF dX5_admits_104 rfl rfl ?_
        refine x_iload_n hF dX5_admits_105 rfl rfl ?_
        refine x_iload hF dX5_admits_106 rfl ?_
        obtain ⟨r12, S13, hcall, h⟩ := ob_some h
        refine x_cVi hF hN hR (ctX5_bytesForThreshold ik hF.tr hcall) mwX5_bytesForThreshold miX5_bytesForThreshold (shReplayer_0 ik) ck4 (ltReplayer_0 ik) tw_420 ⟨by decide, by decide⟩ rfl rfl (Nat.le_of_ble_eq_true rfl) dX5_admits_108 ?_
        refine x_iadd hF dX5_admits_111 ?_
        obtain ⟨r14, S15, hcall, h⟩ := ob_some h
        refine x_cVi hF hN hR (ctX5_holds ik hF.tr hcall) mwX5_holds miX5_holds (shReplayer_0 ik) ck4 (ltReplayer_0 ik) tw_382 ⟨by decide, by decide⟩ rfl rfl (Nat.le_of_ble_eq_true rfl) dX5_admits_112 ?_
        refine x_if_eq (tgt := 122) hF dX5_admits_115 (by decide) (fun hc => ?_) (fun hc => ?_)
        · have h := oi_pos hc h
          refine x_iconst (v := (0 : Int32)) hF dX5_admits_122 (by decide) ?_
          obtain ⟨rfl, rfl⟩ := sm h
          exact hret _ _ _ _ (by decide) hk dX5_admits_123
        · have h := oi_neg hc h
          refine x_iconst (v := (1 : Int32)) hF dX5_admits_118 (by decide) ?_
          refine x_goto (tgt := 123) hF dX5_admits_119 (by decide) ?_
          obtain ⟨rfl, rfl⟩ := sm h
          exact hret _ _ _ _ (by decide) hk dX5_admits_123
    have h := oi_neg hc9 h
    by_cases hc16 : x2 = (4 : Int32)
    · have h := oi_pos hc16 h
      refine x_tsIn (tgt := 124) (off := 91) hF dX5_admits_33 hc16 (by decide) (by decide) (by decide) (by decide) ?_
      refine x_aload_n hF dX5_admits_124 rfl rfl ?_
      refine x_aload_n hF dX5_admits_125 rfl rfl ?_
      refine x_getr hF (shReplayer_0 ik) 2 rfl ck4 (ltReplayer_0 ik) (by decide) tw_237 rfl dX5_admits_126 ?_
      refine x_geti hF (shReplayer_6 ik) 3 rfl ck1 (ltReplayer_6 ik) (by decide) tw_220 rfl dX5_admits_129 ?_
      refine x_iload hF dX5_admits_132 rfl ?_
      refine x_iadd hF dX5_admits_134 ?_
      obtain ⟨r17, S18, hcall, h⟩ := ob_some h
      refine x_cVi hF hN hR (ctX5_holds ik hF.tr hcall) mwX5_holds miX5_holds (shReplayer_0 ik) ck4 (ltReplayer_0 ik) tw_382 ⟨by decide, by decide⟩ rfl rfl (Nat.le_of_ble_eq_true rfl) dX5_admits_135 ?_
      refine x_if_eq (tgt := 152) hF dX5_admits_138 (by decide) (fun hc => ?_) (fun hc => ?_)
      · have h := oi_pos hc h
        refine x_iconst (v := (0 : Int32)) hF dX5_admits_152 (by decide) ?_
        obtain ⟨rfl, rfl⟩ := sm h
        exact hret _ _ _ _ (by decide) hk dX5_admits_153
      · have h := oi_neg hc h
        refine x_aload_n hF dX5_admits_141 rfl rfl ?_
        obtain ⟨r19, S20, hcall, h⟩ := ob_some h
        refine x_cVi hF hN hR (ctX5_isDroppedEarly ik hF.tr hcall) mwX5_isDroppedEarly miX5_isDroppedEarly (shReplayer_0 ik) ck4 (ltReplayer_0 ik) tw_427 ⟨by decide, by decide⟩ rfl rfl (Nat.le_of_ble_eq_true rfl) dX5_admits_142 ?_
        refine x_if_ne (tgt := 152) hF dX5_admits_145 (by decide) (fun hc => ?_) (fun hc => ?_)
        · have h := oi_neg hc h
          refine x_iconst (v := (0 : Int32)) hF dX5_admits_152 (by decide) ?_
          obtain ⟨rfl, rfl⟩ := sm h
          exact hret _ _ _ _ (by decide) hk dX5_admits_153
        · have h := oi_pos hc h
          refine x_iconst (v := (1 : Int32)) hF dX5_admits_148 (by decide) ?_
          refine x_goto (tgt := 153) hF dX5_admits_149 (by decide) ?_
          obtain ⟨rfl, rfl⟩ := sm h
          exact hret _ _ _ _ (by decide) hk dX5_admits_153
    have h := oi_neg hc16 h
    refine x_tsOut (tgt := 154) hF dX5_admits_33 (by have e1 := i32ne 1 (by decide) hc3; have e2 := i32ne 2 (by decide) hc6; have e3 := i32ne 3 (by decide) hc9; have e4 := i32ne 4 (by decide) hc16; omega) (by decide) ?_
    refine x_aload_n hF dX5_admits_154 rfl rfl ?_
    refine x_aload_n hF dX5_admits_155 rfl rfl ?_
    refine x_getr hF (shReplayer_0 ik) 2 rfl ck4 (ltReplayer_0 ik) (by decide) tw_237 rfl dX5_admits_156 ?_
    refine x_geti hF (shReplayer_6 ik) 3 rfl ck1 (ltReplayer_6 ik) (by decide) tw_220 rfl dX5_admits_159 ?_
    refine x_iload hF dX5_admits_162 rfl ?_
    refine x_iadd hF dX5_admits_164 ?_
    obtain ⟨r21, S22, hcall, h⟩ := ob_some h
    refine x_cVi hF hN hR (ctX5_holds ik hF.tr hcall) mwX5_holds miX5_holds (shReplayer_0 ik) ck4 (ltReplayer_0 ik) tw_382 ⟨by decide, by decide⟩ rfl rfl (Nat.le_of_ble_eq_true rfl) dX5_admits_165 ?_
    obtain ⟨hg, h⟩ := og_some h
    obtain ⟨rfl, rfl⟩ := sm h
    exact hret _ _ _ _ hg hk dX5_admits_168
  · have h := oi_pos hc h
    refine x_iconst (v := (0 : Int32)) hF dX5_admits_30 (by decide) ?_
    obtain ⟨rfl, rfl⟩ := sm h
    exact hret _ _ _ _ (by decide) hk dX5_admits_31
noncomputable def X5_isLastOfItsTick (k : Nat) (x1 : Int32) (S : St) : Option (Int32 × St) :=
  oi ((gi S 1 0) ≤ (x1 + (1 : Int32))) (some ((1 : Int32), S)) (og (inb (x1 + (1 : Int32)) 40) (og (inb x1 40) (oi ((gi S 2 (ix (x1 + (1 : Int32)))) ≤ (gi S 2 (ix x1))) (some ((0 : Int32), S)) (some ((1 : Int32), S)))))
set_option maxHeartbeats 4000000 in
set_option maxRecDepth 20000 in
theorem ctX5_isLastOfItsTick {l : Launch} {G : Ga} {k : Nat} (ik : isReplayer k) {x1 : Int32} (hl : l.stackTraces = false) {S : St} {r : Int32} {S1 : St} (h : X5_isLastOfItsTick k x1 S = some (r, S1)) : CT l G 0 yX5_isLastOfItsTick cX5_isLastOfItsTick 2 (some .boolean) [.ref (G.1 k), .int x1] S (some (.int r)) S1 := by
  refine ct_of hl (by decide) (Nat.le_of_ble_eq_true rfl) (fun F hFl hFG hF hN hR hret => ?_)
  subst hFl hFG
  show X F 0 0 [(0, .ref (gA F k)), (1, .int x1)] [] S
  have hret : ∀ (v : Int32) (S : St) (pc : Nat) (ls : List (Nat × Value)), isB v → (v = r ∧ S = S1) → decode cX5_isLastOfItsTick pc = .ok (.ireturn, 1) → X F 0 pc ls [.int v] S := fun v S2 pc ls hb hq hd => by obtain ⟨rfl, rfl⟩ := hq; exact hret.2.1 pc ls v rfl hb rfl hd
  have hk : r = r ∧ S1 = S1 := ⟨rfl, rfl⟩
  unfold X5_isLastOfItsTick at h
  refine x_iload_n hF dX5_isLastOfItsTick_0 rfl rfl ?_
  refine x_iconst (v := (1 : Int32)) hF dX5_isLastOfItsTick_1 (by decide) ?_
  refine x_iadd hF dX5_isLastOfItsTick_2 ?_
  refine x_aload_n hF dX5_isLastOfItsTick_3 rfl rfl ?_
  refine x_getr hF (shReplayer_0 ik) 0 rfl ck4 (ltReplayer_0 ik) (by decide) tw_234 rfl dX5_isLastOfItsTick_4 ?_
  refine x_geti hF sh1 0 rfl ck3 (by decide) (by decide) tw_119 rfl dX5_isLastOfItsTick_7 ?_
  refine x_icmp_ge (tgt := 36) hF dX5_isLastOfItsTick_10 (by decide) (fun hc => ?_) (fun hc => ?_)
  · have h := oi_pos hc h
    refine x_iconst (v := (1 : Int32)) hF dX5_isLastOfItsTick_36 (by decide) ?_
    refine x_goto (tgt := 41) hF dX5_isLastOfItsTick_37 (by decide) ?_
    obtain ⟨rfl, rfl⟩ := sm h
    exact hret _ _ _ _ (by decide) hk dX5_isLastOfItsTick_41
  · have h := oi_neg hc h
    refine x_aload_n hF dX5_isLastOfItsTick_13 rfl rfl ?_
    refine x_getr hF (shReplayer_0 ik) 0 rfl ck4 (ltReplayer_0 ik) (by decide) tw_234 rfl dX5_isLastOfItsTick_14 ?_
    refine x_getr hF sh1 1 rfl ck3 (by decide) (by decide) tw_122 rfl dX5_isLastOfItsTick_17 ?_
    refine x_iload_n hF dX5_isLastOfItsTick_20 rfl rfl ?_
    refine x_iconst (v := (1 : Int32)) hF dX5_isLastOfItsTick_21 (by decide) ?_
    refine x_iadd hF dX5_isLastOfItsTick_22 ?_
    obtain ⟨hg, h⟩ := og_some h
    refine x_iald hF sh2 (by decide) hg rfl dX5_isLastOfItsTick_23 ?_
    refine x_aload_n hF dX5_isLastOfItsTick_24 rfl rfl ?_
    refine x_getr hF (shReplayer_0 ik) 0 rfl ck4 (ltReplayer_0 ik) (by decide) tw_234 rfl dX5_isLastOfItsTick_25 ?_
    refine x_getr hF sh1 1 rfl ck3 (by decide) (by decide) tw_122 rfl dX5_isLastOfItsTick_28 ?_
    refine x_iload_n hF dX5_isLastOfItsTick_31 rfl rfl ?_
    obtain ⟨hg, h⟩ := og_some h
    refine x_iald hF sh2 (by decide) hg rfl dX5_isLastOfItsTick_32 ?_
    refine x_icmp_le (tgt := 40) hF dX5_isLastOfItsTick_33 (by decide) (fun hc => ?_) (fun hc => ?_)
    · have h := oi_pos hc h
      refine x_iconst (v := (0 : Int32)) hF dX5_isLastOfItsTick_40 (by decide) ?_
      obtain ⟨rfl, rfl⟩ := sm h
      exact hret _ _ _ _ (by decide) hk dX5_isLastOfItsTick_41
    · have h := oi_neg hc h
      refine x_iconst (v := (1 : Int32)) hF dX5_isLastOfItsTick_36 (by decide) ?_
      refine x_goto (tgt := 41) hF dX5_isLastOfItsTick_37 (by decide) ?_
      obtain ⟨rfl, rfl⟩ := sm h
      exact hret _ _ _ _ (by decide) hk dX5_isLastOfItsTick_41
noncomputable def X2_send_54 (k : Nat) (x1 : Int32) (x4 : Int32) (z1 : Int32) (S : St) : Option (Int32 × St) :=
  ol (si S k 4 z1) (fun T3 => oi (x4 = 0) (og (isB x4) (some (x4, T3))) (ob (X2_takeOut k x1 T3) (fun r4 S5 => og (isB x4) (some (x4, S5)))))
set_option maxHeartbeats 4000000 in
set_option maxRecDepth 20000 in
theorem xX2_send_54 {F : Cx} {k : Nat} (ik : isLine k) (hF : Ok F cX2_send RX2) (hN : nLF F 5) (hR : RmF F 2 0) {x1 : Int32} {x4 : Int32} {z1 : Int32} {K : Int32 → St → Prop} (hret : ∀ (v : Int32) (S : St) (pc : Nat) (ls : List (Nat × Value)), isB v → K v S → decode cX2_send pc = .ok (.ireturn, 1) → X F 0 pc ls [.int v] S) {S : St} {r : Int32} {S1 : St} (h : X2_send_54 k x1 x4 z1 S = some (r, S1)) (hk : K r S1) : X F 0 54 [(0, .ref (gA F k)), (1, .int x1), (4, .int x4)] [.int z1, .ref (gA F k)] S := by
  unfold X2_send_54 at h
  obtain ⟨T3, eT3, h⟩ := ol_some h
  refine x_puti hF (shLine_0 ik) 4 rfl ck1 (ltLine_0 ik) (by decide) tw_221 rfl rfl rfl rfl rfl eT3 dX2_send_54 ?_
  refine x_iload hF dX2_send_57 rfl ?_
  refine x_if_eq (tgt := 68) hF dX2_send_59 (by decide) (fun hc => ?_) (fun hc => ?_)
  · have h := oi_pos hc h
    refine x_iload hF dX2_send_68 rfl ?_
    obtain ⟨hg, h⟩ := og_some h
    obtain ⟨rfl, rfl⟩ := sm h
    exact hret _ _ _ _ hg hk dX2_send_70
  · have h := oi_neg hc h
    refine x_aload_n hF dX2_send_62 rfl rfl ?_
    refine x_iload_n hF dX2_send_63 rfl rfl ?_
    obtain ⟨r4, S5, hcall, h⟩ := ob_some h
    refine x_cVi hF hN hR (ctX2_takeOut ik hF.tr hcall) mwX2_takeOut miX2_takeOut (shLine_0 ik) ck1 (ltLine_0 ik) tw_468 ⟨by decide, by decide⟩ rfl rfl (Nat.le_of_ble_eq_true rfl) dX2_send_64 ?_
    refine x_pop hF dX2_send_67 rfl ?_
    refine x_iload hF dX2_send_68 rfl ?_
    obtain ⟨hg, h⟩ := og_some h
    obtain ⟨rfl, rfl⟩ := sm h
    exact hret _ _ _ _ hg hk dX2_send_70
noncomputable def X2_send_41 (k : Nat) (x1 : Int32) (x3 : Int32) (z0 : Int32) (S : St) : Option (Int32 × St) :=
  oi (z0 = 0) (X2_send_54 k x1 z0 x3 S) (X2_send_54 k x1 z0 (-1 : Int32) S)
set_option maxHeartbeats 4000000 in
set_option maxRecDepth 20000 in
theorem xX2_send_41 {F : Cx} {k : Nat} (ik : isLine k) (hF : Ok F cX2_send RX2) (hN : nLF F 5) (hR : RmF F 2 0) {x1 : Int32} {x3 : Int32} {z0 : Int32} {K : Int32 → St → Prop} (hret : ∀ (v : Int32) (S : St) (pc : Nat) (ls : List (Nat × Value)), isB v → K v S → decode cX2_send pc = .ok (.ireturn, 1) → X F 0 pc ls [.int v] S) {S : St} {r : Int32} {S1 : St} (h : X2_send_41 k x1 x3 z0 S = some (r, S1)) (hk : K r S1) : X F 0 41 [(0, .ref (gA F k)), (1, .int x1), (3, .int x3)] [.int z0] S := by
  unfold X2_send_41 at h
  refine x_istore [(4, _), (0, _), (1, _), (3, _)] hF hN dX2_send_41 (by decide) rfl ?_
  refine x_aload_n hF dX2_send_43 rfl rfl ?_
  refine x_iload hF dX2_send_44 rfl ?_
  refine x_if_eq (tgt := 53) hF dX2_send_46 (by decide) (fun hc => ?_) (fun hc => ?_)
  · have h := oi_pos hc h
    refine x_iload_n hF dX2_send_53 rfl rfl ?_
    exact x_sub (xX2_send_54 ik hF hN hR (K := K) hret h hk) ⟨rfl, rfl, rfl, trivial⟩
  · have h := oi_neg hc h
    refine x_iconst (v := (-1 : Int32)) hF dX2_send_49 (by decide) ?_
    refine x_goto (tgt := 54) hF dX2_send_50 (by decide) ?_
    exact x_sub (xX2_send_54 ik hF hN hR (K := K) hret h hk) ⟨rfl, rfl, rfl, trivial⟩
noncomputable def X2_send (k : Nat) (x1 : Int32) (x2 : Int32) (S : St) : Option (Int32 × St) :=
  og (inb x1 40) (og (inb (gi S (k + 1) (ix x1)) 40) (og (inb (gi S (k + 1) (ix x1)) 40) (ol (si S (k + 2) (ix (gi S (k + 1) (ix x1))) ((gi S (k + 2) (ix (gi S (k + 1) (ix x1)))) - x2)) (fun T1 => ol (si T1 k 3 ((gi T1 k 3) - x2)) (fun T2 => og (inb (gi S (k + 1) (ix x1)) 40) (oi ((gi T2 (k + 2) (ix (gi S (k + 1) (ix x1)))) = 0) (X2_send_41 k x1 (gi S (k + 1) (ix x1)) (1 : Int32) T2) (X2_send_41 k x1 (gi S (k + 1) (ix x1)) (0 : Int32) T2)))))))
set_option maxHeartbeats 4000000 in
set_option maxRecDepth 20000 in
theorem ctX2_send {l : Launch} {G : Ga} {k : Nat} (ik : isLine k) {x1 : Int32} {x2 : Int32} (hl : l.stackTraces = false) {S : St} {r : Int32} {S1 : St} (h : X2_send k x1 x2 S = some (r, S1)) : CT l G 2 yX2_send cX2_send 5 (some .boolean) [.ref (G.1 k), .int x1, .int x2] S (some (.int r)) S1 := by
  refine ct_of hl (by decide) (Nat.le_of_ble_eq_true rfl) (fun F hFl hFG hF hN hR hret => ?_)
  subst hFl hFG
  show X F 0 0 [(0, .ref (gA F k)), (1, .int x1), (2, .int x2)] [] S
  have hret : ∀ (v : Int32) (S : St) (pc : Nat) (ls : List (Nat × Value)), isB v → (v = r ∧ S = S1) → decode cX2_send pc = .ok (.ireturn, 1) → X F 0 pc ls [.int v] S := fun v S2 pc ls hb hq hd => by obtain ⟨rfl, rfl⟩ := hq; exact hret.2.1 pc ls v rfl hb rfl hd
  have hk : r = r ∧ S1 = S1 := ⟨rfl, rfl⟩
  unfold X2_send at h
  refine x_aload_n hF dX2_send_0 rfl rfl ?_
  refine x_getr hF (shLine_0 ik) 1 rfl ck1 (ltLine_0 ik) (by decide) tw_215 rfl dX2_send_1 ?_
  refine x_iload_n hF dX2_send_4 rfl rfl ?_
  obtain ⟨hg, h⟩ := og_some h
  refine x_iald hF (shLine_1 ik) (ltLine_1 ik) hg rfl dX2_send_5 ?_
  refine x_istore_n [(3, _), (0, _), (1, _), (2, _)] hF hN dX2_send_6 rfl (by decide) rfl ?_
  refine x_aload_n hF dX2_send_7 rfl rfl ?_
  refine x_getr hF (shLine_0 ik) 2 rfl ck1 (ltLine_0 ik) (by decide) tw_217 rfl dX2_send_8 ?_
  refine x_iload_n hF dX2_send_11 rfl rfl ?_
  refine x_dup2 hF dX2_send_12 rfl rfl ?_
  obtain ⟨hg, h⟩ := og_some h
  refine x_iald hF (shLine_2 ik) (ltLine_2 ik) hg rfl dX2_send_13 ?_
  refine x_iload_n hF dX2_send_14 rfl rfl ?_
  refine x_isub hF dX2_send_15 ?_
  obtain ⟨hg, h⟩ := og_some h
  obtain ⟨T1, eT1, h⟩ := ol_some h
  refine x_iast hF (shLine_2 ik) (ltLine_2 ik) hg rfl eT1 dX2_send_16 ?_
  refine x_aload_n hF dX2_send_17 rfl rfl ?_
  refine x_dup hF dX2_send_18 rfl ?_
  refine x_geti hF (shLine_0 ik) 3 rfl ck1 (ltLine_0 ik) (by decide) tw_219 rfl dX2_send_19 ?_
  refine x_iload_n hF dX2_send_22 rfl rfl ?_
  refine x_isub hF dX2_send_23 ?_
  obtain ⟨T2, eT2, h⟩ := ol_some h
  refine x_puti hF (shLine_0 ik) 3 rfl ck1 (ltLine_0 ik) (by decide) tw_219 rfl rfl rfl rfl rfl eT2 dX2_send_24 ?_
  refine x_aload_n hF dX2_send_27 rfl rfl ?_
  refine x_getr hF (shLine_0 ik) 2 rfl ck1 (ltLine_0 ik) (by decide) tw_217 rfl dX2_send_28 ?_
  refine x_iload_n hF dX2_send_31 rfl rfl ?_
  obtain ⟨hg, h⟩ := og_some h
  refine x_iald hF (shLine_2 ik) (ltLine_2 ik) hg rfl dX2_send_32 ?_
  refine x_if_ne (tgt := 40) hF dX2_send_33 (by decide) (fun hc => ?_) (fun hc => ?_)
  · have h := oi_neg hc h
    refine x_iconst (v := (0 : Int32)) hF dX2_send_40 (by decide) ?_
    exact x_sub (xX2_send_41 ik hF hN hR (K := fun v9 S9 => v9 = r ∧ S9 = S1) hret h hk) ⟨rfl, rfl, rfl, trivial⟩
  · have h := oi_pos hc h
    refine x_iconst (v := (1 : Int32)) hF dX2_send_36 (by decide) ?_
    refine x_goto (tgt := 41) hF dX2_send_37 (by decide) ?_
    exact x_sub (xX2_send_41 ik hF hN hR (K := fun v9 S9 => v9 = r ∧ S9 = S1) hret h hk) ⟨rfl, rfl, rfl, trivial⟩
noncomputable def X3_noteLoad (k : Nat) (x1 : Int32) (x2 : Int32) (S : St) : Option (Unit × St) :=
  oi ((40 : Int32) ≤ (gi S k 6)) (some ((), S)) (og (inb (gi S k 6) 40) (ol (si S (k + 3) (ix (gi S k 6)) x1) (fun T1 => og (inb (gi T1 k 6) 40) (ol (si T1 (k + 4) (ix (gi T1 k 6)) x2) (fun T2 => ol (si T2 k 6 ((gi T2 k 6) + (1 : Int32))) (fun T3 => some ((), T3)))))))
set_option maxHeartbeats 4000000 in
set_option maxRecDepth 20000 in
theorem ctX3_noteLoad {l : Launch} {G : Ga} {k : Nat} (ik : isOutcome k) {x1 : Int32} {x2 : Int32} (hl : l.stackTraces = false) {S : St} {r : Unit} {S1 : St} (h : X3_noteLoad k x1 x2 S = some (r, S1)) : CT l G 0 yX3_noteLoad cX3_noteLoad 3 none [.ref (G.1 k), .int x1, .int x2] S none S1 := by
  refine ct_of hl (by decide) (Nat.le_of_ble_eq_true rfl) (fun F hFl hFG hF hN hR hret => ?_)
  subst hFl hFG
  show X F 0 0 [(0, .ref (gA F k)), (1, .int x1), (2, .int x2)] [] S
  have hret : ∀ (v : Unit) (S : St) (pc : Nat) (ls : List (Nat × Value)), (v = r ∧ S = S1) → decode cX3_noteLoad pc = .ok (.return_, 1) → X F 0 pc ls [] S := fun v S2 pc ls hq hd => by obtain ⟨rfl, rfl⟩ := hq; exact hret.2.2.2.2.1 pc ls rfl rfl hd
  have hk : r = r ∧ S1 = S1 := ⟨rfl, rfl⟩
  unfold X3_noteLoad at h
  refine x_aload_n hF dX3_noteLoad_0 rfl rfl ?_
  refine x_geti hF (shOutcome_0 ik) 6 rfl ck2 (ltOutcome_0 ik) (by decide) tw_185 rfl dX3_noteLoad_1 ?_
  refine x_bipush (v := (40 : Int32)) hF dX3_noteLoad_4 (by decide) ?_
  refine x_icmp_ge (tgt := 39) hF dX3_noteLoad_6 (by decide) (fun hc => ?_) (fun hc => ?_)
  · have h := oi_pos hc h
    obtain ⟨rfl, rfl⟩ := sm h
    exact hret _ _ _ _ hk dX3_noteLoad_39
  · have h := oi_neg hc h
    refine x_aload_n hF dX3_noteLoad_9 rfl rfl ?_
    refine x_getr hF (shOutcome_0 ik) 7 rfl ck2 (ltOutcome_0 ik) (by decide) tw_186 rfl dX3_noteLoad_10 ?_
    refine x_aload_n hF dX3_noteLoad_13 rfl rfl ?_
    refine x_geti hF (shOutcome_0 ik) 6 rfl ck2 (ltOutcome_0 ik) (by decide) tw_185 rfl dX3_noteLoad_14 ?_
    refine x_iload_n hF dX3_noteLoad_17 rfl rfl ?_
    obtain ⟨hg, h⟩ := og_some h
    obtain ⟨T1, eT1, h⟩ := ol_some h
    refine x_iast hF (shOutcome_3 ik) (ltOutcome_3 ik) hg rfl eT1 dX3_noteLoad_18 ?_
    refine x_aload_n hF dX3_noteLoad_19 rfl rfl ?_
    refine x_getr hF (shOutcome_0 ik) 8 rfl ck2 (ltOutcome_0 ik) (by decide) tw_187 rfl dX3_noteLoad_20 ?_
    refine x_aload_n hF dX3_noteLoad_23 rfl rfl ?_
    refine x_geti hF (shOutcome_0 ik) 6 rfl ck2 (ltOutcome_0 ik) (by decide) tw_185 rfl dX3_noteLoad_24 ?_
    refine x_iload_n hF dX3_noteLoad_27 rfl rfl ?_
    obtain ⟨hg, h⟩ := og_some h
    obtain ⟨T2, eT2, h⟩ := ol_some h
    refine x_iast hF (shOutcome_4 ik) (ltOutcome_4 ik) hg rfl eT2 dX3_noteLoad_28 ?_
    refine x_aload_n hF dX3_noteLoad_29 rfl rfl ?_
    refine x_dup hF dX3_noteLoad_30 rfl ?_
    refine x_geti hF (shOutcome_0 ik) 6 rfl ck2 (ltOutcome_0 ik) (by decide) tw_185 rfl dX3_noteLoad_31 ?_
    refine x_iconst (v := (1 : Int32)) hF dX3_noteLoad_34 (by decide) ?_
    refine x_iadd hF dX3_noteLoad_35 ?_
    obtain ⟨T3, eT3, h⟩ := ol_some h
    refine x_puti hF (shOutcome_0 ik) 6 rfl ck2 (ltOutcome_0 ik) (by decide) tw_185 rfl rfl rfl rfl rfl eT3 dX3_noteLoad_36 ?_
    obtain ⟨rfl, rfl⟩ := sm h
    exact hret _ _ _ _ hk dX3_noteLoad_39
noncomputable def X5_bytesUntilNext (k : Nat) (x1 : Int32) (S : St) : Option (Int32 × St) :=
  oi ((x1 + (1 : Int32)) < (gi S 1 0)) (og (inb (x1 + (1 : Int32)) 40) (og (inb x1 40) (some ((if ((gi S k 6) * ((gi S 2 (ix (x1 + (1 : Int32)))) - (gi S 2 (ix x1)))) < (gi S (k + 6) 3) then ((gi S k 6) * ((gi S 2 (ix (x1 + (1 : Int32)))) - (gi S 2 (ix x1)))) else (gi S (k + 6) 3)), S)))) (some ((gi S (k + 6) 3), S))
set_option maxHeartbeats 4000000 in
set_option maxRecDepth 20000 in
theorem ctX5_bytesUntilNext {l : Launch} {G : Ga} {k : Nat} (ik : isReplayer k) {x1 : Int32} (hl : l.stackTraces = false) {S : St} {r : Int32} {S1 : St} (h : X5_bytesUntilNext k x1 S = some (r, S1)) : CT l G 1 yX5_bytesUntilNext cX5_bytesUntilNext 2 (some .int) [.ref (G.1 k), .int x1] S (some (.int r)) S1 := by
  refine ct_of hl (by decide) (Nat.le_of_ble_eq_true rfl) (fun F hFl hFG hF hN hR hret => ?_)
  subst hFl hFG
  show X F 0 0 [(0, .ref (gA F k)), (1, .int x1)] [] S
  have hret : ∀ (v : Int32) (S : St) (pc : Nat) (ls : List (Nat × Value)), (v = r ∧ S = S1) → decode cX5_bytesUntilNext pc = .ok (.ireturn, 1) → X F 0 pc ls [.int v] S := fun v S2 pc ls hq hd => by obtain ⟨rfl, rfl⟩ := hq; exact hret.1 pc ls v rfl rfl hd
  have hk : r = r ∧ S1 = S1 := ⟨rfl, rfl⟩
  unfold X5_bytesUntilNext at h
  refine x_iload_n hF dX5_bytesUntilNext_0 rfl rfl ?_
  refine x_iconst (v := (1 : Int32)) hF dX5_bytesUntilNext_1 (by decide) ?_
  refine x_iadd hF dX5_bytesUntilNext_2 ?_
  refine x_aload_n hF dX5_bytesUntilNext_3 rfl rfl ?_
  refine x_getr hF (shReplayer_0 ik) 0 rfl ck4 (ltReplayer_0 ik) (by decide) tw_234 rfl dX5_bytesUntilNext_4 ?_
  refine x_geti hF sh1 0 rfl ck3 (by decide) (by decide) tw_119 rfl dX5_bytesUntilNext_7 ?_
  refine x_icmp_lt (tgt := 21) hF dX5_bytesUntilNext_10 (by decide) (fun hc => ?_) (fun hc => ?_)
  · have h := oi_pos hc h
    refine x_aload_n hF dX5_bytesUntilNext_21 rfl rfl ?_
    refine x_getr hF (shReplayer_0 ik) 2 rfl ck4 (ltReplayer_0 ik) (by decide) tw_237 rfl dX5_bytesUntilNext_22 ?_
    refine x_geti hF (shReplayer_6 ik) 3 rfl ck1 (ltReplayer_6 ik) (by decide) tw_220 rfl dX5_bytesUntilNext_25 ?_
    refine x_aload_n hF dX5_bytesUntilNext_28 rfl rfl ?_
    refine x_geti hF (shReplayer_0 ik) 6 rfl ck4 (ltReplayer_0 ik) (by decide) tw_242 rfl dX5_bytesUntilNext_29 ?_
    refine x_aload_n hF dX5_bytesUntilNext_32 rfl rfl ?_
    refine x_getr hF (shReplayer_0 ik) 0 rfl ck4 (ltReplayer_0 ik) (by decide) tw_234 rfl dX5_bytesUntilNext_33 ?_
    refine x_getr hF sh1 1 rfl ck3 (by decide) (by decide) tw_122 rfl dX5_bytesUntilNext_36 ?_
    refine x_iload_n hF dX5_bytesUntilNext_39 rfl rfl ?_
    refine x_iconst (v := (1 : Int32)) hF dX5_bytesUntilNext_40 (by decide) ?_
    refine x_iadd hF dX5_bytesUntilNext_41 ?_
    obtain ⟨hg, h⟩ := og_some h
    refine x_iald hF sh2 (by decide) hg rfl dX5_bytesUntilNext_42 ?_
    refine x_aload_n hF dX5_bytesUntilNext_43 rfl rfl ?_
    refine x_getr hF (shReplayer_0 ik) 0 rfl ck4 (ltReplayer_0 ik) (by decide) tw_234 rfl dX5_bytesUntilNext_44 ?_
    refine x_getr hF sh1 1 rfl ck3 (by decide) (by decide) tw_122 rfl dX5_bytesUntilNext_47 ?_
    refine x_iload_n hF dX5_bytesUntilNext_50 rfl rfl ?_
    obtain ⟨hg, h⟩ := og_some h
    refine x_iald hF sh2 (by decide) hg rfl dX5_bytesUntilNext_51 ?_
    refine x_isub hF dX5_bytesUntilNext_52 ?_
    refine x_imul hF dX5_bytesUntilNext_53 ?_
    refine x_mmin hF hR tw_386 mcmin.1 tw_87 mcmin.2 ⟨by decide, by decide⟩ (Nat.le_of_ble_eq_true rfl) dX5_bytesUntilNext_54 ?_
    obtain ⟨rfl, rfl⟩ := sm h
    exact hret _ _ _ _ hk dX5_bytesUntilNext_57
  · have h := oi_neg hc h
    refine x_aload_n hF dX5_bytesUntilNext_13 rfl rfl ?_
    refine x_getr hF (shReplayer_0 ik) 2 rfl ck4 (ltReplayer_0 ik) (by decide) tw_237 rfl dX5_bytesUntilNext_14 ?_
    refine x_geti hF (shReplayer_6 ik) 3 rfl ck1 (ltReplayer_6 ik) (by decide) tw_220 rfl dX5_bytesUntilNext_17 ?_
    obtain ⟨rfl, rfl⟩ := sm h
    exact hret _ _ _ _ hk dX5_bytesUntilNext_20
noncomputable def X2_positionOfBegun_2 (k : Nat) (x1 : Int32) (S : St) : Option (((Int32) ⊕ (Int32 ⊕ Unit)) × St) :=
  oi ((gi S k 0) ≤ x1) (some (.inr (.inr ()), S)) (og (inb x1 40) (oi ((gi S (k + 1) (ix x1)) = (gi S k 4)) (some (.inr (.inl x1), S)) (some (.inl (x1 + (1 : Int32)), S))))
set_option maxHeartbeats 4000000 in
set_option maxRecDepth 20000 in
theorem xX2_positionOfBegun_2 {F : Cx} {k : Nat} (ik : isLine k) (hF : Ok F cX2_positionOfBegun RX2) (hN : nLF F 2) (hR : RmF F 0 0) {x1 : Int32} {K : ((Int32) ⊕ (Int32 ⊕ Unit)) → St → Prop} (hag : ∀ (a : Int32) (S : St), K (.inl a) S → X F 0 2 [(0, .ref (gA F k)), (1, .int a)] [] S) (hex23 : ∀ (q : Int32) (S : St), K (.inr (.inl q)) S → X F 0 23 [(1, .int q)] [] S) (hex31 : ∀ (q : Unit) (S : St), K (.inr (.inr q)) S → X F 0 31 [] [] S) {S : St} {r : (Int32) ⊕ (Int32 ⊕ Unit)} {S1 : St} (h : X2_positionOfBegun_2 k x1 S = some (r, S1)) (hk : K r S1) : X F 0 2 [(0, .ref (gA F k)), (1, .int x1)] [] S := by
  unfold X2_positionOfBegun_2 at h
  refine x_iload_n hF dX2_positionOfBegun_2 rfl rfl ?_
  refine x_aload_n hF dX2_positionOfBegun_3 rfl rfl ?_
  refine x_geti hF (shLine_0 ik) 0 rfl ck1 (ltLine_0 ik) (by decide) tw_213 rfl dX2_positionOfBegun_4 ?_
  refine x_icmp_ge (tgt := 31) hF dX2_positionOfBegun_7 (by decide) (fun hc => ?_) (fun hc => ?_)
  · have h := oi_pos hc h
    obtain ⟨rfl, rfl⟩ := sm h
    exact x_sub (hex31 _ _ hk) trivial
  · have h := oi_neg hc h
    refine x_aload_n hF dX2_positionOfBegun_10 rfl rfl ?_
    refine x_getr hF (shLine_0 ik) 1 rfl ck1 (ltLine_0 ik) (by decide) tw_215 rfl dX2_positionOfBegun_11 ?_
    refine x_iload_n hF dX2_positionOfBegun_14 rfl rfl ?_
    obtain ⟨hg, h⟩ := og_some h
    refine x_iald hF (shLine_1 ik) (ltLine_1 ik) hg rfl dX2_positionOfBegun_15 ?_
    refine x_aload_n hF dX2_positionOfBegun_16 rfl rfl ?_
    refine x_geti hF (shLine_0 ik) 4 rfl ck1 (ltLine_0 ik) (by decide) tw_221 rfl dX2_positionOfBegun_17 ?_
    refine x_icmp_ne (tgt := 25) hF dX2_positionOfBegun_20 (by decide) (fun hc => ?_) (fun hc => ?_)
    · have h := oi_neg hc h
      refine x_iinc [(1, _), (0, _)] (v := (1 : Int32)) hF hN dX2_positionOfBegun_25 rfl (by decide) (by decide) rfl ?_
      refine x_goto (tgt := 2) hF dX2_positionOfBegun_28 (by decide) ?_
      obtain ⟨rfl, rfl⟩ := sm h
      exact x_sub (hag _ _ hk) ⟨rfl, rfl, trivial⟩
    · have h := oi_pos hc h
      obtain ⟨rfl, rfl⟩ := sm h
      exact x_sub (hex23 _ _ hk) ⟨rfl, trivial⟩
noncomputable def X2_positionOfBegun_2L (k : Nat) (a : Int32) (S : St) : Option ((Int32 ⊕ Unit) × St) :=
  lp (fun (a : Int32) (S : St) => X2_positionOfBegun_2 k a S) a S
theorem xX2_positionOfBegun_2L {F : Cx} {k : Nat} (ik : isLine k) (hF : Ok F cX2_positionOfBegun RX2) (hN : nLF F 2) (hR : RmF F 0 0) {K : (Int32 ⊕ Unit) → St → Prop} (hex23 : ∀ (q : Int32) (S : St), K ((.inl q)) S → X F 0 23 [(1, .int q)] [] S) (hex31 : ∀ (q : Unit) (S : St), K ((.inr q)) S → X F 0 31 [] [] S) {a : Int32} {S : St} {b : Int32 ⊕ Unit} {S1 : St} (h : X2_positionOfBegun_2L k a S = some (b, S1)) (hk : K b S1) : X F 0 2 [(0, .ref (gA F k)), (1, .int a)] [] S := by
  unfold X2_positionOfBegun_2L at h
  exact lp_rule (Xh := fun (a : Int32) (S : St) => X F 0 2 [(0, .ref (gA F k)), (1, .int a)] [] S) (K := K) (fun a S r S1 h hk => xX2_positionOfBegun_2 ik hF hN hR (K := fun r S => match r with | .inl a => X F 0 2 [(0, .ref (gA F k)), (1, .int a)] [] S | .inr b => K b S) (fun _ _ h => h) (fun q S h => hex23 q S h) (fun q S h => hex31 q S h) h (by cases r <;> exact hk)) h hk
noncomputable def X2_positionOfBegun (k : Nat) (S : St) : Option (Int32 × St) :=
  ob (X2_positionOfBegun_2L k (0 : Int32) S) (fun b1 S2 => match b1 with | .inl q3 => some (q3, S2) | .inr q4 => some ((-1 : Int32), S2))
set_option maxHeartbeats 4000000 in
set_option maxRecDepth 20000 in
theorem ctX2_positionOfBegun {l : Launch} {G : Ga} {k : Nat} (ik : isLine k) (hl : l.stackTraces = false) {S : St} {r : Int32} {S1 : St} (h : X2_positionOfBegun k S = some (r, S1)) : CT l G 0 yX2_positionOfBegun cX2_positionOfBegun 2 (some .int) [.ref (G.1 k)] S (some (.int r)) S1 := by
  refine ct_of hl (by decide) (Nat.le_of_ble_eq_true rfl) (fun F hFl hFG hF hN hR hret => ?_)
  subst hFl hFG
  show X F 0 0 [(0, .ref (gA F k))] [] S
  have hret : ∀ (v : Int32) (S : St) (pc : Nat) (ls : List (Nat × Value)), (v = r ∧ S = S1) → decode cX2_positionOfBegun pc = .ok (.ireturn, 1) → X F 0 pc ls [.int v] S := fun v S2 pc ls hq hd => by obtain ⟨rfl, rfl⟩ := hq; exact hret.1 pc ls v rfl rfl hd
  have hk : r = r ∧ S1 = S1 := ⟨rfl, rfl⟩
  unfold X2_positionOfBegun at h
  refine x_iconst (v := (0 : Int32)) hF dX2_positionOfBegun_0 (by decide) ?_
  refine x_istore_n [(1, _), (0, _)] hF hN dX2_positionOfBegun_1 rfl (by decide) rfl ?_
  obtain ⟨b1, S2, hlb1, h⟩ := ob_some h
  refine x_sub (xX2_positionOfBegun_2L ik hF hN hR (K := fun bb SS => bb = b1 ∧ SS = S2) ?_ ?_ hlb1 ⟨rfl, rfl⟩) ⟨rfl, rfl, trivial⟩
  · rintro _ _ ⟨rfl, rfl⟩
    dsimp only at h
    refine x_iload_n hF dX2_positionOfBegun_23 rfl rfl ?_
    obtain ⟨rfl, rfl⟩ := sm h
    exact hret _ _ _ _ hk dX2_positionOfBegun_24
  · rintro _ _ ⟨rfl, rfl⟩
    dsimp only at h
    refine x_iconst (v := (-1 : Int32)) hF dX2_positionOfBegun_31 (by decide) ?_
    obtain ⟨rfl, rfl⟩ := sm h
    exact hret _ _ _ _ hk dX2_positionOfBegun_32
noncomputable def X5_turnOf (k : Nat) (x1 : Int32) (S : St) : Option (Int32 × St) :=
  oi ((gi S 5 3) = (1 : Int32)) (og (inb ((8 : Int32) + x1) 14) (some ((((gi S 5 (ix ((8 : Int32) + x1))) * (6 : Int32)) + x1), S))) (oi (x1 ≤ (gi S k 8)) (some (((x1 - (gi S k 8)) + (6 : Int32)), S)) (some ((x1 - (gi S k 8)), S)))
set_option maxHeartbeats 4000000 in
set_option maxRecDepth 20000 in
theorem ctX5_turnOf {l : Launch} {G : Ga} {k : Nat} (ik : isReplayer k) {x1 : Int32} (hl : l.stackTraces = false) {S : St} {r : Int32} {S1 : St} (h : X5_turnOf k x1 S = some (r, S1)) : CT l G 0 yX5_turnOf cX5_turnOf 2 (some .int) [.ref (G.1 k), .int x1] S (some (.int r)) S1 := by
  refine ct_of hl (by decide) (Nat.le_of_ble_eq_true rfl) (fun F hFl hFG hF hN hR hret => ?_)
  subst hFl hFG
  show X F 0 0 [(0, .ref (gA F k)), (1, .int x1)] [] S
  have hret : ∀ (v : Int32) (S : St) (pc : Nat) (ls : List (Nat × Value)), (v = r ∧ S = S1) → decode cX5_turnOf pc = .ok (.ireturn, 1) → X F 0 pc ls [.int v] S := fun v S2 pc ls hq hd => by obtain ⟨rfl, rfl⟩ := hq; exact hret.1 pc ls v rfl rfl hd
  have hk : r = r ∧ S1 = S1 := ⟨rfl, rfl⟩
  unfold X5_turnOf at h
  refine x_aload_n hF dX5_turnOf_0 rfl rfl ?_
  refine x_getr hF (shReplayer_0 ik) 0 rfl ck4 (ltReplayer_0 ik) (by decide) tw_234 rfl dX5_turnOf_1 ?_
  refine x_getr hF sh1 4 rfl ck3 (by decide) (by decide) tw_131 rfl dX5_turnOf_4 ?_
  refine x_iconst (v := (3 : Int32)) hF dX5_turnOf_7 (by decide) ?_
  refine x_iald (j := 3) hF sh5 (by decide) (by decide) (by decide) dX5_turnOf_8 ?_
  refine x_iconst (v := (1 : Int32)) hF dX5_turnOf_9 (by decide) ?_
  refine x_icmp_ne (tgt := 31) hF dX5_turnOf_10 (by decide) (fun hc => ?_) (fun hc => ?_)
  · have h := oi_neg hc h
    refine x_iload_n hF dX5_turnOf_31 rfl rfl ?_
    refine x_aload_n hF dX5_turnOf_32 rfl rfl ?_
    refine x_geti hF (shReplayer_0 ik) 8 rfl ck4 (ltReplayer_0 ik) (by decide) tw_244 rfl dX5_turnOf_33 ?_
    refine x_icmp_le (tgt := 48) hF dX5_turnOf_36 (by decide) (fun hc => ?_) (fun hc => ?_)
    · have h := oi_pos hc h
      refine x_iload_n hF dX5_turnOf_48 rfl rfl ?_
      refine x_aload_n hF dX5_turnOf_49 rfl rfl ?_
      refine x_geti hF (shReplayer_0 ik) 8 rfl ck4 (ltReplayer_0 ik) (by decide) tw_244 rfl dX5_turnOf_50 ?_
      refine x_isub hF dX5_turnOf_53 ?_
      refine x_bipush (v := (6 : Int32)) hF dX5_turnOf_54 (by decide) ?_
      refine x_iadd hF dX5_turnOf_56 ?_
      obtain ⟨rfl, rfl⟩ := sm h
      exact hret _ _ _ _ hk dX5_turnOf_57
    · have h := oi_neg hc h
      refine x_iload_n hF dX5_turnOf_39 rfl rfl ?_
      refine x_aload_n hF dX5_turnOf_40 rfl rfl ?_
      refine x_geti hF (shReplayer_0 ik) 8 rfl ck4 (ltReplayer_0 ik) (by decide) tw_244 rfl dX5_turnOf_41 ?_
      refine x_isub hF dX5_turnOf_44 ?_
      refine x_goto (tgt := 57) hF dX5_turnOf_45 (by decide) ?_
      obtain ⟨rfl, rfl⟩ := sm h
      exact hret _ _ _ _ hk dX5_turnOf_57
  · have h := oi_pos hc h
    refine x_aload_n hF dX5_turnOf_13 rfl rfl ?_
    refine x_getr hF (shReplayer_0 ik) 0 rfl ck4 (ltReplayer_0 ik) (by decide) tw_234 rfl dX5_turnOf_14 ?_
    refine x_getr hF sh1 4 rfl ck3 (by decide) (by decide) tw_131 rfl dX5_turnOf_17 ?_
    refine x_bipush (v := (8 : Int32)) hF dX5_turnOf_20 (by decide) ?_
    refine x_iload_n hF dX5_turnOf_22 rfl rfl ?_
    refine x_iadd hF dX5_turnOf_23 ?_
    obtain ⟨hg, h⟩ := og_some h
    refine x_iald hF sh5 (by decide) hg rfl dX5_turnOf_24 ?_
    refine x_bipush (v := (6 : Int32)) hF dX5_turnOf_25 (by decide) ?_
    refine x_imul hF dX5_turnOf_27 ?_
    refine x_iload_n hF dX5_turnOf_28 rfl rfl ?_
    refine x_iadd hF dX5_turnOf_29 ?_
    obtain ⟨rfl, rfl⟩ := sm h
    exact hret _ _ _ _ hk dX5_turnOf_30
noncomputable def X5_chosenPosition_71 (k : Nat) (x1 : Int32) (x2 : Int32) (x3 : Int32) (S : St) : Option (((Int32 × Int32 × Int32) ⊕ Int32) × St) :=
  oi ((gi S (k + 6) 0) ≤ x3) (some (.inr x1, S)) (og (inb x3 40) (og (inb (gi S (k + 7) (ix x3)) 40) (ob (X5_turnOf k (gi S 3 (ix (gi S (k + 7) (ix x3)))) S) (fun r3 S4 => oi (x2 ≤ r3) (some (.inl (x1, x2, (x3 + (1 : Int32))), S4)) (some (.inl (x3, r3, (x3 + (1 : Int32))), S4))))))
set_option maxHeartbeats 4000000 in
set_option maxRecDepth 20000 in
theorem xX5_chosenPosition_71 {F : Cx} {k : Nat} (ik : isReplayer k) (hF : Ok F cX5_chosenPosition RX5) (hN : nLF F 5) (hR : RmF F 1 0) {x1 : Int32} {x2 : Int32} {x3 : Int32} {K : ((Int32 × Int32 × Int32) ⊕ Int32) → St → Prop} (hag : ∀ (a : Int32 × Int32 × Int32) (S : St), K (.inl a) S → X F 0 71 [(0, .ref (gA F k)), (1, .int a.1), (2, .int a.2.1), (3, .int a.2.2)] [] S) (hex122 : ∀ (q : Int32) (S : St), K (.inr q) S → X F 0 122 [(0, .ref (gA F k)), (1, .int q)] [] S) {S : St} {r : (Int32 × Int32 × Int32) ⊕ Int32} {S1 : St} (h : X5_chosenPosition_71 k x1 x2 x3 S = some (r, S1)) (hk : K r S1) : X F 0 71 [(0, .ref (gA F k)), (1, .int x1), (2, .int x2), (3, .int x3)] [] S := by
  unfold X5_chosenPosition_71 at h
  refine x_iload_n hF dX5_chosenPosition_71 rfl rfl ?_
  refine x_aload_n hF dX5_chosenPosition_72 rfl rfl ?_
  refine x_getr hF (shReplayer_0 ik) 2 rfl ck4 (ltReplayer_0 ik) (by decide) tw_237 rfl dX5_chosenPosition_73 ?_
  refine x_geti hF (shReplayer_6 ik) 0 rfl ck1 (ltReplayer_6 ik) (by decide) tw_214 rfl dX5_chosenPosition_76 ?_
  refine x_icmp_ge (tgt := 122) hF dX5_chosenPosition_79 (by decide) (fun hc => ?_) (fun hc => ?_)
  · have h := oi_pos hc h
    obtain ⟨rfl, rfl⟩ := sm h
    exact x_sub (hex122 _ _ hk) ⟨rfl, rfl, trivial⟩
  · have h := oi_neg hc h
    refine x_aload_n hF dX5_chosenPosition_82 rfl rfl ?_
    refine x_aload_n hF dX5_chosenPosition_83 rfl rfl ?_
    refine x_getr hF (shReplayer_0 ik) 0 rfl ck4 (ltReplayer_0 ik) (by decide) tw_234 rfl dX5_chosenPosition_84 ?_
    refine x_getr hF sh1 2 rfl ck3 (by decide) (by decide) tw_125 rfl dX5_chosenPosition_87 ?_
    refine x_aload_n hF dX5_chosenPosition_90 rfl rfl ?_
    refine x_getr hF (shReplayer_0 ik) 2 rfl ck4 (ltReplayer_0 ik) (by decide) tw_237 rfl dX5_chosenPosition_91 ?_
    refine x_getr hF (shReplayer_6 ik) 1 rfl ck1 (ltReplayer_6 ik) (by decide) tw_216 rfl dX5_chosenPosition_94 ?_
    refine x_iload_n hF dX5_chosenPosition_97 rfl rfl ?_
    obtain ⟨hg, h⟩ := og_some h
    refine x_iald hF (shReplayer_7 ik) (ltReplayer_7 ik) hg rfl dX5_chosenPosition_98 ?_
    obtain ⟨hg, h⟩ := og_some h
    refine x_iald hF sh3 (by decide) hg rfl dX5_chosenPosition_99 ?_
    obtain ⟨r3, S4, hcall, h⟩ := ob_some h
    refine x_cVi hF hN hR (ctX5_turnOf ik hF.tr hcall) mwX5_turnOf miX5_turnOf (shReplayer_0 ik) ck4 (ltReplayer_0 ik) tw_460 ⟨by decide, by decide⟩ rfl rfl (Nat.le_of_ble_eq_true rfl) dX5_chosenPosition_100 ?_
    refine x_istore [(4, _), (0, _), (1, _), (2, _), (3, _)] hF hN dX5_chosenPosition_103 (by decide) rfl ?_
    refine x_iload hF dX5_chosenPosition_105 rfl ?_
    refine x_iload_n hF dX5_chosenPosition_107 rfl rfl ?_
    refine x_icmp_ge (tgt := 116) hF dX5_chosenPosition_108 (by decide) (fun hc => ?_) (fun hc => ?_)
    · have h := oi_pos hc h
      refine x_iinc [(3, _), (4, _), (0, _), (1, _), (2, _)] (v := (1 : Int32)) hF hN dX5_chosenPosition_116 rfl (by decide) (by decide) rfl ?_
      refine x_goto (tgt := 71) hF dX5_chosenPosition_119 (by decide) ?_
      obtain ⟨rfl, rfl⟩ := sm h
      exact x_sub (hag _ _ hk) ⟨rfl, rfl, rfl, rfl, trivial⟩
    · have h := oi_neg hc h
      refine x_iload_n hF dX5_chosenPosition_111 rfl rfl ?_
      refine x_istore_n [(1, _), (4, _), (0, _), (2, _), (3, _)] hF hN dX5_chosenPosition_112 rfl (by decide) rfl ?_
      refine x_iload hF dX5_chosenPosition_113 rfl ?_
      refine x_istore_n [(2, _), (1, _), (4, _), (0, _), (3, _)] hF hN dX5_chosenPosition_115 rfl (by decide) rfl ?_
      refine x_iinc [(3, _), (2, _), (1, _), (4, _), (0, _)] (v := (1 : Int32)) hF hN dX5_chosenPosition_116 rfl (by decide) (by decide) rfl ?_
      refine x_goto (tgt := 71) hF dX5_chosenPosition_119 (by decide) ?_
      obtain ⟨rfl, rfl⟩ := sm h
      exact x_sub (hag _ _ hk) ⟨rfl, rfl, rfl, rfl, trivial⟩
noncomputable def X5_chosenPosition_71L (k : Nat) (a : Int32 × Int32 × Int32) (S : St) : Option (Int32 × St) :=
  lp (fun (a : Int32 × Int32 × Int32) (S : St) => X5_chosenPosition_71 k a.1 a.2.1 a.2.2 S) a S
theorem xX5_chosenPosition_71L {F : Cx} {k : Nat} (ik : isReplayer k) (hF : Ok F cX5_chosenPosition RX5) (hN : nLF F 5) (hR : RmF F 1 0) {K : Int32 → St → Prop} (hex122 : ∀ (q : Int32) (S : St), K (q) S → X F 0 122 [(0, .ref (gA F k)), (1, .int q)] [] S) {a : Int32 × Int32 × Int32} {S : St} {b : Int32} {S1 : St} (h : X5_chosenPosition_71L k a S = some (b, S1)) (hk : K b S1) : X F 0 71 [(0, .ref (gA F k)), (1, .int a.1), (2, .int a.2.1), (3, .int a.2.2)] [] S := by
  unfold X5_chosenPosition_71L at h
  exact lp_rule (Xh := fun (a : Int32 × Int32 × Int32) (S : St) => X F 0 71 [(0, .ref (gA F k)), (1, .int a.1), (2, .int a.2.1), (3, .int a.2.2)] [] S) (K := K) (fun a S r S1 h hk => xX5_chosenPosition_71 ik hF hN hR (K := fun r S => match r with | .inl a => X F 0 71 [(0, .ref (gA F k)), (1, .int a.1), (2, .int a.2.1), (3, .int a.2.2)] [] S | .inr b => K b S) (fun _ _ h => h) (fun q S h => hex122 q S h) h (by cases r <;> exact hk)) h hk
noncomputable def X5_chosenPosition (k : Nat) (S : St) : Option (Int32 × St) :=
  oi ((gi S (k + 6) 4) = (-1 : Int32)) (oi ((gi S (k + 6) 0) = 0) (some ((-1 : Int32), S)) (oi ((gi S 5 3) = 0) (some ((0 : Int32), S)) (og (inb (gi S (k + 7) 0) 40) (ob (X5_turnOf k (gi S 3 (ix (gi S (k + 7) 0))) S) (fun r1 S2 => ob (X5_chosenPosition_71L k ((0 : Int32), r1, (1 : Int32)) S2) (fun b5 S6 => og (inb b5 40) (og (inb (gi S6 (k + 7) (ix b5)) 40) (ol (si S6 k 8 (gi S6 3 (ix (gi S6 (k + 7) (ix b5))))) (fun T7 => some (b5, T7)))))))))) (ob (X2_positionOfBegun (k + 6) S) (fun r8 S9 => some (r8, S9)))
set_option maxHeartbeats 4000000 in
set_option maxRecDepth 20000 in
theorem ctX5_chosenPosition {l : Launch} {G : Ga} {k : Nat} (ik : isReplayer k) (hl : l.stackTraces = false) {S : St} {r : Int32} {S1 : St} (h : X5_chosenPosition k S = some (r, S1)) : CT l G 1 yX5_chosenPosition cX5_chosenPosition 5 (some .int) [.ref (G.1 k)] S (some (.int r)) S1 := by
  refine ct_of hl (by decide) (Nat.le_of_ble_eq_true rfl) (fun F hFl hFG hF hN hR hret => ?_)
  subst hFl hFG
  show X F 0 0 [(0, .ref (gA F k))] [] S
  have hret : ∀ (v : Int32) (S : St) (pc : Nat) (ls : List (Nat × Value)), (v = r ∧ S = S1) → decode cX5_chosenPosition pc = .ok (.ireturn, 1) → X F 0 pc ls [.int v] S := fun v S2 pc ls hq hd => by obtain ⟨rfl, rfl⟩ := hq; exact hret.1 pc ls v rfl rfl hd
  have hk : r = r ∧ S1 = S1 := ⟨rfl, rfl⟩
  unfold X5_chosenPosition at h
  refine x_aload_n hF dX5_chosenPosition_0 rfl rfl ?_
  refine x_getr hF (shReplayer_0 ik) 2 rfl ck4 (ltReplayer_0 ik) (by decide) tw_237 rfl dX5_chosenPosition_1 ?_
  refine x_geti hF (shReplayer_6 ik) 4 rfl ck1 (ltReplayer_6 ik) (by decide) tw_222 rfl dX5_chosenPosition_4 ?_
  refine x_iconst (v := (-1 : Int32)) hF dX5_chosenPosition_7 (by decide) ?_
  refine x_icmp_eq (tgt := 19) hF dX5_chosenPosition_8 (by decide) (fun hc => ?_) (fun hc => ?_)
  · have h := oi_pos hc h
    refine x_aload_n hF dX5_chosenPosition_19 rfl rfl ?_
    refine x_getr hF (shReplayer_0 ik) 2 rfl ck4 (ltReplayer_0 ik) (by decide) tw_237 rfl dX5_chosenPosition_20 ?_
    refine x_geti hF (shReplayer_6 ik) 0 rfl ck1 (ltReplayer_6 ik) (by decide) tw_214 rfl dX5_chosenPosition_23 ?_
    refine x_if_ne (tgt := 31) hF dX5_chosenPosition_26 (by decide) (fun hc => ?_) (fun hc => ?_)
    · have h := oi_neg hc h
      refine x_aload_n hF dX5_chosenPosition_31 rfl rfl ?_
      refine x_getr hF (shReplayer_0 ik) 0 rfl ck4 (ltReplayer_0 ik) (by decide) tw_234 rfl dX5_chosenPosition_32 ?_
      refine x_getr hF sh1 4 rfl ck3 (by decide) (by decide) tw_131 rfl dX5_chosenPosition_35 ?_
      refine x_iconst (v := (3 : Int32)) hF dX5_chosenPosition_38 (by decide) ?_
      refine x_iald (j := 3) hF sh5 (by decide) (by decide) (by decide) dX5_chosenPosition_39 ?_
      refine x_if_ne (tgt := 45) hF dX5_chosenPosition_40 (by decide) (fun hc => ?_) (fun hc => ?_)
      · have h := oi_neg hc h
        refine x_iconst (v := (0 : Int32)) hF dX5_chosenPosition_45 (by decide) ?_
        refine x_istore_n [(1, _), (0, _)] hF hN dX5_chosenPosition_46 rfl (by decide) rfl ?_
        refine x_aload_n hF dX5_chosenPosition_47 rfl rfl ?_
        refine x_aload_n hF dX5_chosenPosition_48 rfl rfl ?_
        refine x_getr hF (shReplayer_0 ik) 0 rfl ck4 (ltReplayer_0 ik) (by decide) tw_234 rfl dX5_chosenPosition_49 ?_
        refine x_getr hF sh1 2 rfl ck3 (by decide) (by decide) tw_125 rfl dX5_chosenPosition_52 ?_
        refine x_aload_n hF dX5_chosenPosition_55 rfl rfl ?_
        refine x_getr hF (shReplayer_0 ik) 2 rfl ck4 (ltReplayer_0 ik) (by decide) tw_237 rfl dX5_chosenPosition_56 ?_
        refine x_getr hF (shReplayer_6 ik) 1 rfl ck1 (ltReplayer_6 ik) (by decide) tw_216 rfl dX5_chosenPosition_59 ?_
        refine x_iconst (v := (0 : Int32)) hF dX5_chosenPosition_62 (by decide) ?_
        refine x_iald (j := 0) hF (shReplayer_7 ik) (ltReplayer_7 ik) (by decide) (by decide) dX5_chosenPosition_63 ?_
        obtain ⟨hg, h⟩ := og_some h
        refine x_iald hF sh3 (by decide) hg rfl dX5_chosenPosition_64 ?_
        obtain ⟨r1, S2, hcall, h⟩ := ob_some h
        refine x_cVi hF hN hR (ctX5_turnOf ik hF.tr hcall) mwX5_turnOf miX5_turnOf (shReplayer_0 ik) ck4 (ltReplayer_0 ik) tw_460 ⟨by decide, by decide⟩ rfl rfl (Nat.le_of_ble_eq_true rfl) dX5_chosenPosition_65 ?_
        refine x_istore_n [(2, _), (1, _), (0, _)] hF hN dX5_chosenPosition_68 rfl (by decide) rfl ?_
        refine x_iconst (v := (1 : Int32)) hF dX5_chosenPosition_69 (by decide) ?_
        refine x_istore_n [(3, _), (2, _), (1, _), (0, _)] hF hN dX5_chosenPosition_70 rfl (by decide) rfl ?_
        obtain ⟨b5, S6, hlb5, h⟩ := ob_some h
        refine x_sub (xX5_chosenPosition_71L ik hF hN hR (K := fun bb SS => bb = b5 ∧ SS = S6) ?_ hlb5 ⟨rfl, rfl⟩) ⟨rfl, rfl, rfl, rfl, trivial⟩
        rintro _ _ ⟨rfl, rfl⟩
        refine x_aload_n hF dX5_chosenPosition_122 rfl rfl ?_
        refine x_aload_n hF dX5_chosenPosition_123 rfl rfl ?_
        refine x_getr hF (shReplayer_0 ik) 0 rfl ck4 (ltReplayer_0 ik) (by decide) tw_234 rfl dX5_chosenPosition_124 ?_
        refine x_getr hF sh1 2 rfl ck3 (by decide) (by decide) tw_125 rfl dX5_chosenPosition_127 ?_
        refine x_aload_n hF dX5_chosenPosition_130 rfl rfl ?_
        refine x_getr hF (shReplayer_0 ik) 2 rfl ck4 (ltReplayer_0 ik) (by decide) tw_237 rfl dX5_chosenPosition_131 ?_
        refine x_getr hF (shReplayer_6 ik) 1 rfl ck1 (ltReplayer_6 ik) (by decide) tw_216 rfl dX5_chosenPosition_134 ?_
        refine x_iload_n hF dX5_chosenPosition_137 rfl rfl ?_
        obtain ⟨hg, h⟩ := og_some h
        refine x_iald hF (shReplayer_7 ik) (ltReplayer_7 ik) hg rfl dX5_chosenPosition_138 ?_
        obtain ⟨hg, h⟩ := og_some h
        refine x_iald hF sh3 (by decide) hg rfl dX5_chosenPosition_139 ?_
        obtain ⟨T7, eT7, h⟩ := ol_some h
        refine x_puti hF (shReplayer_0 ik) 8 rfl ck4 (ltReplayer_0 ik) (by decide) tw_244 rfl rfl rfl rfl rfl eT7 dX5_chosenPosition_140 ?_
        refine x_iload_n hF dX5_chosenPosition_143 rfl rfl ?_
        obtain ⟨rfl, rfl⟩ := sm h
        exact hret _ _ _ _ hk dX5_chosenPosition_144
      · have h := oi_pos hc h
        refine x_iconst (v := (0 : Int32)) hF dX5_chosenPosition_43 (by decide) ?_
        obtain ⟨rfl, rfl⟩ := sm h
        exact hret _ _ _ _ hk dX5_chosenPosition_44
    · have h := oi_pos hc h
      refine x_iconst (v := (-1 : Int32)) hF dX5_chosenPosition_29 (by decide) ?_
      obtain ⟨rfl, rfl⟩ := sm h
      exact hret _ _ _ _ hk dX5_chosenPosition_30
  · have h := oi_neg hc h
    refine x_aload_n hF dX5_chosenPosition_11 rfl rfl ?_
    refine x_getr hF (shReplayer_0 ik) 2 rfl ck4 (ltReplayer_0 ik) (by decide) tw_237 rfl dX5_chosenPosition_12 ?_
    obtain ⟨r8, S9, hcall, h⟩ := ob_some h
    refine x_cVi hF hN hR (ctX2_positionOfBegun (isReplayer_Line ik) hF.tr hcall) mwX2_positionOfBegun miX2_positionOfBegun (shReplayer_6 ik) ck1 (ltReplayer_6 ik) tw_456 ⟨by decide, by decide⟩ rfl rfl (Nat.le_of_ble_eq_true rfl) dX5_chosenPosition_15 ?_
    obtain ⟨rfl, rfl⟩ := sm h
    exact hret _ _ _ _ hk dX5_chosenPosition_18
noncomputable def X5_serveBehind_46 (k : Nat) (x2 : Int32) (x3 : Int32) (x4 : Int32) (x5 : Int32) (S : St) : Option (((Int32 × Int32) ⊕ (Unit ⊕ Unit)) × St) :=
  oi ((40 : Int32) ≤ x5) (some (.inr (.inr ()), S)) (oi (x3 ≤ x4) (some (.inr (.inr ()), S)) (ob (X5_chosenPosition k S) (fun r5 S6 => oi (r5 = (-1 : Int32)) (some (.inr (.inl ()), S6)) (og (inb r5 40) (og (inb (gi S6 (k + 7) (ix r5)) 40) (ob (X2_send (k + 6) r5 (if (x3 - x4) < (gi S6 (k + 8) (ix (gi S6 (k + 7) (ix r5)))) then (x3 - x4) else (gi S6 (k + 8) (ix (gi S6 (k + 7) (ix r5))))) S6) (fun r7 S8 => oi (r7 = 0) (some (.inl ((x4 + (if (x3 - x4) < (gi S6 (k + 8) (ix (gi S6 (k + 7) (ix r5)))) then (x3 - x4) else (gi S6 (k + 8) (ix (gi S6 (k + 7) (ix r5)))))), (x5 + (1 : Int32))), S8)) (ob (X7_quotient ((x4 + (if (x3 - x4) < (gi S6 (k + 8) (ix (gi S6 (k + 7) (ix r5)))) then (x3 - x4) else (gi S6 (k + 8) (ix (gi S6 (k + 7) (ix r5)))))) - (1 : Int32)) (gi S8 k 6) S8) (fun r9 S10 => og (inb (gi S6 (k + 7) (ix r5)) 40) (ol (si S10 (k + 2) (ix (gi S6 (k + 7) (ix r5))) (x2 + r9)) (fun T11 => some (.inl ((x4 + (if (x3 - x4) < (gi S6 (k + 8) (ix (gi S6 (k + 7) (ix r5)))) then (x3 - x4) else (gi S6 (k + 8) (ix (gi S6 (k + 7) (ix r5)))))), (x5 + (1 : Int32))), T11))))))))))))
set_option maxHeartbeats 4000000 in
set_option maxRecDepth 20000 in
theorem xX5_serveBehind_46 {F : Cx} {k : Nat} (ik : isReplayer k) (hF : Ok F cX5_serveBehind RX5) (hN : nLF F 9) (hR : RmF F 3 0) {x2 : Int32} {x3 : Int32} {x4 : Int32} {x5 : Int32} {K : ((Int32 × Int32) ⊕ (Unit ⊕ Unit)) → St → Prop} (hag : ∀ (a : Int32 × Int32) (S : St), K (.inl a) S → X F 0 46 [(0, .ref (gA F k)), (2, .int x2), (3, .int x3), (4, .int a.1), (5, .int a.2)] [] S) (hex71 : ∀ (q : Unit) (S : St), K (.inr (.inl q)) S → X F 0 71 [] [] S) (hex153 : ∀ (q : Unit) (S : St), K (.inr (.inr q)) S → X F 0 153 [] [] S) {S : St} {r : (Int32 × Int32) ⊕ (Unit ⊕ Unit)} {S1 : St} (h : X5_serveBehind_46 k x2 x3 x4 x5 S = some (r, S1)) (hk : K r S1) : X F 0 46 [(0, .ref (gA F k)), (2, .int x2), (3, .int x3), (4, .int x4), (5, .int x5)] [] S := by
  unfold X5_serveBehind_46 at h
  refine x_iload hF dX5_serveBehind_46 rfl ?_
  refine x_bipush (v := (40 : Int32)) hF dX5_serveBehind_48 (by decide) ?_
  refine x_icmp_ge (tgt := 153) hF dX5_serveBehind_50 (by decide) (fun hc => ?_) (fun hc => ?_)
  · have h := oi_pos hc h
    obtain ⟨rfl, rfl⟩ := sm h
    exact x_sub (hex153 _ _ hk) trivial
  · have h := oi_neg hc h
    refine x_iload hF dX5_serveBehind_53 rfl ?_
    refine x_iload_n hF dX5_serveBehind_55 rfl rfl ?_
    refine x_icmp_ge (tgt := 153) hF dX5_serveBehind_56 (by decide) (fun hc => ?_) (fun hc => ?_)
    · have h := oi_pos hc h
      obtain ⟨rfl, rfl⟩ := sm h
      exact x_sub (hex153 _ _ hk) trivial
    · have h := oi_neg hc h
      refine x_aload_n hF dX5_serveBehind_59 rfl rfl ?_
      obtain ⟨r5, S6, hcall, h⟩ := ob_some h
      refine x_cVi hF hN hR (ctX5_chosenPosition ik hF.tr hcall) mwX5_chosenPosition miX5_chosenPosition (shReplayer_0 ik) ck4 (ltReplayer_0 ik) tw_452 ⟨by decide, by decide⟩ rfl rfl (Nat.le_of_ble_eq_true rfl) dX5_serveBehind_60 ?_
      refine x_istore [(6, _), (0, _), (2, _), (3, _), (4, _), (5, _)] hF hN dX5_serveBehind_63 (by decide) rfl ?_
      refine x_iload hF dX5_serveBehind_65 rfl ?_
      refine x_iconst (v := (-1 : Int32)) hF dX5_serveBehind_67 (by decide) ?_
      refine x_icmp_ne (tgt := 72) hF dX5_serveBehind_68 (by decide) (fun hc => ?_) (fun hc => ?_)
      · have h := oi_neg hc h
        refine x_aload_n hF dX5_serveBehind_72 rfl rfl ?_
        refine x_getr hF (shReplayer_0 ik) 2 rfl ck4 (ltReplayer_0 ik) (by decide) tw_237 rfl dX5_serveBehind_73 ?_
        refine x_getr hF (shReplayer_6 ik) 1 rfl ck1 (ltReplayer_6 ik) (by decide) tw_216 rfl dX5_serveBehind_76 ?_
        refine x_iload hF dX5_serveBehind_79 rfl ?_
        obtain ⟨hg, h⟩ := og_some h
        refine x_iald hF (shReplayer_7 ik) (ltReplayer_7 ik) hg rfl dX5_serveBehind_81 ?_
        refine x_istore [(7, _), (6, _), (0, _), (2, _), (3, _), (4, _), (5, _)] hF hN dX5_serveBehind_82 (by decide) rfl ?_
        refine x_aload_n hF dX5_serveBehind_84 rfl rfl ?_
        refine x_getr hF (shReplayer_0 ik) 2 rfl ck4 (ltReplayer_0 ik) (by decide) tw_237 rfl dX5_serveBehind_85 ?_
        refine x_getr hF (shReplayer_6 ik) 2 rfl ck1 (ltReplayer_6 ik) (by decide) tw_218 rfl dX5_serveBehind_88 ?_
        refine x_iload hF dX5_serveBehind_91 rfl ?_
        obtain ⟨hg, h⟩ := og_some h
        refine x_iald hF (shReplayer_8 ik) (ltReplayer_8 ik) hg rfl dX5_serveBehind_93 ?_
        refine x_iload_n hF dX5_serveBehind_94 rfl rfl ?_
        refine x_iload hF dX5_serveBehind_95 rfl ?_
        refine x_isub hF dX5_serveBehind_97 ?_
        refine x_mmin hF hR tw_386 mcmin.1 tw_87 mcmin.2 ⟨by decide, by decide⟩ (Nat.le_of_ble_eq_true rfl) dX5_serveBehind_98 ?_
        refine x_istore [(8, _), (7, _), (6, _), (0, _), (2, _), (3, _), (4, _), (5, _)] hF hN dX5_serveBehind_101 (by decide) rfl ?_
        refine x_iload hF dX5_serveBehind_103 rfl ?_
        refine x_iload hF dX5_serveBehind_105 rfl ?_
        refine x_iadd hF dX5_serveBehind_107 ?_
        refine x_istore [(4, _), (8, _), (7, _), (6, _), (0, _), (2, _), (3, _), (5, _)] hF hN dX5_serveBehind_108 (by decide) rfl ?_
        refine x_aload_n hF dX5_serveBehind_110 rfl rfl ?_
        refine x_getr hF (shReplayer_0 ik) 2 rfl ck4 (ltReplayer_0 ik) (by decide) tw_237 rfl dX5_serveBehind_111 ?_
        refine x_iload hF dX5_serveBehind_114 rfl ?_
        refine x_iload hF dX5_serveBehind_116 rfl ?_
        obtain ⟨r7, S8, hcall, h⟩ := ob_some h
        refine x_cVi hF hN hR (ctX2_send (isReplayer_Line ik) hF.tr hcall) mwX2_send miX2_send (shReplayer_6 ik) ck1 (ltReplayer_6 ik) tw_464 ⟨by decide, by decide⟩ rfl rfl (Nat.le_of_ble_eq_true rfl) dX5_serveBehind_118 ?_
        refine x_if_eq (tgt := 147) hF dX5_serveBehind_121 (by decide) (fun hc => ?_) (fun hc => ?_)
        · have h := oi_pos hc h
          refine x_iinc [(5, _), (4, _), (8, _), (7, _), (6, _), (0, _), (2, _), (3, _)] (v := (1 : Int32)) hF hN dX5_serveBehind_147 rfl (by decide) (by decide) rfl ?_
          refine x_goto (tgt := 46) hF dX5_serveBehind_150 (by decide) ?_
          obtain ⟨rfl, rfl⟩ := sm h
          exact x_sub (hag _ _ hk) ⟨rfl, rfl, rfl, rfl, rfl, trivial⟩
        · have h := oi_neg hc h
          refine x_aload_n hF dX5_serveBehind_124 rfl rfl ?_
          refine x_getr hF (shReplayer_0 ik) 1 rfl ck4 (ltReplayer_0 ik) (by decide) tw_235 rfl dX5_serveBehind_125 ?_
          refine x_getr hF (shReplayer_1 ik) 2 rfl ck2 (ltReplayer_1 ik) (by decide) tw_180 rfl dX5_serveBehind_128 ?_
          refine x_iload hF dX5_serveBehind_131 rfl ?_
          refine x_iload_n hF dX5_serveBehind_133 rfl rfl ?_
          refine x_iload hF dX5_serveBehind_134 rfl ?_
          refine x_iconst (v := (1 : Int32)) hF dX5_serveBehind_136 (by decide) ?_
          refine x_isub hF dX5_serveBehind_137 ?_
          refine x_aload_n hF dX5_serveBehind_138 rfl rfl ?_
          refine x_geti hF (shReplayer_0 ik) 6 rfl ck4 (ltReplayer_0 ik) (by decide) tw_242 rfl dX5_serveBehind_139 ?_
          obtain ⟨r9, S10, hcall, h⟩ := ob_some h
          refine x_cSN hF hN hR (ctX7_quotient hF.tr hcall) mwX7_quotient tw_425 (List.mem_of_getElem? (i := 6) rfl) ⟨by decide, by decide⟩ rfl rfl (Nat.le_of_ble_eq_true rfl) dX5_serveBehind_142 ?_
          refine x_iadd hF dX5_serveBehind_145 ?_
          obtain ⟨hg, h⟩ := og_some h
          obtain ⟨T11, eT11, h⟩ := ol_some h
          refine x_iast hF (shReplayer_2 ik) (ltReplayer_2 ik) hg rfl eT11 dX5_serveBehind_146 ?_
          refine x_iinc [(5, _), (4, _), (8, _), (7, _), (6, _), (0, _), (2, _), (3, _)] (v := (1 : Int32)) hF hN dX5_serveBehind_147 rfl (by decide) (by decide) rfl ?_
          refine x_goto (tgt := 46) hF dX5_serveBehind_150 (by decide) ?_
          obtain ⟨rfl, rfl⟩ := sm h
          exact x_sub (hag _ _ hk) ⟨rfl, rfl, rfl, rfl, rfl, trivial⟩
      · have h := oi_pos hc h
        obtain ⟨rfl, rfl⟩ := sm h
        exact x_sub (hex71 _ _ hk) trivial
noncomputable def X5_serveBehind_46L (k : Nat) (x2 : Int32) (x3 : Int32) (a : Int32 × Int32) (S : St) : Option ((Unit ⊕ Unit) × St) :=
  lp (fun (a : Int32 × Int32) (S : St) => X5_serveBehind_46 k x2 x3 a.1 a.2 S) a S
theorem xX5_serveBehind_46L {F : Cx} {k : Nat} (ik : isReplayer k) (hF : Ok F cX5_serveBehind RX5) (hN : nLF F 9) (hR : RmF F 3 0) {x2 : Int32} {x3 : Int32} {K : (Unit ⊕ Unit) → St → Prop} (hex71 : ∀ (q : Unit) (S : St), K ((.inl q)) S → X F 0 71 [] [] S) (hex153 : ∀ (q : Unit) (S : St), K ((.inr q)) S → X F 0 153 [] [] S) {a : Int32 × Int32} {S : St} {b : Unit ⊕ Unit} {S1 : St} (h : X5_serveBehind_46L k x2 x3 a S = some (b, S1)) (hk : K b S1) : X F 0 46 [(0, .ref (gA F k)), (2, .int x2), (3, .int x3), (4, .int a.1), (5, .int a.2)] [] S := by
  unfold X5_serveBehind_46L at h
  exact lp_rule (Xh := fun (a : Int32 × Int32) (S : St) => X F 0 46 [(0, .ref (gA F k)), (2, .int x2), (3, .int x3), (4, .int a.1), (5, .int a.2)] [] S) (K := K) (fun a S r S1 h hk => xX5_serveBehind_46 ik hF hN hR (K := fun r S => match r with | .inl a => X F 0 46 [(0, .ref (gA F k)), (2, .int x2), (3, .int x3), (4, .int a.1), (5, .int a.2)] [] S | .inr b => K b S) (fun _ _ h => h) (fun q S h => hex71 q S h) (fun q S h => hex153 q S h) h (by cases r <;> exact hk)) h hk
noncomputable def X5_serveBehind (k : Nat) (x1 : Int32) (S : St) : Option (Unit × St) :=
  og (inb x1 40) (ob (X5_bytesUntilNext k x1 S) (fun r1 S2 => ob (X3_noteLoad (k + 1) (gi S 2 (ix x1)) (if (0 : Int32) < ((gi S2 (k + 6) 3) - (gi S2 k 6)) then ((gi S2 (k + 6) 3) - (gi S2 k 6)) else (0 : Int32)) S2) (fun r3 S4 => ob (X5_serveBehind_46L k (gi S 2 (ix x1)) r1 ((0 : Int32), (0 : Int32)) S4) (fun b12 S13 => match b12 with | .inl q14 => some ((), S13) | .inr q15 => some ((), S13)))))
set_option maxHeartbeats 4000000 in
set_option maxRecDepth 20000 in
theorem ctX5_serveBehind {l : Launch} {G : Ga} {k : Nat} (ik : isReplayer k) {x1 : Int32} (hl : l.stackTraces = false) {S : St} {r : Unit} {S1 : St} (h : X5_serveBehind k x1 S = some (r, S1)) : CT l G 3 yX5_serveBehind cX5_serveBehind 9 none [.ref (G.1 k), .int x1] S none S1 := by
  refine ct_of hl (by decide) (Nat.le_of_ble_eq_true rfl) (fun F hFl hFG hF hN hR hret => ?_)
  subst hFl hFG
  show X F 0 0 [(0, .ref (gA F k)), (1, .int x1)] [] S
  have hret : ∀ (v : Unit) (S : St) (pc : Nat) (ls : List (Nat × Value)), (v = r ∧ S = S1) → decode cX5_serveBehind pc = .ok (.return_, 1) → X F 0 pc ls [] S := fun v S2 pc ls hq hd => by obtain ⟨rfl, rfl⟩ := hq; exact hret.2.2.2.2.1 pc ls rfl rfl hd
  have hk : r = r ∧ S1 = S1 := ⟨rfl, rfl⟩
  unfold X5_serveBehind at h
  refine x_aload_n hF dX5_serveBehind_0 rfl rfl ?_
  refine x_getr hF (shReplayer_0 ik) 0 rfl ck4 (ltReplayer_0 ik) (by decide) tw_234 rfl dX5_serveBehind_1 ?_
  refine x_getr hF sh1 1 rfl ck3 (by decide) (by decide) tw_122 rfl dX5_serveBehind_4 ?_
  refine x_iload_n hF dX5_serveBehind_7 rfl rfl ?_
  obtain ⟨hg, h⟩ := og_some h
  refine x_iald hF sh2 (by decide) hg rfl dX5_serveBehind_8 ?_
  refine x_istore_n [(2, _), (0, _), (1, _)] hF hN dX5_serveBehind_9 rfl (by decide) rfl ?_
  refine x_aload_n hF dX5_serveBehind_10 rfl rfl ?_
  refine x_iload_n hF dX5_serveBehind_11 rfl rfl ?_
  obtain ⟨r1, S2, hcall, h⟩ := ob_some h
  refine x_cVi hF hN hR (ctX5_bytesUntilNext ik hF.tr hcall) mwX5_bytesUntilNext miX5_bytesUntilNext (shReplayer_0 ik) ck4 (ltReplayer_0 ik) tw_443 ⟨by decide, by decide⟩ rfl rfl (Nat.le_of_ble_eq_true rfl) dX5_serveBehind_12 ?_
  refine x_istore_n [(3, _), (2, _), (0, _), (1, _)] hF hN dX5_serveBehind_15 rfl (by decide) rfl ?_
  refine x_aload_n hF dX5_serveBehind_16 rfl rfl ?_
  refine x_getr hF (shReplayer_0 ik) 1 rfl ck4 (ltReplayer_0 ik) (by decide) tw_235 rfl dX5_serveBehind_17 ?_
  refine x_iload_n hF dX5_serveBehind_20 rfl rfl ?_
  refine x_iconst (v := (0 : Int32)) hF dX5_serveBehind_21 (by decide) ?_
  refine x_aload_n hF dX5_serveBehind_22 rfl rfl ?_
  refine x_getr hF (shReplayer_0 ik) 2 rfl ck4 (ltReplayer_0 ik) (by decide) tw_237 rfl dX5_serveBehind_23 ?_
  refine x_geti hF (shReplayer_6 ik) 3 rfl ck1 (ltReplayer_6 ik) (by decide) tw_220 rfl dX5_serveBehind_26 ?_
  refine x_aload_n hF dX5_serveBehind_29 rfl rfl ?_
  refine x_geti hF (shReplayer_0 ik) 6 rfl ck4 (ltReplayer_0 ik) (by decide) tw_242 rfl dX5_serveBehind_30 ?_
  refine x_isub hF dX5_serveBehind_33 ?_
  refine x_mmax hF hR tw_447 mcmax.1 tw_87 mcmax.2 ⟨by decide, by decide⟩ (Nat.le_of_ble_eq_true rfl) dX5_serveBehind_34 ?_
  obtain ⟨r3, S4, hcall, h⟩ := ob_some h
  refine x_cVv hF hN hR (ctX3_noteLoad (isReplayer_Outcome ik) hF.tr hcall) mwX3_noteLoad miX3_noteLoad (shReplayer_1 ik) ck2 (ltReplayer_1 ik) tw_448 ⟨by decide, by decide⟩ rfl rfl (Nat.le_of_ble_eq_true rfl) dX5_serveBehind_37 ?_
  refine x_iconst (v := (0 : Int32)) hF dX5_serveBehind_40 (by decide) ?_
  refine x_istore [(4, _), (3, _), (2, _), (0, _), (1, _)] hF hN dX5_serveBehind_41 (by decide) rfl ?_
  refine x_iconst (v := (0 : Int32)) hF dX5_serveBehind_43 (by decide) ?_
  refine x_istore [(5, _), (4, _), (3, _), (2, _), (0, _), (1, _)] hF hN dX5_serveBehind_44 (by decide) rfl ?_
  obtain ⟨b12, S13, hlb12, h⟩ := ob_some h
  refine x_sub (xX5_serveBehind_46L ik hF hN hR (K := fun bb SS => bb = b12 ∧ SS = S13) ?_ ?_ hlb12 ⟨rfl, rfl⟩) ⟨rfl, rfl, rfl, rfl, rfl, trivial⟩
  · rintro _ _ ⟨rfl, rfl⟩
    dsimp only at h
    obtain ⟨rfl, rfl⟩ := sm h
    exact hret _ _ _ _ hk dX5_serveBehind_71
  · rintro _ _ ⟨rfl, rfl⟩
    dsimp only at h
    obtain ⟨rfl, rfl⟩ := sm h
    exact hret _ _ _ _ hk dX5_serveBehind_153
noncomputable def X7_contains (x0 : Int32) (x1 : Int32) (S : St) : Option (Int32 × St) :=
  oi (((x0 >>> (x1 &&& 31)) &&& (1 : Int32)) = (1 : Int32)) (some ((1 : Int32), S)) (some ((0 : Int32), S))
set_option maxHeartbeats 4000000 in
set_option maxRecDepth 20000 in
theorem ctX7_contains {l : Launch} {G : Ga} {x0 : Int32} {x1 : Int32} (hl : l.stackTraces = false) {S : St} {r : Int32} {S1 : St} (h : X7_contains x0 x1 S = some (r, S1)) : CT l G 0 yX7_contains cX7_contains 2 (some .boolean) [.int x0, .int x1] S (some (.int r)) S1 := by
  refine ct_of hl (by decide) (Nat.le_of_ble_eq_true rfl) (fun F hFl hFG hF hN hR hret => ?_)
  subst hFl hFG
  show X F 0 0 [(0, .int x0), (1, .int x1)] [] S
  have hret : ∀ (v : Int32) (S : St) (pc : Nat) (ls : List (Nat × Value)), isB v → (v = r ∧ S = S1) → decode cX7_contains pc = .ok (.ireturn, 1) → X F 0 pc ls [.int v] S := fun v S2 pc ls hb hq hd => by obtain ⟨rfl, rfl⟩ := hq; exact hret.2.1 pc ls v rfl hb rfl hd
  have hk : r = r ∧ S1 = S1 := ⟨rfl, rfl⟩
  unfold X7_contains at h
  refine x_iload_n hF dX7_contains_0 rfl rfl ?_
  refine x_iload_n hF dX7_contains_1 rfl rfl ?_
  refine x_ishr hF dX7_contains_2 ?_
  refine x_iconst (v := (1 : Int32)) hF dX7_contains_3 (by decide) ?_
  refine x_iand hF dX7_contains_4 ?_
  refine x_iconst (v := (1 : Int32)) hF dX7_contains_5 (by decide) ?_
  refine x_icmp_ne (tgt := 13) hF dX7_contains_6 (by decide) (fun hc => ?_) (fun hc => ?_)
  · have h := oi_neg hc h
    refine x_iconst (v := (0 : Int32)) hF dX7_contains_13 (by decide) ?_
    obtain ⟨rfl, rfl⟩ := sm h
    exact hret _ _ _ _ (by decide) hk dX7_contains_14
  · have h := oi_pos hc h
    refine x_iconst (v := (1 : Int32)) hF dX7_contains_9 (by decide) ?_
    refine x_goto (tgt := 14) hF dX7_contains_10 (by decide) ?_
    obtain ⟨rfl, rfl⟩ := sm h
    exact hret _ _ _ _ (by decide) hk dX7_contains_14
noncomputable def X5_play_148 (k : Nat) (x1 : Int32) (x3 : Int32) (x4 : Int32) (S : St) : Option (((Int32) ⊕ Unit) × St) :=
  ob (X5_isLastOfItsTick k x4 S) (fun r16 S17 => oi (r16 = 0) (some (.inl (x4 + (1 : Int32)), S17)) (ob (X5_serveBehind k x4 S17) (fun r18 S19 => some (.inl (x4 + (1 : Int32)), S19))))
set_option maxHeartbeats 4000000 in
set_option maxRecDepth 20000 in
theorem xX5_play_148 {F : Cx} {k : Nat} (ik : isReplayer k) (hF : Ok F cX5_play RX5) (hN : nLF F 5) (hR : RmF F 4 0) {x1 : Int32} {x3 : Int32} {x4 : Int32} {K : ((Int32) ⊕ Unit) → St → Prop} (hag : ∀ (a : Int32) (S : St), K (.inl a) S → X F 0 63 [(0, .ref (gA F k)), (1, .int x1), (3, .int x3), (4, .int a)] [] S) (hex169 : ∀ (q : Unit) (S : St), K (.inr q) S → X F 0 169 [] [] S) {S : St} {r : (Int32) ⊕ Unit} {S1 : St} (h : X5_play_148 k x1 x3 x4 S = some (r, S1)) (hk : K r S1) : X F 0 148 [(0, .ref (gA F k)), (1, .int x1), (3, .int x3), (4, .int x4)] [] S := by
  unfold X5_play_148 at h
  refine x_aload_n hF dX5_play_148 rfl rfl ?_
  refine x_iload hF dX5_play_149 rfl ?_
  obtain ⟨r16, S17, hcall, h⟩ := ob_some h
  refine x_cVi hF hN hR (ctX5_isLastOfItsTick ik hF.tr hcall) mwX5_isLastOfItsTick miX5_isLastOfItsTick (shReplayer_0 ik) ck4 (ltReplayer_0 ik) tw_435 ⟨by decide, by decide⟩ rfl rfl (Nat.le_of_ble_eq_true rfl) dX5_play_151 ?_
  refine x_if_eq (tgt := 163) hF dX5_play_154 (by decide) (fun hc => ?_) (fun hc => ?_)
  · have h := oi_pos hc h
    refine x_iinc [(4, _), (0, _), (1, _), (3, _)] (v := (1 : Int32)) hF hN dX5_play_163 rfl (by decide) (by decide) rfl ?_
    refine x_goto (tgt := 63) hF dX5_play_166 (by decide) ?_
    obtain ⟨rfl, rfl⟩ := sm h
    exact x_sub (hag _ _ hk) ⟨rfl, rfl, rfl, rfl, trivial⟩
  · have h := oi_neg hc h
    refine x_aload_n hF dX5_play_157 rfl rfl ?_
    refine x_iload hF dX5_play_158 rfl ?_
    obtain ⟨r18, S19, hcall, h⟩ := ob_some h
    refine x_cVv hF hN hR (ctX5_serveBehind ik hF.tr hcall) mwX5_serveBehind miX5_serveBehind (shReplayer_0 ik) ck4 (ltReplayer_0 ik) tw_439 ⟨by decide, by decide⟩ rfl rfl (Nat.le_of_ble_eq_true rfl) dX5_play_160 ?_
    refine x_iinc [(4, _), (0, _), (1, _), (3, _)] (v := (1 : Int32)) hF hN dX5_play_163 rfl (by decide) (by decide) rfl ?_
    refine x_goto (tgt := 63) hF dX5_play_166 (by decide) ?_
    obtain ⟨rfl, rfl⟩ := sm h
    exact x_sub (hag _ _ hk) ⟨rfl, rfl, rfl, rfl, trivial⟩
noncomputable def X5_play_63 (k : Nat) (x1 : Int32) (x3 : Int32) (x4 : Int32) (S : St) : Option (((Int32) ⊕ Unit) × St) :=
  oi ((gi S 1 0) ≤ x4) (some (.inr (), S)) (og (inb x4 40) (ob (X7_contains x1 (gi S 3 (ix x4)) S) (fun r10 S11 => oi (r10 = 0) (og (inb x4 40) (ol (si S11 (k + 2) (ix x4) (-3 : Int32)) (fun T22 => X5_play_148 k x1 x3 x4 T22))) (ob (X5_admits k x4 x3 S11) (fun r12 S13 => oi (r12 = 0) (ob (X3_noteDrop (k + 1) x4 S13) (fun r14 S15 => X5_play_148 k x1 x3 x4 S15)) (og (inb x4 40) (ob (X2_join (k + 6) x4 (gi S13 4 (ix x4)) S13) (fun r20 S21 => X5_play_148 k x1 x3 x4 S21))))))))
set_option maxHeartbeats 4000000 in
set_option maxRecDepth 20000 in
theorem xX5_play_63 {F : Cx} {k : Nat} (ik : isReplayer k) (hF : Ok F cX5_play RX5) (hN : nLF F 5) (hR : RmF F 4 0) {x1 : Int32} {x3 : Int32} {x4 : Int32} {K : ((Int32) ⊕ Unit) → St → Prop} (hag : ∀ (a : Int32) (S : St), K (.inl a) S → X F 0 63 [(0, .ref (gA F k)), (1, .int x1), (3, .int x3), (4, .int a)] [] S) (hex169 : ∀ (q : Unit) (S : St), K (.inr q) S → X F 0 169 [] [] S) {S : St} {r : (Int32) ⊕ Unit} {S1 : St} (h : X5_play_63 k x1 x3 x4 S = some (r, S1)) (hk : K r S1) : X F 0 63 [(0, .ref (gA F k)), (1, .int x1), (3, .int x3), (4, .int x4)] [] S := by
  unfold X5_play_63 at h
  refine x_iload hF dX5_play_63 rfl ?_
  refine x_aload_n hF dX5_play_65 rfl rfl ?_
  refine x_getr hF (shReplayer_0 ik) 0 rfl ck4 (ltReplayer_0 ik) (by decide) tw_234 rfl dX5_play_66 ?_
  refine x_geti hF sh1 0 rfl ck3 (by decide) (by decide) tw_119 rfl dX5_play_69 ?_
  refine x_icmp_ge (tgt := 169) hF dX5_play_72 (by decide) (fun hc => ?_) (fun hc => ?_)
  · have h := oi_pos hc h
    obtain ⟨rfl, rfl⟩ := sm h
    exact x_sub (hex169 _ _ hk) trivial
  · have h := oi_neg hc h
    refine x_iload_n hF dX5_play_75 rfl rfl ?_
    refine x_aload_n hF dX5_play_76 rfl rfl ?_
    refine x_getr hF (shReplayer_0 ik) 0 rfl ck4 (ltReplayer_0 ik) (by decide) tw_234 rfl dX5_play_77 ?_
    refine x_getr hF sh1 2 rfl ck3 (by decide) (by decide) tw_125 rfl dX5_play_80 ?_
    refine x_iload hF dX5_play_83 rfl ?_
    obtain ⟨hg, h⟩ := og_some h
    refine x_iald hF sh3 (by decide) hg rfl dX5_play_85 ?_
    obtain ⟨r10, S11, hcall, h⟩ := ob_some h
    refine x_cSN hF hN hR (ctX7_contains hF.tr hcall) mwX7_contains tw_376 (List.mem_of_getElem? (i := 5) rfl) ⟨by decide, by decide⟩ rfl rfl (Nat.le_of_ble_eq_true rfl) dX5_play_86 ?_
    refine x_if_ne (tgt := 107) hF dX5_play_89 (by decide) (fun hc => ?_) (fun hc => ?_)
    · have h := oi_neg hc h
      refine x_aload_n hF dX5_play_107 rfl rfl ?_
      refine x_iload hF dX5_play_108 rfl ?_
      refine x_iload_n hF dX5_play_110 rfl rfl ?_
      obtain ⟨r12, S13, hcall, h⟩ := ob_some h
      refine x_cVi hF hN hR (ctX5_admits ik hF.tr hcall) mwX5_admits miX5_admits (shReplayer_0 ik) ck4 (ltReplayer_0 ik) tw_378 ⟨by decide, by decide⟩ rfl rfl (Nat.le_of_ble_eq_true rfl) dX5_play_111 ?_
      refine x_if_eq (tgt := 139) hF dX5_play_114 (by decide) (fun hc => ?_) (fun hc => ?_)
      · have h := oi_pos hc h
        refine x_aload_n hF dX5_play_139 rfl rfl ?_
        refine x_getr hF (shReplayer_0 ik) 1 rfl ck4 (ltReplayer_0 ik) (by decide) tw_235 rfl dX5_play_140 ?_
        refine x_iload hF dX5_play_143 rfl ?_
        obtain ⟨r14, S15, hcall, h⟩ := ob_some h
        refine x_cVv hF hN hR (ctX3_noteDrop (isReplayer_Outcome ik) hF.tr hcall) mwX3_noteDrop miX3_noteDrop (shReplayer_1 ik) ck2 (ltReplayer_1 ik) tw_404 ⟨by decide, by decide⟩ rfl rfl (Nat.le_of_ble_eq_true rfl) dX5_play_145 ?_
        exact x_sub (xX5_play_148 ik hF hN hR (K := K) hag hex169 h hk) ⟨rfl, rfl, rfl, rfl, trivial⟩
      · have h := oi_neg hc h
        refine x_aload_n hF dX5_play_117 rfl rfl ?_
        refine x_getr hF (shReplayer_0 ik) 2 rfl ck4 (ltReplayer_0 ik) (by decide) tw_237 rfl dX5_play_118 ?_
        refine x_iload hF dX5_play_121 rfl ?_
        refine x_aload_n hF dX5_play_123 rfl rfl ?_
        refine x_getr hF (shReplayer_0 ik) 0 rfl ck4 (ltReplayer_0 ik) (by decide) tw_234 rfl dX5_play_124 ?_
        refine x_getr hF sh1 3 rfl ck3 (by decide) (by decide) tw_128 rfl dX5_play_127 ?_
        refine x_iload hF dX5_play_130 rfl ?_
        obtain ⟨hg, h⟩ := og_some h
        refine x_iald hF sh4 (by decide) hg rfl dX5_play_132 ?_
        obtain ⟨r20, S21, hcall, h⟩ := ob_some h
        refine x_cVv hF hN hR (ctX2_join (isReplayer_Line ik) hF.tr hcall) mwX2_join miX2_join (shReplayer_6 ik) ck1 (ltReplayer_6 ik) tw_431 ⟨by decide, by decide⟩ rfl rfl (Nat.le_of_ble_eq_true rfl) dX5_play_133 ?_
        refine x_goto (tgt := 148) hF dX5_play_136 (by decide) ?_
        exact x_sub (xX5_play_148 ik hF hN hR (K := K) hag hex169 h hk) ⟨rfl, rfl, rfl, rfl, trivial⟩
    · have h := oi_pos hc h
      refine x_aload_n hF dX5_play_92 rfl rfl ?_
      refine x_getr hF (shReplayer_0 ik) 1 rfl ck4 (ltReplayer_0 ik) (by decide) tw_235 rfl dX5_play_93 ?_
      refine x_getr hF (shReplayer_1 ik) 2 rfl ck2 (ltReplayer_1 ik) (by decide) tw_180 rfl dX5_play_96 ?_
      refine x_iload hF dX5_play_99 rfl ?_
      refine x_bipush (v := (-3 : Int32)) hF dX5_play_101 (by decide) ?_
      obtain ⟨hg, h⟩ := og_some h
      obtain ⟨T22, eT22, h⟩ := ol_some h
      refine x_iast hF (shReplayer_2 ik) (ltReplayer_2 ik) hg rfl eT22 dX5_play_103 ?_
      refine x_goto (tgt := 148) hF dX5_play_104 (by decide) ?_
      exact x_sub (xX5_play_148 ik hF hN hR (K := K) hag hex169 h hk) ⟨rfl, rfl, rfl, rfl, trivial⟩
noncomputable def X5_play_63L (k : Nat) (x1 : Int32) (x3 : Int32) (a : Int32) (S : St) : Option (Unit × St) :=
  lp (fun (a : Int32) (S : St) => X5_play_63 k x1 x3 a S) a S
theorem xX5_play_63L {F : Cx} {k : Nat} (ik : isReplayer k) (hF : Ok F cX5_play RX5) (hN : nLF F 5) (hR : RmF F 4 0) {x1 : Int32} {x3 : Int32} {K : Unit → St → Prop} (hex169 : ∀ (q : Unit) (S : St), K (q) S → X F 0 169 [] [] S) {a : Int32} {S : St} {b : Unit} {S1 : St} (h : X5_play_63L k x1 x3 a S = some (b, S1)) (hk : K b S1) : X F 0 63 [(0, .ref (gA F k)), (1, .int x1), (3, .int x3), (4, .int a)] [] S := by
  unfold X5_play_63L at h
  exact lp_rule (Xh := fun (a : Int32) (S : St) => X F 0 63 [(0, .ref (gA F k)), (1, .int x1), (3, .int x3), (4, .int a)] [] S) (K := K) (fun a S r S1 h hk => xX5_play_63 ik hF hN hR (K := fun r S => match r with | .inl a => X F 0 63 [(0, .ref (gA F k)), (1, .int x1), (3, .int x3), (4, .int a)] [] S | .inr b => K b S) (fun _ _ h => h) (fun q S h => hex169 q S h) h (by cases r <;> exact hk)) h hk
noncomputable def X5_play (k : Nat) (x1 : Int32) (x2 : Int32) (x3 : Int32) (S : St) : Option (Unit × St) :=
  ol (si S k 4 x2) (fun T1 => ol (si T1 k 5 (1001 : Int32)) (fun T2 => ol (si T2 k 6 (gi T2 5 1)) (fun T3 => ol (si T3 k 7 (0 : Int32)) (fun T4 => ol (si T4 k 8 (5 : Int32)) (fun T5 => ob (X2_empty (k + 6) T5) (fun r6 S7 => ob (X3_begin (k + 1) (gi S7 1 0) (gi S7 k 6) S7) (fun r8 S9 => ob (X5_play_63L k x1 x3 (0 : Int32) S9) (fun b23 S24 => some ((), S24)))))))))
set_option maxHeartbeats 4000000 in
set_option maxRecDepth 20000 in
theorem ctX5_play {l : Launch} {G : Ga} {k : Nat} (ik : isReplayer k) {x1 : Int32} {x2 : Int32} {x3 : Int32} (hl : l.stackTraces = false) {S : St} {r : Unit} {S1 : St} (h : X5_play k x1 x2 x3 S = some (r, S1)) : CT l G 4 yX5_play cX5_play 5 none [.ref (G.1 k), .int x1, .int x2, .int x3] S none S1 := by
  refine ct_of hl (by decide) (Nat.le_of_ble_eq_true rfl) (fun F hFl hFG hF hN hR hret => ?_)
  subst hFl hFG
  show X F 0 0 [(0, .ref (gA F k)), (1, .int x1), (2, .int x2), (3, .int x3)] [] S
  have hret : ∀ (v : Unit) (S : St) (pc : Nat) (ls : List (Nat × Value)), (v = r ∧ S = S1) → decode cX5_play pc = .ok (.return_, 1) → X F 0 pc ls [] S := fun v S2 pc ls hq hd => by obtain ⟨rfl, rfl⟩ := hq; exact hret.2.2.2.2.1 pc ls rfl rfl hd
  have hk : r = r ∧ S1 = S1 := ⟨rfl, rfl⟩
  unfold X5_play at h
  refine x_aload_n hF dX5_play_0 rfl rfl ?_
  refine x_iload_n hF dX5_play_1 rfl rfl ?_
  obtain ⟨T1, eT1, h⟩ := ol_some h
  refine x_puti hF (shReplayer_0 ik) 4 rfl ck4 (ltReplayer_0 ik) (by decide) tw_239 rfl rfl rfl rfl rfl eT1 dX5_play_2 ?_
  refine x_aload_n hF dX5_play_5 rfl rfl ?_
  refine x_sipush (v := (1001 : Int32)) hF dX5_play_6 (by decide) ?_
  obtain ⟨T2, eT2, h⟩ := ol_some h
  refine x_puti hF (shReplayer_0 ik) 5 rfl ck4 (ltReplayer_0 ik) (by decide) tw_240 rfl rfl rfl rfl rfl eT2 dX5_play_9 ?_
  refine x_aload_n hF dX5_play_12 rfl rfl ?_
  refine x_aload_n hF dX5_play_13 rfl rfl ?_
  refine x_getr hF (shReplayer_0 ik) 0 rfl ck4 (ltReplayer_0 ik) (by decide) tw_234 rfl dX5_play_14 ?_
  refine x_getr hF sh1 4 rfl ck3 (by decide) (by decide) tw_131 rfl dX5_play_17 ?_
  refine x_iconst (v := (1 : Int32)) hF dX5_play_20 (by decide) ?_
  refine x_iald (j := 1) hF sh5 (by decide) (by decide) (by decide) dX5_play_21 ?_
  obtain ⟨T3, eT3, h⟩ := ol_some h
  refine x_puti hF (shReplayer_0 ik) 6 rfl ck4 (ltReplayer_0 ik) (by decide) tw_242 rfl rfl rfl rfl rfl eT3 dX5_play_22 ?_
  refine x_aload_n hF dX5_play_25 rfl rfl ?_
  refine x_iconst (v := (0 : Int32)) hF dX5_play_26 (by decide) ?_
  obtain ⟨T4, eT4, h⟩ := ol_some h
  refine x_puti hF (shReplayer_0 ik) 7 rfl ck4 (ltReplayer_0 ik) (by decide) tw_243 rfl rfl rfl rfl rfl eT4 dX5_play_27 ?_
  refine x_aload_n hF dX5_play_30 rfl rfl ?_
  refine x_iconst (v := (5 : Int32)) hF dX5_play_31 (by decide) ?_
  obtain ⟨T5, eT5, h⟩ := ol_some h
  refine x_puti hF (shReplayer_0 ik) 8 rfl ck4 (ltReplayer_0 ik) (by decide) tw_244 rfl rfl rfl rfl rfl eT5 dX5_play_32 ?_
  refine x_aload_n hF dX5_play_35 rfl rfl ?_
  refine x_getr hF (shReplayer_0 ik) 2 rfl ck4 (ltReplayer_0 ik) (by decide) tw_237 rfl dX5_play_36 ?_
  obtain ⟨r6, S7, hcall, h⟩ := ob_some h
  refine x_cVv hF hN hR (ctX2_empty (isReplayer_Line ik) hF.tr hcall) mwX2_empty miX2_empty (shReplayer_6 ik) ck1 (ltReplayer_6 ik) tw_367 ⟨by decide, by decide⟩ rfl rfl (Nat.le_of_ble_eq_true rfl) dX5_play_39 ?_
  refine x_aload_n hF dX5_play_42 rfl rfl ?_
  refine x_getr hF (shReplayer_0 ik) 1 rfl ck4 (ltReplayer_0 ik) (by decide) tw_235 rfl dX5_play_43 ?_
  refine x_aload_n hF dX5_play_46 rfl rfl ?_
  refine x_getr hF (shReplayer_0 ik) 0 rfl ck4 (ltReplayer_0 ik) (by decide) tw_234 rfl dX5_play_47 ?_
  refine x_geti hF sh1 0 rfl ck3 (by decide) (by decide) tw_119 rfl dX5_play_50 ?_
  refine x_aload_n hF dX5_play_53 rfl rfl ?_
  refine x_geti hF (shReplayer_0 ik) 6 rfl ck4 (ltReplayer_0 ik) (by decide) tw_242 rfl dX5_play_54 ?_
  obtain ⟨r8, S9, hcall, h⟩ := ob_some h
  refine x_cVv hF hN hR (ctX3_begin (isReplayer_Outcome ik) hF.tr hcall) mwX3_begin miX3_begin (shReplayer_1 ik) ck2 (ltReplayer_1 ik) tw_371 ⟨by decide, by decide⟩ rfl rfl (Nat.le_of_ble_eq_true rfl) dX5_play_57 ?_
  refine x_iconst (v := (0 : Int32)) hF dX5_play_60 (by decide) ?_
  refine x_istore [(4, _), (0, _), (1, _), (2, _), (3, _)] hF hN dX5_play_61 (by decide) rfl ?_
  obtain ⟨b23, S24, hlb23, h⟩ := ob_some h
  refine x_sub (xX5_play_63L ik hF hN hR (K := fun bb SS => bb = b23 ∧ SS = S24) ?_ hlb23 ⟨rfl, rfl⟩) ⟨rfl, rfl, rfl, rfl, trivial⟩
  rintro _ _ ⟨_, rfl⟩
  obtain ⟨rfl, rfl⟩ := sm h
  exact hret _ _ _ _ hk dX5_play_169
noncomputable def X7_requireSet_10 (S : St) : Option ((Unit ⊕ Nat) × St) :=
  some (.inr 1, S)
set_option maxHeartbeats 4000000 in
set_option maxRecDepth 20000 in
theorem xX7_requireSet_10 {F : Cx} (hF : Ok F cX7_requireSet RX7) (hN : nLF F 1) (hR : RmF F 6 1) {K : (Unit ⊕ Nat) → St → Prop} (hret : ∀ (v : Unit) (S : St) (u pc : Nat) (ls : List (Nat × Value)), u ≤ 1 → K (.inl v) S → decode cX7_requireSet pc = .ok (.return_, 1) → X F u pc ls [] S) (hxt : ∀ (e : Nat) (S : St) (u pc : Nat) (ls : List (Nat × Value)), u ≤ 1 → K (.inr e) S → XT F u pc e ls S) (hthr : ∀ {e : Nat} {S : St} {u pc ik is j : Nat} {tx : String} {ls : List (Nat × Value)} {st : List Value}, u + 1 ≤ 1 → e < 3 → (st.map fun v => v.category).sum ≤ 8 → K (.inr e) S → Thr cX7_requireSet pc e ik is j tx ∨ ThrW cX7_requireSet pc e ik is j tx → X F u pc ls st S) {S : St} {r : (Unit ⊕ Nat)} {S1 : St} (h : X7_requireSet_10  S = some (r, S1)) (hk : K r S1) : X F 0 10 [] [] S := by
  unfold X7_requireSet_10 at h
  obtain ⟨rfl, rfl⟩ := sm h
  exact hthr (e := 1) (j := 6) (by decide) (by decide) (Nat.le_of_ble_eq_true rfl) hk (Or.inl ⟨tw_665, tw_84, rfl, dX7_requireSet_10, dX7_requireSet_13, dX7_requireSet_14, dX7_requireSet_16, dX7_requireSet_19⟩)
noncomputable def X7_requireSet (x0 : Int32) (S : St) : Option ((Unit ⊕ Nat) × St) :=
  oi (x0 < 0) (X7_requireSet_10  S) (oi (x0 ≤ (63 : Int32)) (some (.inl (), S)) (X7_requireSet_10  S))
set_option maxHeartbeats 4000000 in
set_option maxRecDepth 20000 in
theorem cxX7_requireSet {l : Launch} {G : Ga} {x0 : Int32} (hl : l.stackTraces = false) {S : St} {r : (Unit ⊕ Nat)} {S1 : St} (h : X7_requireSet x0 S = some (r, S1)) : CX l G 6 1 yX7_requireSet cX7_requireSet 1 none [.int x0] S (rvU r) S1 := by
  refine cx_of hl (by decide) rfl (by decide) (Nat.le_of_ble_eq_true rfl) (fun F hFl hFG hF hN hR hret => ?_)
  subst hFl hFG
  show X F 0 0 [(0, .int x0)] [] S
  have hxt : ∀ (e : Nat) (S : St) (u pc : Nat) (ls : List (Nat × Value)), u ≤ 1 → (.inr e = r ∧ S = S1) → XT F u pc e ls S := fun e S2 u pc ls hu hq => by obtain ⟨rfl, rfl⟩ := hq; exact hret.2.2.1 u pc e ls hu rfl
  have hthr : ∀ {e : Nat} {S : St} {u pc ik is j : Nat} {tx : String} {ls : List (Nat × Value)} {st : List Value}, u + 1 ≤ 1 → e < 3 → (st.map fun v => v.category).sum ≤ 8 → (.inr e = r ∧ S = S1) → Thr cX7_requireSet pc e ik is j tx ∨ ThrW cX7_requireSet pc e ik is j tx → X F u pc ls st S := fun {e S2 u pc ik is j tx ls st} hu he hs hq hT => by obtain ⟨rfl, rfl⟩ := hq; exact hret.2.2.2 u pc e ik is j tx ls st hu he hs rfl hT
  have hret : ∀ (v : Unit) (S : St) (u pc : Nat) (ls : List (Nat × Value)), u ≤ 1 → (.inl v = r ∧ S = S1) → decode cX7_requireSet pc = .ok (.return_, 1) → X F u pc ls [] S := fun v S2 u pc ls hu hq hd => by obtain ⟨rfl, rfl⟩ := hq; exact hret.2.1 u pc ls hu rfl rfl hd
  have hk : r = r ∧ S1 = S1 := ⟨rfl, rfl⟩
  unfold X7_requireSet at h
  refine x_iload_n hF dX7_requireSet_0 rfl rfl ?_
  refine x_if_lt (tgt := 10) hF dX7_requireSet_1 (by decide) (fun hc => ?_) (fun hc => ?_)
  · have h := oi_pos hc h
    exact x_sub (xX7_requireSet_10 hF hN hR (K := fun v9 S9 => v9 = r ∧ S9 = S1) hret hxt hthr h hk) trivial
  · have h := oi_neg hc h
    refine x_iload_n hF dX7_requireSet_4 rfl rfl ?_
    refine x_bipush (v := (63 : Int32)) hF dX7_requireSet_5 (by decide) ?_
    refine x_icmp_le (tgt := 20) hF dX7_requireSet_7 (by decide) (fun hc => ?_) (fun hc => ?_)
    · have h := oi_pos hc h
      obtain ⟨rfl, rfl⟩ := sm h
      exact hret _ _ _ _ _ (by decide) hk dX7_requireSet_20
    · have h := oi_neg hc h
      exact x_sub (xX7_requireSet_10 hF hN hR (K := fun v9 S9 => v9 = r ∧ S9 = S1) hret hxt hthr h hk) trivial
noncomputable def X7_replay (x1 : Int32) (S : St) : Option ((Int32 ⊕ Nat) × St) :=
  obx (X7_requireSet x1 S) (fun r1 S2 => ob (X5_play 48 x1 (gi S2 5 0) (gi S2 5 2) S2) (fun r3 S4 => some (.inl (gi S4 49 3), S4)))
set_option maxHeartbeats 4000000 in
set_option maxRecDepth 20000 in
theorem cxX7_replay {l : Launch} {G : Ga} {x1 : Int32} (hl : l.stackTraces = false) {S : St} {r : (Int32 ⊕ Nat)} {S1 : St} (h : X7_replay x1 S = some (r, S1)) : CX l G 7 1 yX7_replay cX7_replay 2 (some .int) [.ref (G.1 0), .int x1] S (rvI r) S1 := by
  refine cx_of hl (by decide) rfl (by decide) (Nat.le_of_ble_eq_true rfl) (fun F hFl hFG hF hN hR hret => ?_)
  subst hFl hFG
  show X F 0 0 [(0, .ref (gA F 0)), (1, .int x1)] [] S
  have hxt : ∀ (e : Nat) (S : St) (u pc : Nat) (ls : List (Nat × Value)), u ≤ 1 → (.inr e = r ∧ S = S1) → XT F u pc e ls S := fun e S2 u pc ls hu hq => by obtain ⟨rfl, rfl⟩ := hq; exact hret.2.2.1 u pc e ls hu rfl
  have hthr : ∀ {e : Nat} {S : St} {u pc ik is j : Nat} {tx : String} {ls : List (Nat × Value)} {st : List Value}, u + 1 ≤ 1 → e < 3 → (st.map fun v => v.category).sum ≤ 8 → (.inr e = r ∧ S = S1) → Thr cX7_replay pc e ik is j tx ∨ ThrW cX7_replay pc e ik is j tx → X F u pc ls st S := fun {e S2 u pc ik is j tx ls st} hu he hs hq hT => by obtain ⟨rfl, rfl⟩ := hq; exact hret.2.2.2 u pc e ik is j tx ls st hu he hs rfl hT
  have hret : ∀ (v : Int32) (S : St) (u pc : Nat) (ls : List (Nat × Value)), u ≤ 1 → (.inl v = r ∧ S = S1) → decode cX7_replay pc = .ok (.ireturn, 1) → X F u pc ls [.int v] S := fun v S2 u pc ls hu hq hd => by obtain ⟨rfl, rfl⟩ := hq; exact hret.1 u pc ls v hu rfl rfl hd
  have hk : r = r ∧ S1 = S1 := ⟨rfl, rfl⟩
  unfold X7_replay at h
  refine x_iload_n hF dX7_replay_0 rfl rfl ?_
  rcases obx_some h with ⟨r1, S2, hcall, h⟩ | ⟨r1, hcall, h⟩
  · refine x_xSv hF hN hR (cxX7_requireSet hF.tr hcall) mwX7_requireSet tw_827 tw_826 ⟨by decide, by decide⟩ rfl rfl (Nat.le_of_ble_eq_true rfl) dX7_replay_1 ?_
    refine x_aload_n hF dX7_replay_4 rfl rfl ?_
    refine x_getr hF sh0 2 rfl ck6 (by decide) (by decide) tw_294 rfl dX7_replay_5 ?_
    refine x_iload_n hF dX7_replay_8 rfl rfl ?_
    refine x_aload_n hF dX7_replay_9 rfl rfl ?_
    refine x_getr hF sh0 0 rfl ck6 (by decide) (by decide) tw_292 rfl dX7_replay_10 ?_
    refine x_getr hF sh1 4 rfl ck3 (by decide) (by decide) tw_132 rfl dX7_replay_13 ?_
    refine x_iconst (v := (0 : Int32)) hF dX7_replay_16 (by decide) ?_
    refine x_iald (j := 0) hF sh5 (by decide) (by decide) (by decide) dX7_replay_17 ?_
    refine x_aload_n hF dX7_replay_18 rfl rfl ?_
    refine x_getr hF sh0 0 rfl ck6 (by decide) (by decide) tw_292 rfl dX7_replay_19 ?_
    refine x_getr hF sh1 4 rfl ck3 (by decide) (by decide) tw_132 rfl dX7_replay_22 ?_
    refine x_iconst (v := (2 : Int32)) hF dX7_replay_25 (by decide) ?_
    refine x_iald (j := 2) hF sh5 (by decide) (by decide) (by decide) dX7_replay_26 ?_
    obtain ⟨r3, S4, hcall, h⟩ := ob_some h
    refine x_cVv hF hN hR (ctX5_play (by decide) hF.tr hcall) mwX5_play miX5_play sh48 ck4 (by decide) tw_363 ⟨by decide, by decide⟩ rfl rfl (Nat.le_of_ble_eq_true rfl) dX7_replay_27 ?_
    refine x_aload_n hF dX7_replay_30 rfl rfl ?_
    refine x_getr hF sh0 2 rfl ck6 (by decide) (by decide) tw_294 rfl dX7_replay_31 ?_
    refine x_getr hF sh48 1 rfl ck4 (by decide) (by decide) tw_236 rfl dX7_replay_34 ?_
    refine x_geti hF sh49 3 rfl ck2 (by decide) (by decide) tw_182 rfl dX7_replay_37 ?_
    obtain ⟨rfl, rfl⟩ := sm h
    exact hret _ _ _ _ _ (by decide) hk dX7_replay_40
  · subst h
    exact x_xSt hF hN hR (cxX7_requireSet hF.tr hcall) mwX7_requireSet tw_827 tw_826 ⟨by decide, by decide⟩ rfl rfl (Nat.le_of_ble_eq_true rfl) dX7_replay_1 (hxt _ _ _ _ _ (by decide) hk)
noncomputable def X3_fateOf (k : Nat) (x1 : Int32) (S : St) : Option (Int32 × St) :=
  oi ((gi S k 0) = 0) (some ((-1 : Int32), S)) (oi (x1 < 0) (some ((-1 : Int32), S)) (oi ((gi S k 1) ≤ x1) (some ((-1 : Int32), S)) (og (inb x1 40) (some ((gi S (k + 1) (ix x1)), S)))))
set_option maxHeartbeats 4000000 in
set_option maxRecDepth 20000 in
theorem ctX3_fateOf {l : Launch} {G : Ga} {k : Nat} (ik : isOutcome k) {x1 : Int32} (hl : l.stackTraces = false) {S : St} {r : Int32} {S1 : St} (h : X3_fateOf k x1 S = some (r, S1)) : CT l G 0 yX3_fateOf cX3_fateOf 2 (some .int) [.ref (G.1 k), .int x1] S (some (.int r)) S1 := by
  refine ct_of hl (by decide) (Nat.le_of_ble_eq_true rfl) (fun F hFl hFG hF hN hR hret => ?_)
  subst hFl hFG
  show X F 0 0 [(0, .ref (gA F k)), (1, .int x1)] [] S
  have hret : ∀ (v : Int32) (S : St) (pc : Nat) (ls : List (Nat × Value)), (v = r ∧ S = S1) → decode cX3_fateOf pc = .ok (.ireturn, 1) → X F 0 pc ls [.int v] S := fun v S2 pc ls hq hd => by obtain ⟨rfl, rfl⟩ := hq; exact hret.1 pc ls v rfl rfl hd
  have hk : r = r ∧ S1 = S1 := ⟨rfl, rfl⟩
  unfold X3_fateOf at h
  refine x_aload_n hF dX3_fateOf_0 rfl rfl ?_
  refine x_geti hF (shOutcome_0 ik) 0 rfl ck2 (ltOutcome_0 ik) (by decide) tw_177 rfl dX3_fateOf_1 ?_
  refine x_if_eq (tgt := 28) hF dX3_fateOf_4 (by decide) (fun hc => ?_) (fun hc => ?_)
  · have h := oi_pos hc h
    refine x_iconst (v := (-1 : Int32)) hF dX3_fateOf_28 (by decide) ?_
    obtain ⟨rfl, rfl⟩ := sm h
    exact hret _ _ _ _ hk dX3_fateOf_29
  · have h := oi_neg hc h
    refine x_iload_n hF dX3_fateOf_7 rfl rfl ?_
    refine x_if_lt (tgt := 28) hF dX3_fateOf_8 (by decide) (fun hc => ?_) (fun hc => ?_)
    · have h := oi_pos hc h
      refine x_iconst (v := (-1 : Int32)) hF dX3_fateOf_28 (by decide) ?_
      obtain ⟨rfl, rfl⟩ := sm h
      exact hret _ _ _ _ hk dX3_fateOf_29
    · have h := oi_neg hc h
      refine x_iload_n hF dX3_fateOf_11 rfl rfl ?_
      refine x_aload_n hF dX3_fateOf_12 rfl rfl ?_
      refine x_geti hF (shOutcome_0 ik) 1 rfl ck2 (ltOutcome_0 ik) (by decide) tw_178 rfl dX3_fateOf_13 ?_
      refine x_icmp_ge (tgt := 28) hF dX3_fateOf_16 (by decide) (fun hc => ?_) (fun hc => ?_)
      · have h := oi_pos hc h
        refine x_iconst (v := (-1 : Int32)) hF dX3_fateOf_28 (by decide) ?_
        obtain ⟨rfl, rfl⟩ := sm h
        exact hret _ _ _ _ hk dX3_fateOf_29
      · have h := oi_neg hc h
        refine x_aload_n hF dX3_fateOf_19 rfl rfl ?_
        refine x_getr hF (shOutcome_0 ik) 2 rfl ck2 (ltOutcome_0 ik) (by decide) tw_179 rfl dX3_fateOf_20 ?_
        refine x_iload_n hF dX3_fateOf_23 rfl rfl ?_
        obtain ⟨hg, h⟩ := og_some h
        refine x_iald hF (shOutcome_1 ik) (ltOutcome_1 ik) hg rfl dX3_fateOf_24 ?_
        refine x_goto (tgt := 29) hF dX3_fateOf_25 (by decide) ?_
        obtain ⟨rfl, rfl⟩ := sm h
        exact hret _ _ _ _ hk dX3_fateOf_29
noncomputable def X7_fate (x1 : Int32) (S : St) : Option (Int32 × St) :=
  ob (X3_fateOf 49 x1 S) (fun r1 S2 => some (r1, S2))
set_option maxHeartbeats 4000000 in
set_option maxRecDepth 20000 in
theorem ctX7_fate {l : Launch} {G : Ga} {x1 : Int32} (hl : l.stackTraces = false) {S : St} {r : Int32} {S1 : St} (h : X7_fate x1 S = some (r, S1)) : CT l G 1 yX7_fate cX7_fate 2 (some .int) [.ref (G.1 0), .int x1] S (some (.int r)) S1 := by
  refine ct_of hl (by decide) (Nat.le_of_ble_eq_true rfl) (fun F hFl hFG hF hN hR hret => ?_)
  subst hFl hFG
  show X F 0 0 [(0, .ref (gA F 0)), (1, .int x1)] [] S
  have hret : ∀ (v : Int32) (S : St) (pc : Nat) (ls : List (Nat × Value)), (v = r ∧ S = S1) → decode cX7_fate pc = .ok (.ireturn, 1) → X F 0 pc ls [.int v] S := fun v S2 pc ls hq hd => by obtain ⟨rfl, rfl⟩ := hq; exact hret.1 pc ls v rfl rfl hd
  have hk : r = r ∧ S1 = S1 := ⟨rfl, rfl⟩
  unfold X7_fate at h
  refine x_aload_n hF dX7_fate_0 rfl rfl ?_
  refine x_getr hF sh0 2 rfl ck6 (by decide) (by decide) tw_294 rfl dX7_fate_1 ?_
  refine x_getr hF sh48 1 rfl ck4 (by decide) (by decide) tw_236 rfl dX7_fate_4 ?_
  refine x_iload_n hF dX7_fate_7 rfl rfl ?_
  obtain ⟨r1, S2, hcall, h⟩ := ob_some h
  refine x_cVi hF hN hR (ctX3_fateOf (by decide) hF.tr hcall) mwX3_fateOf miX3_fateOf sh49 ck2 (by decide) tw_325 ⟨by decide, by decide⟩ rfl rfl (Nat.le_of_ble_eq_true rfl) dX7_fate_8 ?_
  obtain ⟨rfl, rfl⟩ := sm h
  exact hret _ _ _ _ hk dX7_fate_11
noncomputable def X3_loadAfter_18 (k : Nat) (x1 : Int32) (x2 : Int64) (x4 : Int32) (S : St) : Option (((Int64 × Int32) ⊕ Int64) × St) :=
  oi ((gi S k 6) ≤ x4) (some (.inr x2, S)) (og (inb x4 40) (oi (x1 < (gi S (k + 3) (ix x4))) (some (.inr x2, S)) (og (inb x4 40) (og (inb x4 40) (some (.inl ((if ((gi S (k + 4) (ix x4)).toInt64 - ((gi S k 5).toInt64 * (x1 - (gi S (k + 3) (ix x4))).toInt64)) < (0 : Int64) then (0 : Int64) else ((gi S (k + 4) (ix x4)).toInt64 - ((gi S k 5).toInt64 * (x1 - (gi S (k + 3) (ix x4))).toInt64))), (x4 + (1 : Int32))), S))))))
set_option maxHeartbeats 4000000 in
set_option maxRecDepth 20000 in
theorem xX3_loadAfter_18 {F : Cx} {k : Nat} (ik : isOutcome k) (hF : Ok F cX3_loadAfter RX3) (hN : nLF F 5) (hR : RmF F 1 0) {x1 : Int32} {x2 : Int64} {x4 : Int32} {K : ((Int64 × Int32) ⊕ Int64) → St → Prop} (hag : ∀ (a : Int64 × Int32) (S : St), K (.inl a) S → X F 0 18 [(0, .ref (gA F k)), (1, .int x1), (2, .long a.1), (4, .int a.2)] [] S) (hex74 : ∀ (q : Int64) (S : St), K (.inr q) S → X F 0 74 [(2, .long q)] [] S) {S : St} {r : (Int64 × Int32) ⊕ Int64} {S1 : St} (h : X3_loadAfter_18 k x1 x2 x4 S = some (r, S1)) (hk : K r S1) : X F 0 18 [(0, .ref (gA F k)), (1, .int x1), (2, .long x2), (4, .int x4)] [] S := by
  unfold X3_loadAfter_18 at h
  refine x_iload hF dX3_loadAfter_18 rfl ?_
  refine x_aload_n hF dX3_loadAfter_20 rfl rfl ?_
  refine x_geti hF (shOutcome_0 ik) 6 rfl ck2 (ltOutcome_0 ik) (by decide) tw_185 rfl dX3_loadAfter_21 ?_
  refine x_icmp_ge (tgt := 74) hF dX3_loadAfter_24 (by decide) (fun hc => ?_) (fun hc => ?_)
  · have h := oi_pos hc h
    obtain ⟨rfl, rfl⟩ := sm h
    exact x_sub (hex74 _ _ hk) ⟨rfl, trivial⟩
  · have h := oi_neg hc h
    refine x_aload_n hF dX3_loadAfter_27 rfl rfl ?_
    refine x_getr hF (shOutcome_0 ik) 7 rfl ck2 (ltOutcome_0 ik) (by decide) tw_186 rfl dX3_loadAfter_28 ?_
    refine x_iload hF dX3_loadAfter_31 rfl ?_
    obtain ⟨hg, h⟩ := og_some h
    refine x_iald hF (shOutcome_3 ik) (ltOutcome_3 ik) hg rfl dX3_loadAfter_33 ?_
    refine x_iload_n hF dX3_loadAfter_34 rfl rfl ?_
    refine x_icmp_gt (tgt := 74) hF dX3_loadAfter_35 (by decide) (fun hc => ?_) (fun hc => ?_)
    · have h := oi_pos hc h
      obtain ⟨rfl, rfl⟩ := sm h
      exact x_sub (hex74 _ _ hk) ⟨rfl, trivial⟩
    · have h := oi_neg hc h
      refine x_lconst (v := (0 : Int64)) hF dX3_loadAfter_38 (by decide) ?_
      refine x_aload_n hF dX3_loadAfter_39 rfl rfl ?_
      refine x_getr hF (shOutcome_0 ik) 8 rfl ck2 (ltOutcome_0 ik) (by decide) tw_187 rfl dX3_loadAfter_40 ?_
      refine x_iload hF dX3_loadAfter_43 rfl ?_
      obtain ⟨hg, h⟩ := og_some h
      refine x_iald hF (shOutcome_4 ik) (ltOutcome_4 ik) hg rfl dX3_loadAfter_45 ?_
      refine x_i2l hF dX3_loadAfter_46 ?_
      refine x_aload_n hF dX3_loadAfter_47 rfl rfl ?_
      refine x_geti hF (shOutcome_0 ik) 5 rfl ck2 (ltOutcome_0 ik) (by decide) tw_184 rfl dX3_loadAfter_48 ?_
      refine x_i2l hF dX3_loadAfter_51 ?_
      refine x_iload_n hF dX3_loadAfter_52 rfl rfl ?_
      refine x_aload_n hF dX3_loadAfter_53 rfl rfl ?_
      refine x_getr hF (shOutcome_0 ik) 7 rfl ck2 (ltOutcome_0 ik) (by decide) tw_186 rfl dX3_loadAfter_54 ?_
      refine x_iload hF dX3_loadAfter_57 rfl ?_
      obtain ⟨hg, h⟩ := og_some h
      refine x_iald hF (shOutcome_3 ik) (ltOutcome_3 ik) hg rfl dX3_loadAfter_59 ?_
      refine x_isub hF dX3_loadAfter_60 ?_
      refine x_i2l hF dX3_loadAfter_61 ?_
      refine x_lmul hF dX3_loadAfter_62 ?_
      refine x_lsub hF dX3_loadAfter_63 ?_
      refine x_mmaxl hF hR tw_337 mcmaxl.1 tw_87 mcmaxl.2 ⟨by decide, by decide⟩ (Nat.le_of_ble_eq_true rfl) dX3_loadAfter_64 ?_
      refine x_lstore_n [(2, _), (0, _), (1, _), (4, _)] hF hN dX3_loadAfter_67 rfl (by decide) rfl ?_
      refine x_iinc [(4, _), (2, _), (0, _), (1, _)] (v := (1 : Int32)) hF hN dX3_loadAfter_68 rfl (by decide) (by decide) rfl ?_
      refine x_goto (tgt := 18) hF dX3_loadAfter_71 (by decide) ?_
      obtain ⟨rfl, rfl⟩ := sm h
      exact x_sub (hag _ _ hk) ⟨rfl, rfl, rfl, rfl, trivial⟩
noncomputable def X3_loadAfter_18L (k : Nat) (x1 : Int32) (a : Int64 × Int32) (S : St) : Option (Int64 × St) :=
  lp (fun (a : Int64 × Int32) (S : St) => X3_loadAfter_18 k x1 a.1 a.2 S) a S
theorem xX3_loadAfter_18L {F : Cx} {k : Nat} (ik : isOutcome k) (hF : Ok F cX3_loadAfter RX3) (hN : nLF F 5) (hR : RmF F 1 0) {x1 : Int32} {K : Int64 → St → Prop} (hex74 : ∀ (q : Int64) (S : St), K (q) S → X F 0 74 [(2, .long q)] [] S) {a : Int64 × Int32} {S : St} {b : Int64} {S1 : St} (h : X3_loadAfter_18L k x1 a S = some (b, S1)) (hk : K b S1) : X F 0 18 [(0, .ref (gA F k)), (1, .int x1), (2, .long a.1), (4, .int a.2)] [] S := by
  unfold X3_loadAfter_18L at h
  exact lp_rule (Xh := fun (a : Int64 × Int32) (S : St) => X F 0 18 [(0, .ref (gA F k)), (1, .int x1), (2, .long a.1), (4, .int a.2)] [] S) (K := K) (fun a S r S1 h hk => xX3_loadAfter_18 ik hF hN hR (K := fun r S => match r with | .inl a => X F 0 18 [(0, .ref (gA F k)), (1, .int x1), (2, .long a.1), (4, .int a.2)] [] S | .inr b => K b S) (fun _ _ h => h) (fun q S h => hex74 q S h) h (by cases r <;> exact hk)) h hk
noncomputable def X3_loadAfter (k : Nat) (x1 : Int32) (S : St) : Option (Int32 × St) :=
  oi ((gi S k 0) = 0) (some ((-1 : Int32), S)) (oi (0 ≤ x1) (ob (X3_loadAfter_18L k x1 ((0 : Int64), (0 : Int32)) S) (fun b1 S2 => some (b1.toInt32, S2))) (some ((-1 : Int32), S)))
set_option maxHeartbeats 4000000 in
set_option maxRecDepth 20000 in
theorem ctX3_loadAfter {l : Launch} {G : Ga} {k : Nat} (ik : isOutcome k) {x1 : Int32} (hl : l.stackTraces = false) {S : St} {r : Int32} {S1 : St} (h : X3_loadAfter k x1 S = some (r, S1)) : CT l G 1 yX3_loadAfter cX3_loadAfter 5 (some .int) [.ref (G.1 k), .int x1] S (some (.int r)) S1 := by
  refine ct_of hl (by decide) (Nat.le_of_ble_eq_true rfl) (fun F hFl hFG hF hN hR hret => ?_)
  subst hFl hFG
  show X F 0 0 [(0, .ref (gA F k)), (1, .int x1)] [] S
  have hret : ∀ (v : Int32) (S : St) (pc : Nat) (ls : List (Nat × Value)), (v = r ∧ S = S1) → decode cX3_loadAfter pc = .ok (.ireturn, 1) → X F 0 pc ls [.int v] S := fun v S2 pc ls hq hd => by obtain ⟨rfl, rfl⟩ := hq; exact hret.1 pc ls v rfl rfl hd
  have hk : r = r ∧ S1 = S1 := ⟨rfl, rfl⟩
  unfold X3_loadAfter at h
  refine x_aload_n hF dX3_loadAfter_0 rfl rfl ?_
  refine x_geti hF (shOutcome_0 ik) 0 rfl ck2 (ltOutcome_0 ik) (by decide) tw_177 rfl dX3_loadAfter_1 ?_
  refine x_if_eq (tgt := 11) hF dX3_loadAfter_4 (by decide) (fun hc => ?_) (fun hc => ?_)
  · have h := oi_pos hc h
    refine x_iconst (v := (-1 : Int32)) hF dX3_loadAfter_11 (by decide) ?_
    obtain ⟨rfl, rfl⟩ := sm h
    exact hret _ _ _ _ hk dX3_loadAfter_12
  · have h := oi_neg hc h
    refine x_iload_n hF dX3_loadAfter_7 rfl rfl ?_
    refine x_if_ge (tgt := 13) hF dX3_loadAfter_8 (by decide) (fun hc => ?_) (fun hc => ?_)
    · have h := oi_pos hc h
      refine x_lconst (v := (0 : Int64)) hF dX3_loadAfter_13 (by decide) ?_
      refine x_lstore_n [(2, _), (0, _), (1, _)] hF hN dX3_loadAfter_14 rfl (by decide) rfl ?_
      refine x_iconst (v := (0 : Int32)) hF dX3_loadAfter_15 (by decide) ?_
      refine x_istore [(4, _), (2, _), (0, _), (1, _)] hF hN dX3_loadAfter_16 (by decide) rfl ?_
      obtain ⟨b1, S2, hlb1, h⟩ := ob_some h
      refine x_sub (xX3_loadAfter_18L ik hF hN hR (K := fun bb SS => bb = b1 ∧ SS = S2) ?_ hlb1 ⟨rfl, rfl⟩) ⟨rfl, rfl, rfl, rfl, trivial⟩
      rintro _ _ ⟨rfl, rfl⟩
      refine x_lload_n hF dX3_loadAfter_74 rfl rfl ?_
      refine x_l2i hF dX3_loadAfter_75 ?_
      obtain ⟨rfl, rfl⟩ := sm h
      exact hret _ _ _ _ hk dX3_loadAfter_76
    · have h := oi_neg hc h
      refine x_iconst (v := (-1 : Int32)) hF dX3_loadAfter_11 (by decide) ?_
      obtain ⟨rfl, rfl⟩ := sm h
      exact hret _ _ _ _ hk dX3_loadAfter_12
noncomputable def X7_loadAt (x1 : Int32) (S : St) : Option (Int32 × St) :=
  ob (X3_loadAfter 49 x1 S) (fun r1 S2 => some (r1, S2))
set_option maxHeartbeats 4000000 in
set_option maxRecDepth 20000 in
theorem ctX7_loadAt {l : Launch} {G : Ga} {x1 : Int32} (hl : l.stackTraces = false) {S : St} {r : Int32} {S1 : St} (h : X7_loadAt x1 S = some (r, S1)) : CT l G 2 yX7_loadAt cX7_loadAt 2 (some .int) [.ref (G.1 0), .int x1] S (some (.int r)) S1 := by
  refine ct_of hl (by decide) (Nat.le_of_ble_eq_true rfl) (fun F hFl hFG hF hN hR hret => ?_)
  subst hFl hFG
  show X F 0 0 [(0, .ref (gA F 0)), (1, .int x1)] [] S
  have hret : ∀ (v : Int32) (S : St) (pc : Nat) (ls : List (Nat × Value)), (v = r ∧ S = S1) → decode cX7_loadAt pc = .ok (.ireturn, 1) → X F 0 pc ls [.int v] S := fun v S2 pc ls hq hd => by obtain ⟨rfl, rfl⟩ := hq; exact hret.1 pc ls v rfl rfl hd
  have hk : r = r ∧ S1 = S1 := ⟨rfl, rfl⟩
  unfold X7_loadAt at h
  refine x_aload_n hF dX7_loadAt_0 rfl rfl ?_
  refine x_getr hF sh0 2 rfl ck6 (by decide) (by decide) tw_294 rfl dX7_loadAt_1 ?_
  refine x_getr hF sh48 1 rfl ck4 (by decide) (by decide) tw_236 rfl dX7_loadAt_4 ?_
  refine x_iload_n hF dX7_loadAt_7 rfl rfl ?_
  obtain ⟨r1, S2, hcall, h⟩ := ob_some h
  refine x_cVi hF hN hR (ctX3_loadAfter (by decide) hF.tr hcall) mwX3_loadAfter miX3_loadAfter sh49 ck2 (by decide) tw_333 ⟨by decide, by decide⟩ rfl rfl (Nat.le_of_ble_eq_true rfl) dX7_loadAt_8 ?_
  obtain ⟨rfl, rfl⟩ := sm h
  exact hret _ _ _ _ hk dX7_loadAt_11
