noncomputable def X3_greatestLoad_13 (k : Nat) (x1 : Int32) (x2 : Int32) (S : St) : Option (((Int32 × Int32) ⊕ Int32) × St) :=
  oi ((gi S k 6) ≤ x2) (some (.inr x1, S)) (og (inb x2 40) (some (.inl ((if x1 < (gi S (k + 4) (ix x2)) then (gi S (k + 4) (ix x2)) else x1), (x2 + (1 : Int32))), S)))
set_option maxHeartbeats 4000000 in
set_option maxRecDepth 20000 in
theorem xX3_greatestLoad_13 {F : Cx} {k : Nat} (ik : isOutcome k) (hF : Ok F cX3_greatestLoad RX3) (hN : nLF F 3) (hR : RmF F 1 0) {x1 : Int32} {x2 : Int32} {K : ((Int32 × Int32) ⊕ Int32) → St → Prop} (hag : ∀ (a : Int32 × Int32) (S : St), K (.inl a) S → X F 0 13 [(0, .ref (gA F k)), (1, .int a.1), (2, .int a.2)] [] S) (hex38 : ∀ (q : Int32) (S : St), K (.inr q) S → X F 0 38 [(1, .int q)] [] S) {S : St} {r : (Int32 × Int32) ⊕ Int32} {S1 : St} (h : X3_greatestLoad_13 k x1 x2 S = some (r, S1)) (hk : K r S1) : X F 0 13 [(0, .ref (gA F k)), (1, .int x1), (2, .int x2)] [] S := by
  unfold X3_greatestLoad_13 at h
  refine x_iload_n hF dX3_greatestLoad_13 rfl rfl ?_
  refine x_aload_n hF dX3_greatestLoad_14 rfl rfl ?_
  refine x_geti hF (shOutcome_0 ik) 6 rfl ck2 (ltOutcome_0 ik) (by decide) tw_185 rfl dX3_greatestLoad_15 ?_
  refine x_icmp_ge (tgt := 38) hF dX3_greatestLoad_18 (by decide) (fun hc => ?_) (fun hc => ?_)
  · have h := oi_pos hc h
    obtain ⟨rfl, rfl⟩ := sm h
    exact x_sub (hex38 _ _ hk) ⟨rfl, trivial⟩
  · have h := oi_neg hc h
    refine x_iload_n hF dX3_greatestLoad_21 rfl rfl ?_
    refine x_aload_n hF dX3_greatestLoad_22 rfl rfl ?_
    refine x_getr hF (shOutcome_0 ik) 8 rfl ck2 (ltOutcome_0 ik) (by decide) tw_187 rfl dX3_greatestLoad_23 ?_
    refine x_iload_n hF dX3_greatestLoad_26 rfl rfl ?_
    obtain ⟨hg, h⟩ := og_some h
    refine x_iald hF (shOutcome_4 ik) (ltOutcome_4 ik) hg rfl dX3_greatestLoad_27 ?_
    refine x_mmax hF hR tw_348 mcmax.1 tw_87 mcmax.2 ⟨by decide, by decide⟩ (Nat.le_of_ble_eq_true rfl) dX3_greatestLoad_28 ?_
    refine x_istore_n [(1, _), (0, _), (2, _)] hF hN dX3_greatestLoad_31 rfl (by decide) rfl ?_
    refine x_iinc [(2, _), (1, _), (0, _)] (v := (1 : Int32)) hF hN dX3_greatestLoad_32 rfl (by decide) (by decide) rfl ?_
    refine x_goto (tgt := 13) hF dX3_greatestLoad_35 (by decide) ?_
    obtain ⟨rfl, rfl⟩ := sm h
    exact x_sub (hag _ _ hk) ⟨rfl, rfl, rfl, trivial⟩
noncomputable def X3_greatestLoad_13L (k : Nat) (a : Int32 × Int32) (S : St) : Option (Int32 × St) :=
  lp (fun (a : Int32 × Int32) (S : St) => X3_greatestLoad_13 k a.1 a.2 S) a S
theorem xX3_greatestLoad_13L {F : Cx} {k : Nat} (ik : isOutcome k) (hF : Ok F cX3_greatestLoad RX3) (hN : nLF F 3) (hR : RmF F 1 0) {K : Int32 → St → Prop} (hex38 : ∀ (q : Int32) (S : St), K (q) S → X F 0 38 [(1, .int q)] [] S) {a : Int32 × Int32} {S : St} {b : Int32} {S1 : St} (h : X3_greatestLoad_13L k a S = some (b, S1)) (hk : K b S1) : X F 0 13 [(0, .ref (gA F k)), (1, .int a.1), (2, .int a.2)] [] S := by
  unfold X3_greatestLoad_13L at h
  exact lp_rule (Xh := fun (a : Int32 × Int32) (S : St) => X F 0 13 [(0, .ref (gA F k)), (1, .int a.1), (2, .int a.2)] [] S) (K := K) (fun a S r S1 h hk => xX3_greatestLoad_13 ik hF hN hR (K := fun r S => match r with | .inl a => X F 0 13 [(0, .ref (gA F k)), (1, .int a.1), (2, .int a.2)] [] S | .inr b => K b S) (fun _ _ h => h) (fun q S h => hex38 q S h) h (by cases r <;> exact hk)) h hk
noncomputable def X3_greatestLoad (k : Nat) (S : St) : Option (Int32 × St) :=
  oi ((gi S k 0) = 0) (some ((-1 : Int32), S)) (ob (X3_greatestLoad_13L k ((0 : Int32), (0 : Int32)) S) (fun b1 S2 => some (b1, S2)))
set_option maxHeartbeats 4000000 in
set_option maxRecDepth 20000 in
theorem ctX3_greatestLoad {l : Launch} {G : Ga} {k : Nat} (ik : isOutcome k) (hl : l.stackTraces = false) {S : St} {r : Int32} {S1 : St} (h : X3_greatestLoad k S = some (r, S1)) : CT l G 1 yX3_greatestLoad cX3_greatestLoad 3 (some .int) [.ref (G.1 k)] S (some (.int r)) S1 := by
  refine ct_of hl (by decide) (Nat.le_of_ble_eq_true rfl) (fun F hFl hFG hF hN hR hret => ?_)
  subst hFl hFG
  show X F 0 0 [(0, .ref (gA F k))] [] S
  have hret : ∀ (v : Int32) (S : St) (pc : Nat) (ls : List (Nat × Value)), (v = r ∧ S = S1) → decode cX3_greatestLoad pc = .ok (.ireturn, 1) → X F 0 pc ls [.int v] S := fun v S2 pc ls hq hd => by obtain ⟨rfl, rfl⟩ := hq; exact hret.1 pc ls v rfl rfl hd
  have hk : r = r ∧ S1 = S1 := ⟨rfl, rfl⟩
  unfold X3_greatestLoad at h
  refine x_aload_n hF dX3_greatestLoad_0 rfl rfl ?_
  refine x_geti hF (shOutcome_0 ik) 0 rfl ck2 (ltOutcome_0 ik) (by decide) tw_177 rfl dX3_greatestLoad_1 ?_
  refine x_if_ne (tgt := 9) hF dX3_greatestLoad_4 (by decide) (fun hc => ?_) (fun hc => ?_)
  · have h := oi_neg hc h
    refine x_iconst (v := (0 : Int32)) hF dX3_greatestLoad_9 (by decide) ?_
    refine x_istore_n [(1, _), (0, _)] hF hN dX3_greatestLoad_10 rfl (by decide) rfl ?_
    refine x_iconst (v := (0 : Int32)) hF dX3_greatestLoad_11 (by decide) ?_
    refine x_istore_n [(2, _), (1, _), (0, _)] hF hN dX3_greatestLoad_12 rfl (by decide) rfl ?_
    obtain ⟨b1, S2, hlb1, h⟩ := ob_some h
    refine x_sub (xX3_greatestLoad_13L ik hF hN hR (K := fun bb SS => bb = b1 ∧ SS = S2) ?_ hlb1 ⟨rfl, rfl⟩) ⟨rfl, rfl, rfl, trivial⟩
    rintro _ _ ⟨rfl, rfl⟩
    refine x_iload_n hF dX3_greatestLoad_38 rfl rfl ?_
    obtain ⟨rfl, rfl⟩ := sm h
    exact hret _ _ _ _ hk dX3_greatestLoad_39
  · have h := oi_pos hc h
    refine x_iconst (v := (-1 : Int32)) hF dX3_greatestLoad_7 (by decide) ?_
    obtain ⟨rfl, rfl⟩ := sm h
    exact hret _ _ _ _ hk dX3_greatestLoad_8
noncomputable def X7_peak (S : St) : Option (Int32 × St) :=
  ob (X3_greatestLoad 49 S) (fun r1 S2 => some (r1, S2))
set_option maxHeartbeats 4000000 in
set_option maxRecDepth 20000 in
theorem ctX7_peak {l : Launch} {G : Ga} (hl : l.stackTraces = false) {S : St} {r : Int32} {S1 : St} (h : X7_peak  S = some (r, S1)) : CT l G 2 yX7_peak cX7_peak 1 (some .int) [.ref (G.1 0)] S (some (.int r)) S1 := by
  refine ct_of hl (by decide) (Nat.le_of_ble_eq_true rfl) (fun F hFl hFG hF hN hR hret => ?_)
  subst hFl hFG
  show X F 0 0 [(0, .ref (gA F 0))] [] S
  have hret : ∀ (v : Int32) (S : St) (pc : Nat) (ls : List (Nat × Value)), (v = r ∧ S = S1) → decode cX7_peak pc = .ok (.ireturn, 1) → X F 0 pc ls [.int v] S := fun v S2 pc ls hq hd => by obtain ⟨rfl, rfl⟩ := hq; exact hret.1 pc ls v rfl rfl hd
  have hk : r = r ∧ S1 = S1 := ⟨rfl, rfl⟩
  unfold X7_peak at h
  refine x_aload_n hF dX7_peak_0 rfl rfl ?_
  refine x_getr hF sh0 2 rfl ck6 (by decide) (by decide) tw_294 rfl dX7_peak_1 ?_
  refine x_getr hF sh48 1 rfl ck4 (by decide) (by decide) tw_236 rfl dX7_peak_4 ?_
  obtain ⟨r1, S2, hcall, h⟩ := ob_some h
  refine x_cVi hF hN hR (ctX3_greatestLoad (by decide) hF.tr hcall) mwX3_greatestLoad miX3_greatestLoad sh49 ck2 (by decide) tw_344 ⟨by decide, by decide⟩ rfl rfl (Nat.le_of_ble_eq_true rfl) dX7_peak_7 ?_
  obtain ⟨rfl, rfl⟩ := sm h
  exact hret _ _ _ _ hk dX7_peak_10
noncomputable def X3_dropNumbered (k : Nat) (x1 : Int32) (S : St) : Option (Int32 × St) :=
  oi ((gi S k 0) = 0) (some ((-1 : Int32), S)) (oi (x1 < 0) (some ((-1 : Int32), S)) (oi ((gi S k 3) ≤ x1) (some ((-1 : Int32), S)) (og (inb x1 40) (some ((gi S (k + 2) (ix x1)), S)))))
set_option maxHeartbeats 4000000 in
set_option maxRecDepth 20000 in
theorem ctX3_dropNumbered {l : Launch} {G : Ga} {k : Nat} (ik : isOutcome k) {x1 : Int32} (hl : l.stackTraces = false) {S : St} {r : Int32} {S1 : St} (h : X3_dropNumbered k x1 S = some (r, S1)) : CT l G 0 yX3_dropNumbered cX3_dropNumbered 2 (some .int) [.ref (G.1 k), .int x1] S (some (.int r)) S1 := by
  refine ct_of hl (by decide) (Nat.le_of_ble_eq_true rfl) (fun F hFl hFG hF hN hR hret => ?_)
  subst hFl hFG
  show X F 0 0 [(0, .ref (gA F k)), (1, .int x1)] [] S
  have hret : ∀ (v : Int32) (S : St) (pc : Nat) (ls : List (Nat × Value)), (v = r ∧ S = S1) → decode cX3_dropNumbered pc = .ok (.ireturn, 1) → X F 0 pc ls [.int v] S := fun v S2 pc ls hq hd => by obtain ⟨rfl, rfl⟩ := hq; exact hret.1 pc ls v rfl rfl hd
  have hk : r = r ∧ S1 = S1 := ⟨rfl, rfl⟩
  unfold X3_dropNumbered at h
  refine x_aload_n hF dX3_dropNumbered_0 rfl rfl ?_
  refine x_geti hF (shOutcome_0 ik) 0 rfl ck2 (ltOutcome_0 ik) (by decide) tw_177 rfl dX3_dropNumbered_1 ?_
  refine x_if_eq (tgt := 28) hF dX3_dropNumbered_4 (by decide) (fun hc => ?_) (fun hc => ?_)
  · have h := oi_pos hc h
    refine x_iconst (v := (-1 : Int32)) hF dX3_dropNumbered_28 (by decide) ?_
    obtain ⟨rfl, rfl⟩ := sm h
    exact hret _ _ _ _ hk dX3_dropNumbered_29
  · have h := oi_neg hc h
    refine x_iload_n hF dX3_dropNumbered_7 rfl rfl ?_
    refine x_if_lt (tgt := 28) hF dX3_dropNumbered_8 (by decide) (fun hc => ?_) (fun hc => ?_)
    · have h := oi_pos hc h
      refine x_iconst (v := (-1 : Int32)) hF dX3_dropNumbered_28 (by decide) ?_
      obtain ⟨rfl, rfl⟩ := sm h
      exact hret _ _ _ _ hk dX3_dropNumbered_29
    · have h := oi_neg hc h
      refine x_iload_n hF dX3_dropNumbered_11 rfl rfl ?_
      refine x_aload_n hF dX3_dropNumbered_12 rfl rfl ?_
      refine x_geti hF (shOutcome_0 ik) 3 rfl ck2 (ltOutcome_0 ik) (by decide) tw_181 rfl dX3_dropNumbered_13 ?_
      refine x_icmp_ge (tgt := 28) hF dX3_dropNumbered_16 (by decide) (fun hc => ?_) (fun hc => ?_)
      · have h := oi_pos hc h
        refine x_iconst (v := (-1 : Int32)) hF dX3_dropNumbered_28 (by decide) ?_
        obtain ⟨rfl, rfl⟩ := sm h
        exact hret _ _ _ _ hk dX3_dropNumbered_29
      · have h := oi_neg hc h
        refine x_aload_n hF dX3_dropNumbered_19 rfl rfl ?_
        refine x_getr hF (shOutcome_0 ik) 4 rfl ck2 (ltOutcome_0 ik) (by decide) tw_183 rfl dX3_dropNumbered_20 ?_
        refine x_iload_n hF dX3_dropNumbered_23 rfl rfl ?_
        obtain ⟨hg, h⟩ := og_some h
        refine x_iald hF (shOutcome_2 ik) (ltOutcome_2 ik) hg rfl dX3_dropNumbered_24 ?_
        refine x_goto (tgt := 29) hF dX3_dropNumbered_25 (by decide) ?_
        obtain ⟨rfl, rfl⟩ := sm h
        exact hret _ _ _ _ hk dX3_dropNumbered_29
noncomputable def X7_dropped (x1 : Int32) (S : St) : Option (Int32 × St) :=
  ob (X3_dropNumbered 49 x1 S) (fun r1 S2 => some (r1, S2))
set_option maxHeartbeats 4000000 in
set_option maxRecDepth 20000 in
theorem ctX7_dropped {l : Launch} {G : Ga} {x1 : Int32} (hl : l.stackTraces = false) {S : St} {r : Int32} {S1 : St} (h : X7_dropped x1 S = some (r, S1)) : CT l G 1 yX7_dropped cX7_dropped 2 (some .int) [.ref (G.1 0), .int x1] S (some (.int r)) S1 := by
  refine ct_of hl (by decide) (Nat.le_of_ble_eq_true rfl) (fun F hFl hFG hF hN hR hret => ?_)
  subst hFl hFG
  show X F 0 0 [(0, .ref (gA F 0)), (1, .int x1)] [] S
  have hret : ∀ (v : Int32) (S : St) (pc : Nat) (ls : List (Nat × Value)), (v = r ∧ S = S1) → decode cX7_dropped pc = .ok (.ireturn, 1) → X F 0 pc ls [.int v] S := fun v S2 pc ls hq hd => by obtain ⟨rfl, rfl⟩ := hq; exact hret.1 pc ls v rfl rfl hd
  have hk : r = r ∧ S1 = S1 := ⟨rfl, rfl⟩
  unfold X7_dropped at h
  refine x_aload_n hF dX7_dropped_0 rfl rfl ?_
  refine x_getr hF sh0 2 rfl ck6 (by decide) (by decide) tw_294 rfl dX7_dropped_1 ?_
  refine x_getr hF sh48 1 rfl ck4 (by decide) (by decide) tw_236 rfl dX7_dropped_4 ?_
  refine x_iload_n hF dX7_dropped_7 rfl rfl ?_
  obtain ⟨r1, S2, hcall, h⟩ := ob_some h
  refine x_cVi hF hN hR (ctX3_dropNumbered (by decide) hF.tr hcall) mwX3_dropNumbered miX3_dropNumbered sh49 ck2 (by decide) tw_355 ⟨by decide, by decide⟩ rfl rfl (Nat.le_of_ble_eq_true rfl) dX7_dropped_8 ?_
  obtain ⟨rfl, rfl⟩ := sm h
  exact hret _ _ _ _ hk dX7_dropped_11
noncomputable def X5_measureOf (k : Nat) (x1 : Int32) (S : St) : Option (Int32 × St) :=
  ob (X3_fateOf (k + 1) x1 S) (fun r1 S2 => oi ((gi S2 5 7) = (0 : Int32)) (oi (r1 = (-2 : Int32)) (some ((1 : Int32), S2)) (some ((0 : Int32), S2))) (oi ((gi S2 5 7) = (1 : Int32)) (oi (r1 = (-2 : Int32)) (og (inb x1 40) (some ((gi S2 4 (ix x1)), S2))) (some ((0 : Int32), S2))) (oi (r1 < 0) (some ((0 : Int32), S2)) (og (inb x1 40) (some ((r1 - (gi S2 2 (ix x1))), S2))))))
set_option maxHeartbeats 4000000 in
set_option maxRecDepth 20000 in
theorem ctX5_measureOf {l : Launch} {G : Ga} {k : Nat} (ik : isReplayer k) {x1 : Int32} (hl : l.stackTraces = false) {S : St} {r : Int32} {S1 : St} (h : X5_measureOf k x1 S = some (r, S1)) : CT l G 1 yX5_measureOf cX5_measureOf 3 (some .int) [.ref (G.1 k), .int x1] S (some (.int r)) S1 := by
  refine ct_of hl (by decide) (Nat.le_of_ble_eq_true rfl) (fun F hFl hFG hF hN hR hret => ?_)
  subst hFl hFG
  show X F 0 0 [(0, .ref (gA F k)), (1, .int x1)] [] S
  have hret : ∀ (v : Int32) (S : St) (pc : Nat) (ls : List (Nat × Value)), (v = r ∧ S = S1) → decode cX5_measureOf pc = .ok (.ireturn, 1) → X F 0 pc ls [.int v] S := fun v S2 pc ls hq hd => by obtain ⟨rfl, rfl⟩ := hq; exact hret.1 pc ls v rfl rfl hd
  have hk : r = r ∧ S1 = S1 := ⟨rfl, rfl⟩
  unfold X5_measureOf at h
  refine x_aload_n hF dX5_measureOf_0 rfl rfl ?_
  refine x_getr hF (shReplayer_0 ik) 1 rfl ck4 (ltReplayer_0 ik) (by decide) tw_235 rfl dX5_measureOf_1 ?_
  refine x_iload_n hF dX5_measureOf_4 rfl rfl ?_
  obtain ⟨r1, S2, hcall, h⟩ := ob_some h
  refine x_cVi hF hN hR (ctX3_fateOf (isReplayer_Outcome ik) hF.tr hcall) mwX3_fateOf miX3_fateOf (shReplayer_1 ik) ck2 (ltReplayer_1 ik) tw_477 ⟨by decide, by decide⟩ rfl rfl (Nat.le_of_ble_eq_true rfl) dX5_measureOf_5 ?_
  refine x_istore_n [(2, _), (0, _), (1, _)] hF hN dX5_measureOf_8 rfl (by decide) rfl ?_
  refine x_aload_n hF dX5_measureOf_9 rfl rfl ?_
  refine x_getr hF (shReplayer_0 ik) 0 rfl ck4 (ltReplayer_0 ik) (by decide) tw_234 rfl dX5_measureOf_10 ?_
  refine x_getr hF sh1 4 rfl ck3 (by decide) (by decide) tw_131 rfl dX5_measureOf_13 ?_
  refine x_bipush (v := (7 : Int32)) hF dX5_measureOf_16 (by decide) ?_
  refine x_iald (j := 7) hF sh5 (by decide) (by decide) (by decide) dX5_measureOf_18 ?_
  by_cases hc3 : (gi S2 5 7) = (0 : Int32)
  · have h := oi_pos hc3 h
    refine x_lsw (tgt := 44) (off := 25) hF dX5_measureOf_19 (by decide) (by rw [hc3]; decide) (by decide) ?_
    refine x_iload_n hF dX5_measureOf_44 rfl rfl ?_
    refine x_bipush (v := (-2 : Int32)) hF dX5_measureOf_45 (by decide) ?_
    refine x_icmp_ne (tgt := 54) hF dX5_measureOf_47 (by decide) (fun hc => ?_) (fun hc => ?_)
    · have h := oi_neg hc h
      refine x_iconst (v := (0 : Int32)) hF dX5_measureOf_54 (by decide) ?_
      obtain ⟨rfl, rfl⟩ := sm h
      exact hret _ _ _ _ hk dX5_measureOf_55
    · have h := oi_pos hc h
      refine x_iconst (v := (1 : Int32)) hF dX5_measureOf_50 (by decide) ?_
      refine x_goto (tgt := 55) hF dX5_measureOf_51 (by decide) ?_
      obtain ⟨rfl, rfl⟩ := sm h
      exact hret _ _ _ _ hk dX5_measureOf_55
  have h := oi_neg hc3 h
  by_cases hc4 : (gi S2 5 7) = (1 : Int32)
  · have h := oi_pos hc4 h
    refine x_lsw (tgt := 56) (off := 37) hF dX5_measureOf_19 (by decide) (by rw [hc4]; decide) (by decide) ?_
    refine x_iload_n hF dX5_measureOf_56 rfl rfl ?_
    refine x_bipush (v := (-2 : Int32)) hF dX5_measureOf_57 (by decide) ?_
    refine x_icmp_ne (tgt := 74) hF dX5_measureOf_59 (by decide) (fun hc => ?_) (fun hc => ?_)
    · have h := oi_neg hc h
      refine x_iconst (v := (0 : Int32)) hF dX5_measureOf_74 (by decide) ?_
      obtain ⟨rfl, rfl⟩ := sm h
      exact hret _ _ _ _ hk dX5_measureOf_75
    · have h := oi_pos hc h
      refine x_aload_n hF dX5_measureOf_62 rfl rfl ?_
      refine x_getr hF (shReplayer_0 ik) 0 rfl ck4 (ltReplayer_0 ik) (by decide) tw_234 rfl dX5_measureOf_63 ?_
      refine x_getr hF sh1 3 rfl ck3 (by decide) (by decide) tw_128 rfl dX5_measureOf_66 ?_
      refine x_iload_n hF dX5_measureOf_69 rfl rfl ?_
      obtain ⟨hg, h⟩ := og_some h
      refine x_iald hF sh4 (by decide) hg rfl dX5_measureOf_70 ?_
      refine x_goto (tgt := 75) hF dX5_measureOf_71 (by decide) ?_
      obtain ⟨rfl, rfl⟩ := sm h
      exact hret _ _ _ _ hk dX5_measureOf_75
  have h := oi_neg hc4 h
  refine x_lsw (tgt := 76) (off := 57) hF dX5_measureOf_19 (by decide) ((lv_osw hc3 (by decide)).trans ((lv_osw hc4 (by decide)).trans rfl)) (by decide) ?_
  refine x_iload_n hF dX5_measureOf_76 rfl rfl ?_
  refine x_if_lt (tgt := 94) hF dX5_measureOf_77 (by decide) (fun hc => ?_) (fun hc => ?_)
  · have h := oi_pos hc h
    refine x_iconst (v := (0 : Int32)) hF dX5_measureOf_94 (by decide) ?_
    obtain ⟨rfl, rfl⟩ := sm h
    exact hret _ _ _ _ hk dX5_measureOf_95
  · have h := oi_neg hc h
    refine x_iload_n hF dX5_measureOf_80 rfl rfl ?_
    refine x_aload_n hF dX5_measureOf_81 rfl rfl ?_
    refine x_getr hF (shReplayer_0 ik) 0 rfl ck4 (ltReplayer_0 ik) (by decide) tw_234 rfl dX5_measureOf_82 ?_
    refine x_getr hF sh1 1 rfl ck3 (by decide) (by decide) tw_122 rfl dX5_measureOf_85 ?_
    refine x_iload_n hF dX5_measureOf_88 rfl rfl ?_
    obtain ⟨hg, h⟩ := og_some h
    refine x_iald hF sh2 (by decide) hg rfl dX5_measureOf_89 ?_
    refine x_isub hF dX5_measureOf_90 ?_
    refine x_goto (tgt := 95) hF dX5_measureOf_91 (by decide) ?_
    obtain ⟨rfl, rfl⟩ := sm h
    exact hret _ _ _ _ hk dX5_measureOf_95
noncomputable def X5_measureFor_33 (k : Nat) (x1 : Int32) (x2 : Int32) (x3 : Int32) (S : St) : Option (((Int32 × Int32) ⊕ Int32) × St) :=
  ob (X5_measureOf k x3 S) (fun r1 S2 => some (.inl ((x2 + r1), (x3 + (1 : Int32))), S2))
set_option maxHeartbeats 4000000 in
set_option maxRecDepth 20000 in
theorem xX5_measureFor_33 {F : Cx} {k : Nat} (ik : isReplayer k) (hF : Ok F cX5_measureFor RX5) (hN : nLF F 4) (hR : RmF F 2 0) {x1 : Int32} {x2 : Int32} {x3 : Int32} {K : ((Int32 × Int32) ⊕ Int32) → St → Prop} (hag : ∀ (a : Int32 × Int32) (S : St), K (.inl a) S → X F 0 4 [(0, .ref (gA F k)), (1, .int x1), (2, .int a.1), (3, .int a.2)] [] S) (hex47 : ∀ (q : Int32) (S : St), K (.inr q) S → X F 0 47 [(2, .int q)] [] S) {S : St} {r : (Int32 × Int32) ⊕ Int32} {S1 : St} (h : X5_measureFor_33 k x1 x2 x3 S = some (r, S1)) (hk : K r S1) : X F 0 33 [(0, .ref (gA F k)), (1, .int x1), (2, .int x2), (3, .int x3)] [] S := by
  unfold X5_measureFor_33 at h
  refine x_iload_n hF dX5_measureFor_33 rfl rfl ?_
  refine x_aload_n hF dX5_measureFor_34 rfl rfl ?_
  refine x_iload_n hF dX5_measureFor_35 rfl rfl ?_
  obtain ⟨r1, S2, hcall, h⟩ := ob_some h
  refine x_cVi hF hN hR (ctX5_measureOf ik hF.tr hcall) mwX5_measureOf miX5_measureOf (shReplayer_0 ik) ck4 (ltReplayer_0 ik) tw_473 ⟨by decide, by decide⟩ rfl rfl (Nat.le_of_ble_eq_true rfl) dX5_measureFor_36 ?_
  refine x_iadd hF dX5_measureFor_39 ?_
  refine x_istore_n [(2, _), (0, _), (1, _), (3, _)] hF hN dX5_measureFor_40 rfl (by decide) rfl ?_
  refine x_iinc [(3, _), (2, _), (0, _), (1, _)] (v := (1 : Int32)) hF hN dX5_measureFor_41 rfl (by decide) (by decide) rfl ?_
  refine x_goto (tgt := 4) hF dX5_measureFor_44 (by decide) ?_
  obtain ⟨rfl, rfl⟩ := sm h
  exact x_sub (hag _ _ hk) ⟨rfl, rfl, rfl, rfl, trivial⟩
noncomputable def X5_measureFor_4 (k : Nat) (x1 : Int32) (x2 : Int32) (x3 : Int32) (S : St) : Option (((Int32 × Int32) ⊕ Int32) × St) :=
  oi ((gi S 1 0) ≤ x3) (some (.inr x2, S)) (oi (x1 = (-1 : Int32)) (X5_measureFor_33 k x1 x2 x3 S) (og (inb x3 40) (oi (x1 = (gi S 3 (ix x3))) (X5_measureFor_33 k x1 x2 x3 S) (some (.inl (x2, (x3 + (1 : Int32))), S)))))
set_option maxHeartbeats 4000000 in
set_option maxRecDepth 20000 in
theorem xX5_measureFor_4 {F : Cx} {k : Nat} (ik : isReplayer k) (hF : Ok F cX5_measureFor RX5) (hN : nLF F 4) (hR : RmF F 2 0) {x1 : Int32} {x2 : Int32} {x3 : Int32} {K : ((Int32 × Int32) ⊕ Int32) → St → Prop} (hag : ∀ (a : Int32 × Int32) (S : St), K (.inl a) S → X F 0 4 [(0, .ref (gA F k)), (1, .int x1), (2, .int a.1), (3, .int a.2)] [] S) (hex47 : ∀ (q : Int32) (S : St), K (.inr q) S → X F 0 47 [(2, .int q)] [] S) {S : St} {r : (Int32 × Int32) ⊕ Int32} {S1 : St} (h : X5_measureFor_4 k x1 x2 x3 S = some (r, S1)) (hk : K r S1) : X F 0 4 [(0, .ref (gA F k)), (1, .int x1), (2, .int x2), (3, .int x3)] [] S := by
  unfold X5_measureFor_4 at h
  refine x_iload_n hF dX5_measureFor_4 rfl rfl ?_
  refine x_aload_n hF dX5_measureFor_5 rfl rfl ?_
  refine x_getr hF (shReplayer_0 ik) 0 rfl ck4 (ltReplayer_0 ik) (by decide) tw_234 rfl dX5_measureFor_6 ?_
  refine x_geti hF sh1 0 rfl ck3 (by decide) (by decide) tw_119 rfl dX5_measureFor_9 ?_
  refine x_icmp_ge (tgt := 47) hF dX5_measureFor_12 (by decide) (fun hc => ?_) (fun hc => ?_)
  · have h := oi_pos hc h
    obtain ⟨rfl, rfl⟩ := sm h
    exact x_sub (hex47 _ _ hk) ⟨rfl, trivial⟩
  · have h := oi_neg hc h
    refine x_iload_n hF dX5_measureFor_15 rfl rfl ?_
    refine x_iconst (v := (-1 : Int32)) hF dX5_measureFor_16 (by decide) ?_
    refine x_icmp_eq (tgt := 33) hF dX5_measureFor_17 (by decide) (fun hc => ?_) (fun hc => ?_)
    · have h := oi_pos hc h
      exact x_sub (xX5_measureFor_33 ik hF hN hR (K := K) hag hex47 h hk) ⟨rfl, rfl, rfl, rfl, trivial⟩
    · have h := oi_neg hc h
      refine x_iload_n hF dX5_measureFor_20 rfl rfl ?_
      refine x_aload_n hF dX5_measureFor_21 rfl rfl ?_
      refine x_getr hF (shReplayer_0 ik) 0 rfl ck4 (ltReplayer_0 ik) (by decide) tw_234 rfl dX5_measureFor_22 ?_
      refine x_getr hF sh1 2 rfl ck3 (by decide) (by decide) tw_125 rfl dX5_measureFor_25 ?_
      refine x_iload_n hF dX5_measureFor_28 rfl rfl ?_
      obtain ⟨hg, h⟩ := og_some h
      refine x_iald hF sh3 (by decide) hg rfl dX5_measureFor_29 ?_
      refine x_icmp_ne (tgt := 41) hF dX5_measureFor_30 (by decide) (fun hc => ?_) (fun hc => ?_)
      · have h := oi_neg hc h
        refine x_iinc [(3, _), (0, _), (1, _), (2, _)] (v := (1 : Int32)) hF hN dX5_measureFor_41 rfl (by decide) (by decide) rfl ?_
        refine x_goto (tgt := 4) hF dX5_measureFor_44 (by decide) ?_
        obtain ⟨rfl, rfl⟩ := sm h
        exact x_sub (hag _ _ hk) ⟨rfl, rfl, rfl, rfl, trivial⟩
      · have h := oi_pos hc h
        exact x_sub (xX5_measureFor_33 ik hF hN hR (K := K) hag hex47 h hk) ⟨rfl, rfl, rfl, rfl, trivial⟩
noncomputable def X5_measureFor_4L (k : Nat) (x1 : Int32) (a : Int32 × Int32) (S : St) : Option (Int32 × St) :=
  lp (fun (a : Int32 × Int32) (S : St) => X5_measureFor_4 k x1 a.1 a.2 S) a S
theorem xX5_measureFor_4L {F : Cx} {k : Nat} (ik : isReplayer k) (hF : Ok F cX5_measureFor RX5) (hN : nLF F 4) (hR : RmF F 2 0) {x1 : Int32} {K : Int32 → St → Prop} (hex47 : ∀ (q : Int32) (S : St), K (q) S → X F 0 47 [(2, .int q)] [] S) {a : Int32 × Int32} {S : St} {b : Int32} {S1 : St} (h : X5_measureFor_4L k x1 a S = some (b, S1)) (hk : K b S1) : X F 0 4 [(0, .ref (gA F k)), (1, .int x1), (2, .int a.1), (3, .int a.2)] [] S := by
  unfold X5_measureFor_4L at h
  exact lp_rule (Xh := fun (a : Int32 × Int32) (S : St) => X F 0 4 [(0, .ref (gA F k)), (1, .int x1), (2, .int a.1), (3, .int a.2)] [] S) (K := K) (fun a S r S1 h hk => xX5_measureFor_4 ik hF hN hR (K := fun r S => match r with | .inl a => X F 0 4 [(0, .ref (gA F k)), (1, .int x1), (2, .int a.1), (3, .int a.2)] [] S | .inr b => K b S) (fun _ _ h => h) (fun q S h => hex47 q S h) h (by cases r <;> exact hk)) h hk
noncomputable def X5_measureFor (k : Nat) (x1 : Int32) (S : St) : Option (Int32 × St) :=
  ob (X5_measureFor_4L k x1 ((0 : Int32), (0 : Int32)) S) (fun b3 S4 => some (b3, S4))
set_option maxHeartbeats 4000000 in
set_option maxRecDepth 20000 in
theorem ctX5_measureFor {l : Launch} {G : Ga} {k : Nat} (ik : isReplayer k) {x1 : Int32} (hl : l.stackTraces = false) {S : St} {r : Int32} {S1 : St} (h : X5_measureFor k x1 S = some (r, S1)) : CT l G 2 yX5_measureFor cX5_measureFor 4 (some .int) [.ref (G.1 k), .int x1] S (some (.int r)) S1 := by
  refine ct_of hl (by decide) (Nat.le_of_ble_eq_true rfl) (fun F hFl hFG hF hN hR hret => ?_)
  subst hFl hFG
  show X F 0 0 [(0, .ref (gA F k)), (1, .int x1)] [] S
  have hret : ∀ (v : Int32) (S : St) (pc : Nat) (ls : List (Nat × Value)), (v = r ∧ S = S1) → decode cX5_measureFor pc = .ok (.ireturn, 1) → X F 0 pc ls [.int v] S := fun v S2 pc ls hq hd => by obtain ⟨rfl, rfl⟩ := hq; exact hret.1 pc ls v rfl rfl hd
  have hk : r = r ∧ S1 = S1 := ⟨rfl, rfl⟩
  unfold X5_measureFor at h
  refine x_iconst (v := (0 : Int32)) hF dX5_measureFor_0 (by decide) ?_
  refine x_istore_n [(2, _), (0, _), (1, _)] hF hN dX5_measureFor_1 rfl (by decide) rfl ?_
  refine x_iconst (v := (0 : Int32)) hF dX5_measureFor_2 (by decide) ?_
  refine x_istore_n [(3, _), (2, _), (0, _), (1, _)] hF hN dX5_measureFor_3 rfl (by decide) rfl ?_
  obtain ⟨b3, S4, hlb3, h⟩ := ob_some h
  refine x_sub (xX5_measureFor_4L ik hF hN hR (K := fun bb SS => bb = b3 ∧ SS = S4) ?_ hlb3 ⟨rfl, rfl⟩) ⟨rfl, rfl, rfl, rfl, trivial⟩
  rintro _ _ ⟨rfl, rfl⟩
  refine x_iload_n hF dX5_measureFor_47 rfl rfl ?_
  obtain ⟨rfl, rfl⟩ := sm h
  exact hret _ _ _ _ hk dX5_measureFor_48
noncomputable def X7_worthOf (x1 : Int32) (x2 : Int32) (S : St) : Option (Int32 × St) :=
  ob (X5_play 58 x1 (gi S 5 0) (gi S 5 2) S) (fun r1 S2 => ob (X5_measureFor 58 x2 S2) (fun r3 S4 => some (r3, S4)))
set_option maxHeartbeats 4000000 in
set_option maxRecDepth 20000 in
theorem ctX7_worthOf {l : Launch} {G : Ga} {x1 : Int32} {x2 : Int32} (hl : l.stackTraces = false) {S : St} {r : Int32} {S1 : St} (h : X7_worthOf x1 x2 S = some (r, S1)) : CT l G 5 yX7_worthOf cX7_worthOf 3 (some .int) [.ref (G.1 0), .int x1, .int x2] S (some (.int r)) S1 := by
  refine ct_of hl (by decide) (Nat.le_of_ble_eq_true rfl) (fun F hFl hFG hF hN hR hret => ?_)
  subst hFl hFG
  show X F 0 0 [(0, .ref (gA F 0)), (1, .int x1), (2, .int x2)] [] S
  have hret : ∀ (v : Int32) (S : St) (pc : Nat) (ls : List (Nat × Value)), (v = r ∧ S = S1) → decode cX7_worthOf pc = .ok (.ireturn, 1) → X F 0 pc ls [.int v] S := fun v S2 pc ls hq hd => by obtain ⟨rfl, rfl⟩ := hq; exact hret.1 pc ls v rfl rfl hd
  have hk : r = r ∧ S1 = S1 := ⟨rfl, rfl⟩
  unfold X7_worthOf at h
  refine x_aload_n hF dX7_worthOf_0 rfl rfl ?_
  refine x_getr hF sh0 3 rfl ck6 (by decide) (by decide) tw_295 rfl dX7_worthOf_1 ?_
  refine x_iload_n hF dX7_worthOf_4 rfl rfl ?_
  refine x_aload_n hF dX7_worthOf_5 rfl rfl ?_
  refine x_getr hF sh0 0 rfl ck6 (by decide) (by decide) tw_292 rfl dX7_worthOf_6 ?_
  refine x_getr hF sh1 4 rfl ck3 (by decide) (by decide) tw_132 rfl dX7_worthOf_9 ?_
  refine x_iconst (v := (0 : Int32)) hF dX7_worthOf_12 (by decide) ?_
  refine x_iald (j := 0) hF sh5 (by decide) (by decide) (by decide) dX7_worthOf_13 ?_
  refine x_aload_n hF dX7_worthOf_14 rfl rfl ?_
  refine x_getr hF sh0 0 rfl ck6 (by decide) (by decide) tw_292 rfl dX7_worthOf_15 ?_
  refine x_getr hF sh1 4 rfl ck3 (by decide) (by decide) tw_132 rfl dX7_worthOf_18 ?_
  refine x_iconst (v := (2 : Int32)) hF dX7_worthOf_21 (by decide) ?_
  refine x_iald (j := 2) hF sh5 (by decide) (by decide) (by decide) dX7_worthOf_22 ?_
  obtain ⟨r1, S2, hcall, h⟩ := ob_some h
  refine x_cVv hF hN hR (ctX5_play (by decide) hF.tr hcall) mwX5_play miX5_play sh58 ck4 (by decide) tw_363 ⟨by decide, by decide⟩ rfl rfl (Nat.le_of_ble_eq_true rfl) dX7_worthOf_23 ?_
  refine x_aload_n hF dX7_worthOf_26 rfl rfl ?_
  refine x_getr hF sh0 3 rfl ck6 (by decide) (by decide) tw_295 rfl dX7_worthOf_27 ?_
  refine x_iload_n hF dX7_worthOf_30 rfl rfl ?_
  obtain ⟨r3, S4, hcall, h⟩ := ob_some h
  refine x_cVi hF hN hR (ctX5_measureFor (by decide) hF.tr hcall) mwX5_measureFor miX5_measureFor sh58 ck4 (by decide) tw_469 ⟨by decide, by decide⟩ rfl rfl (Nat.le_of_ble_eq_true rfl) dX7_worthOf_31 ?_
  obtain ⟨rfl, rfl⟩ := sm h
  exact hret _ _ _ _ hk dX7_worthOf_34
noncomputable def X7_worth (x1 : Int32) (S : St) : Option ((Int32 ⊕ Nat) × St) :=
  obx (X7_requireSet x1 S) (fun r1 S2 => ob (X7_worthOf x1 (-1 : Int32) S2) (fun r3 S4 => some (.inl r3, S4)))
set_option maxHeartbeats 4000000 in
set_option maxRecDepth 20000 in
theorem cxX7_worth {l : Launch} {G : Ga} {x1 : Int32} (hl : l.stackTraces = false) {S : St} {r : (Int32 ⊕ Nat)} {S1 : St} (h : X7_worth x1 S = some (r, S1)) : CX l G 7 1 yX7_worth cX7_worth 2 (some .int) [.ref (G.1 0), .int x1] S (rvI r) S1 := by
  refine cx_of hl (by decide) rfl (by decide) (Nat.le_of_ble_eq_true rfl) (fun F hFl hFG hF hN hR hret => ?_)
  subst hFl hFG
  show X F 0 0 [(0, .ref (gA F 0)), (1, .int x1)] [] S
  have hxt : ∀ (e : Nat) (S : St) (u pc : Nat) (ls : List (Nat × Value)), u ≤ 1 → (.inr e = r ∧ S = S1) → XT F u pc e ls S := fun e S2 u pc ls hu hq => by obtain ⟨rfl, rfl⟩ := hq; exact hret.2.2.1 u pc e ls hu rfl
  have hthr : ∀ {e : Nat} {S : St} {u pc ik is j : Nat} {tx : String} {ls : List (Nat × Value)} {st : List Value}, u + 1 ≤ 1 → e < 3 → (st.map fun v => v.category).sum ≤ 8 → (.inr e = r ∧ S = S1) → Thr cX7_worth pc e ik is j tx ∨ ThrW cX7_worth pc e ik is j tx → X F u pc ls st S := fun {e S2 u pc ik is j tx ls st} hu he hs hq hT => by obtain ⟨rfl, rfl⟩ := hq; exact hret.2.2.2 u pc e ik is j tx ls st hu he hs rfl hT
  have hret : ∀ (v : Int32) (S : St) (u pc : Nat) (ls : List (Nat × Value)), u ≤ 1 → (.inl v = r ∧ S = S1) → decode cX7_worth pc = .ok (.ireturn, 1) → X F u pc ls [.int v] S := fun v S2 u pc ls hu hq hd => by obtain ⟨rfl, rfl⟩ := hq; exact hret.1 u pc ls v hu rfl rfl hd
  have hk : r = r ∧ S1 = S1 := ⟨rfl, rfl⟩
  unfold X7_worth at h
  refine x_iload_n hF dX7_worth_0 rfl rfl ?_
  rcases obx_some h with ⟨r1, S2, hcall, h⟩ | ⟨r1, hcall, h⟩
  · refine x_xSv hF hN hR (cxX7_requireSet hF.tr hcall) mwX7_requireSet tw_827 tw_826 ⟨by decide, by decide⟩ rfl rfl (Nat.le_of_ble_eq_true rfl) dX7_worth_1 ?_
    refine x_aload_n hF dX7_worth_4 rfl rfl ?_
    refine x_iload_n hF dX7_worth_5 rfl rfl ?_
    refine x_iconst (v := (-1 : Int32)) hF dX7_worth_6 (by decide) ?_
    obtain ⟨r3, S4, hcall, h⟩ := ob_some h
    refine x_cVi hF hN hR (ctX7_worthOf hF.tr hcall) mwX7_worthOf miX7_worthOf sh0 ck6 (by decide) tw_572 ⟨by decide, by decide⟩ rfl rfl (Nat.le_of_ble_eq_true rfl) dX7_worth_7 ?_
    obtain ⟨rfl, rfl⟩ := sm h
    exact hret _ _ _ _ _ (by decide) hk dX7_worth_10
  · subst h
    exact x_xSt hF hN hR (cxX7_requireSet hF.tr hcall) mwX7_requireSet tw_827 tw_826 ⟨by decide, by decide⟩ rfl rfl (Nat.le_of_ble_eq_true rfl) dX7_worth_1 (hxt _ _ _ _ _ (by decide) hk)
noncomputable def X7_worthFor (x1 : Int32) (x2 : Int32) (S : St) : Option ((Int32 ⊕ Nat) × St) :=
  obx (X7_requireFlow x2 S) (fun r1 S2 => obx (X7_requireSet x1 S2) (fun r3 S4 => ob (X7_worthOf x1 x2 S4) (fun r5 S6 => some (.inl r5, S6))))
set_option maxHeartbeats 4000000 in
set_option maxRecDepth 20000 in
theorem cxX7_worthFor {l : Launch} {G : Ga} {x1 : Int32} {x2 : Int32} (hl : l.stackTraces = false) {S : St} {r : (Int32 ⊕ Nat)} {S1 : St} (h : X7_worthFor x1 x2 S = some (r, S1)) : CX l G 7 2 yX7_worthFor cX7_worthFor 3 (some .int) [.ref (G.1 0), .int x1, .int x2] S (rvI r) S1 := by
  refine cx_of hl (by decide) rfl (by decide) (Nat.le_of_ble_eq_true rfl) (fun F hFl hFG hF hN hR hret => ?_)
  subst hFl hFG
  show X F 0 0 [(0, .ref (gA F 0)), (1, .int x1), (2, .int x2)] [] S
  have hxt : ∀ (e : Nat) (S : St) (u pc : Nat) (ls : List (Nat × Value)), u ≤ 2 → (.inr e = r ∧ S = S1) → XT F u pc e ls S := fun e S2 u pc ls hu hq => by obtain ⟨rfl, rfl⟩ := hq; exact hret.2.2.1 u pc e ls hu rfl
  have hthr : ∀ {e : Nat} {S : St} {u pc ik is j : Nat} {tx : String} {ls : List (Nat × Value)} {st : List Value}, u + 1 ≤ 2 → e < 3 → (st.map fun v => v.category).sum ≤ 8 → (.inr e = r ∧ S = S1) → Thr cX7_worthFor pc e ik is j tx ∨ ThrW cX7_worthFor pc e ik is j tx → X F u pc ls st S := fun {e S2 u pc ik is j tx ls st} hu he hs hq hT => by obtain ⟨rfl, rfl⟩ := hq; exact hret.2.2.2 u pc e ik is j tx ls st hu he hs rfl hT
  have hret : ∀ (v : Int32) (S : St) (u pc : Nat) (ls : List (Nat × Value)), u ≤ 2 → (.inl v = r ∧ S = S1) → decode cX7_worthFor pc = .ok (.ireturn, 1) → X F u pc ls [.int v] S := fun v S2 u pc ls hu hq hd => by obtain ⟨rfl, rfl⟩ := hq; exact hret.1 u pc ls v hu rfl rfl hd
  have hk : r = r ∧ S1 = S1 := ⟨rfl, rfl⟩
  unfold X7_worthFor at h
  refine x_iload_n hF dX7_worthFor_0 rfl rfl ?_
  rcases obx_some h with ⟨r1, S2, hcall, h⟩ | ⟨r1, hcall, h⟩
  · refine x_xSv hF hN hR (cxX7_requireFlow hF.tr hcall) mwX7_requireFlow tw_589 tw_588 ⟨by decide, by decide⟩ rfl rfl (Nat.le_of_ble_eq_true rfl) dX7_worthFor_1 ?_
    refine x_iload_n hF dX7_worthFor_4 rfl rfl ?_
    rcases obx_some h with ⟨r3, S4, hcall, h⟩ | ⟨r3, hcall, h⟩
    · refine x_xSv hF hN hR (cxX7_requireSet hF.tr hcall) mwX7_requireSet tw_827 tw_826 ⟨by decide, by decide⟩ rfl rfl (Nat.le_of_ble_eq_true rfl) dX7_worthFor_5 ?_
      refine x_aload_n hF dX7_worthFor_8 rfl rfl ?_
      refine x_iload_n hF dX7_worthFor_9 rfl rfl ?_
      refine x_iload_n hF dX7_worthFor_10 rfl rfl ?_
      obtain ⟨r5, S6, hcall, h⟩ := ob_some h
      refine x_cVi hF hN hR (ctX7_worthOf hF.tr hcall) mwX7_worthOf miX7_worthOf sh0 ck6 (by decide) tw_572 ⟨by decide, by decide⟩ rfl rfl (Nat.le_of_ble_eq_true rfl) dX7_worthFor_11 ?_
      obtain ⟨rfl, rfl⟩ := sm h
      exact hret _ _ _ _ _ (by decide) hk dX7_worthFor_14
    · subst h
      exact x_xSt hF hN hR (cxX7_requireSet hF.tr hcall) mwX7_requireSet tw_827 tw_826 ⟨by decide, by decide⟩ rfl rfl (Nat.le_of_ble_eq_true rfl) dX7_worthFor_5 (hxt _ _ _ _ _ (by decide) hk)
  · subst h
    exact x_xSt hF hN hR (cxX7_requireFlow hF.tr hcall) mwX7_requireFlow tw_589 tw_588 ⟨by decide, by decide⟩ rfl rfl (Nat.le_of_ble_eq_true rfl) dX7_worthFor_1 (hxt _ _ _ _ _ (by decide) hk)
noncomputable def X7_contribution (x1 : Int32) (x2 : Int32) (S : St) : Option ((Int32 ⊕ Nat) × St) :=
  obx (X7_requireFlow x1 S) (fun r1 S2 => obx (X7_requireSet x2 S2) (fun r3 S4 => ob (X7_contains x2 x1 S4) (fun r5 S6 => oi (r5 = 0) (ob (X7_worthOf (x2 ||| ((1 : Int32) <<< (x1 &&& 31))) (-1 : Int32) S6) (fun r7 S8 => ob (X7_worthOf x2 (-1 : Int32) S8) (fun r9 S10 => some (.inl (r7 - r9), S10)))) (some (.inr 1, S6)))))
set_option maxHeartbeats 4000000 in
set_option maxRecDepth 20000 in
theorem cxX7_contribution {l : Launch} {G : Ga} {x1 : Int32} {x2 : Int32} (hl : l.stackTraces = false) {S : St} {r : (Int32 ⊕ Nat)} {S1 : St} (h : X7_contribution x1 x2 S = some (r, S1)) : CX l G 7 3 yX7_contribution cX7_contribution 3 (some .int) [.ref (G.1 0), .int x1, .int x2] S (rvI r) S1 := by
  refine cx_of hl (by decide) rfl (by decide) (Nat.le_of_ble_eq_true rfl) (fun F hFl hFG hF hN hR hret => ?_)
  subst hFl hFG
  show X F 0 0 [(0, .ref (gA F 0)), (1, .int x1), (2, .int x2)] [] S
  have hxt : ∀ (e : Nat) (S : St) (u pc : Nat) (ls : List (Nat × Value)), u ≤ 3 → (.inr e = r ∧ S = S1) → XT F u pc e ls S := fun e S2 u pc ls hu hq => by obtain ⟨rfl, rfl⟩ := hq; exact hret.2.2.1 u pc e ls hu rfl
  have hthr : ∀ {e : Nat} {S : St} {u pc ik is j : Nat} {tx : String} {ls : List (Nat × Value)} {st : List Value}, u + 1 ≤ 3 → e < 3 → (st.map fun v => v.category).sum ≤ 8 → (.inr e = r ∧ S = S1) → Thr cX7_contribution pc e ik is j tx ∨ ThrW cX7_contribution pc e ik is j tx → X F u pc ls st S := fun {e S2 u pc ik is j tx ls st} hu he hs hq hT => by obtain ⟨rfl, rfl⟩ := hq; exact hret.2.2.2 u pc e ik is j tx ls st hu he hs rfl hT
  have hret : ∀ (v : Int32) (S : St) (u pc : Nat) (ls : List (Nat × Value)), u ≤ 3 → (.inl v = r ∧ S = S1) → decode cX7_contribution pc = .ok (.ireturn, 1) → X F u pc ls [.int v] S := fun v S2 u pc ls hu hq hd => by obtain ⟨rfl, rfl⟩ := hq; exact hret.1 u pc ls v hu rfl rfl hd
  have hk : r = r ∧ S1 = S1 := ⟨rfl, rfl⟩
  unfold X7_contribution at h
  refine x_iload_n hF dX7_contribution_0 rfl rfl ?_
  rcases obx_some h with ⟨r1, S2, hcall, h⟩ | ⟨r1, hcall, h⟩
  · refine x_xSv hF hN hR (cxX7_requireFlow hF.tr hcall) mwX7_requireFlow tw_589 tw_588 ⟨by decide, by decide⟩ rfl rfl (Nat.le_of_ble_eq_true rfl) dX7_contribution_1 ?_
    refine x_iload_n hF dX7_contribution_4 rfl rfl ?_
    rcases obx_some h with ⟨r3, S4, hcall, h⟩ | ⟨r3, hcall, h⟩
    · refine x_xSv hF hN hR (cxX7_requireSet hF.tr hcall) mwX7_requireSet tw_827 tw_826 ⟨by decide, by decide⟩ rfl rfl (Nat.le_of_ble_eq_true rfl) dX7_contribution_5 ?_
      refine x_iload_n hF dX7_contribution_8 rfl rfl ?_
      refine x_iload_n hF dX7_contribution_9 rfl rfl ?_
      obtain ⟨r5, S6, hcall, h⟩ := ob_some h
      refine x_cSi hF hN hR (ctX7_contains hF.tr hcall) mwX7_contains tw_376 tw_851 ⟨by decide, by decide⟩ rfl rfl (Nat.le_of_ble_eq_true rfl) dX7_contribution_10 ?_
      refine x_if_eq (tgt := 26) hF dX7_contribution_13 (by decide) (fun hc => ?_) (fun hc => ?_)
      · have h := oi_pos hc h
        refine x_aload_n hF dX7_contribution_26 rfl rfl ?_
        refine x_iload_n hF dX7_contribution_27 rfl rfl ?_
        refine x_iconst (v := (1 : Int32)) hF dX7_contribution_28 (by decide) ?_
        refine x_iload_n hF dX7_contribution_29 rfl rfl ?_
        refine x_ishl hF dX7_contribution_30 ?_
        refine x_ior hF dX7_contribution_31 ?_
        refine x_iconst (v := (-1 : Int32)) hF dX7_contribution_32 (by decide) ?_
        obtain ⟨r7, S8, hcall, h⟩ := ob_some h
        refine x_cVi hF hN hR (ctX7_worthOf hF.tr hcall) mwX7_worthOf miX7_worthOf sh0 ck6 (by decide) tw_572 ⟨by decide, by decide⟩ rfl rfl (Nat.le_of_ble_eq_true rfl) dX7_contribution_33 ?_
        refine x_aload_n hF dX7_contribution_36 rfl rfl ?_
        refine x_iload_n hF dX7_contribution_37 rfl rfl ?_
        refine x_iconst (v := (-1 : Int32)) hF dX7_contribution_38 (by decide) ?_
        obtain ⟨r9, S10, hcall, h⟩ := ob_some h
        refine x_cVi hF hN hR (ctX7_worthOf hF.tr hcall) mwX7_worthOf miX7_worthOf sh0 ck6 (by decide) tw_572 ⟨by decide, by decide⟩ rfl rfl (Nat.le_of_ble_eq_true rfl) dX7_contribution_39 ?_
        refine x_isub hF dX7_contribution_42 ?_
        obtain ⟨rfl, rfl⟩ := sm h
        exact hret _ _ _ _ _ (by decide) hk dX7_contribution_43
      · have h := oi_neg hc h
        obtain ⟨rfl, rfl⟩ := sm h
        exact hthr (e := 1) (j := 7) (by decide) (by decide) (Nat.le_of_ble_eq_true rfl) hk (Or.inl ⟨tw_665, tw_84, rfl, dX7_contribution_16, dX7_contribution_19, dX7_contribution_20, dX7_contribution_22, dX7_contribution_25⟩)
    · subst h
      exact x_xSt hF hN hR (cxX7_requireSet hF.tr hcall) mwX7_requireSet tw_827 tw_826 ⟨by decide, by decide⟩ rfl rfl (Nat.le_of_ble_eq_true rfl) dX7_contribution_5 (hxt _ _ _ _ _ (by decide) hk)
  · subst h
    exact x_xSt hF hN hR (cxX7_requireFlow hF.tr hcall) mwX7_requireFlow tw_589 tw_588 ⟨by decide, by decide⟩ rfl rfl (Nat.le_of_ble_eq_true rfl) dX7_contribution_1 (hxt _ _ _ _ _ (by decide) hk)
noncomputable def X4_flowSet_4 (k : Nat) (x1 : Int32) (x2 : Int32) (S : St) : Option (((Int32 × Int32) ⊕ Int32) × St) :=
  oi ((gi S k 0) ≤ x2) (some (.inr x1, S)) (og (inb x2 40) (some (.inl ((x1 ||| ((1 : Int32) <<< ((gi S (k + 2) (ix x2)) &&& 31))), (x2 + (1 : Int32))), S)))
set_option maxHeartbeats 4000000 in
set_option maxRecDepth 20000 in
theorem xX4_flowSet_4 {F : Cx} {k : Nat} (ik : isRecording k) (hF : Ok F cX4_flowSet RX4) (hN : nLF F 3) (hR : RmF F 0 0) {x1 : Int32} {x2 : Int32} {K : ((Int32 × Int32) ⊕ Int32) → St → Prop} (hag : ∀ (a : Int32 × Int32) (S : St), K (.inl a) S → X F 0 4 [(0, .ref (gA F k)), (1, .int a.1), (2, .int a.2)] [] S) (hex29 : ∀ (q : Int32) (S : St), K (.inr q) S → X F 0 29 [(1, .int q)] [] S) {S : St} {r : (Int32 × Int32) ⊕ Int32} {S1 : St} (h : X4_flowSet_4 k x1 x2 S = some (r, S1)) (hk : K r S1) : X F 0 4 [(0, .ref (gA F k)), (1, .int x1), (2, .int x2)] [] S := by
  unfold X4_flowSet_4 at h
  refine x_iload_n hF dX4_flowSet_4 rfl rfl ?_
  refine x_aload_n hF dX4_flowSet_5 rfl rfl ?_
  refine x_geti hF (shRecording_0 ik) 0 rfl ck3 (ltRecording_0 ik) (by decide) tw_118 rfl dX4_flowSet_6 ?_
  refine x_icmp_ge (tgt := 29) hF dX4_flowSet_9 (by decide) (fun hc => ?_) (fun hc => ?_)
  · have h := oi_pos hc h
    obtain ⟨rfl, rfl⟩ := sm h
    exact x_sub (hex29 _ _ hk) ⟨rfl, trivial⟩
  · have h := oi_neg hc h
    refine x_iload_n hF dX4_flowSet_12 rfl rfl ?_
    refine x_iconst (v := (1 : Int32)) hF dX4_flowSet_13 (by decide) ?_
    refine x_aload_n hF dX4_flowSet_14 rfl rfl ?_
    refine x_getr hF (shRecording_0 ik) 2 rfl ck3 (ltRecording_0 ik) (by decide) tw_124 rfl dX4_flowSet_15 ?_
    refine x_iload_n hF dX4_flowSet_18 rfl rfl ?_
    obtain ⟨hg, h⟩ := og_some h
    refine x_iald hF (shRecording_2 ik) (ltRecording_2 ik) hg rfl dX4_flowSet_19 ?_
    refine x_ishl hF dX4_flowSet_20 ?_
    refine x_ior hF dX4_flowSet_21 ?_
    refine x_istore_n [(1, _), (0, _), (2, _)] hF hN dX4_flowSet_22 rfl (by decide) rfl ?_
    refine x_iinc [(2, _), (1, _), (0, _)] (v := (1 : Int32)) hF hN dX4_flowSet_23 rfl (by decide) (by decide) rfl ?_
    refine x_goto (tgt := 4) hF dX4_flowSet_26 (by decide) ?_
    obtain ⟨rfl, rfl⟩ := sm h
    exact x_sub (hag _ _ hk) ⟨rfl, rfl, rfl, trivial⟩
noncomputable def X4_flowSet_4L (k : Nat) (a : Int32 × Int32) (S : St) : Option (Int32 × St) :=
  lp (fun (a : Int32 × Int32) (S : St) => X4_flowSet_4 k a.1 a.2 S) a S
theorem xX4_flowSet_4L {F : Cx} {k : Nat} (ik : isRecording k) (hF : Ok F cX4_flowSet RX4) (hN : nLF F 3) (hR : RmF F 0 0) {K : Int32 → St → Prop} (hex29 : ∀ (q : Int32) (S : St), K (q) S → X F 0 29 [(1, .int q)] [] S) {a : Int32 × Int32} {S : St} {b : Int32} {S1 : St} (h : X4_flowSet_4L k a S = some (b, S1)) (hk : K b S1) : X F 0 4 [(0, .ref (gA F k)), (1, .int a.1), (2, .int a.2)] [] S := by
  unfold X4_flowSet_4L at h
  exact lp_rule (Xh := fun (a : Int32 × Int32) (S : St) => X F 0 4 [(0, .ref (gA F k)), (1, .int a.1), (2, .int a.2)] [] S) (K := K) (fun a S r S1 h hk => xX4_flowSet_4 ik hF hN hR (K := fun r S => match r with | .inl a => X F 0 4 [(0, .ref (gA F k)), (1, .int a.1), (2, .int a.2)] [] S | .inr b => K b S) (fun _ _ h => h) (fun q S h => hex29 q S h) h (by cases r <;> exact hk)) h hk
noncomputable def X4_flowSet (k : Nat) (S : St) : Option (Int32 × St) :=
  ob (X4_flowSet_4L k ((0 : Int32), (0 : Int32)) S) (fun b1 S2 => some (b1, S2))
set_option maxHeartbeats 4000000 in
set_option maxRecDepth 20000 in
theorem ctX4_flowSet {l : Launch} {G : Ga} {k : Nat} (ik : isRecording k) (hl : l.stackTraces = false) {S : St} {r : Int32} {S1 : St} (h : X4_flowSet k S = some (r, S1)) : CT l G 0 yX4_flowSet cX4_flowSet 3 (some .int) [.ref (G.1 k)] S (some (.int r)) S1 := by
  refine ct_of hl (by decide) (Nat.le_of_ble_eq_true rfl) (fun F hFl hFG hF hN hR hret => ?_)
  subst hFl hFG
  show X F 0 0 [(0, .ref (gA F k))] [] S
  have hret : ∀ (v : Int32) (S : St) (pc : Nat) (ls : List (Nat × Value)), (v = r ∧ S = S1) → decode cX4_flowSet pc = .ok (.ireturn, 1) → X F 0 pc ls [.int v] S := fun v S2 pc ls hq hd => by obtain ⟨rfl, rfl⟩ := hq; exact hret.1 pc ls v rfl rfl hd
  have hk : r = r ∧ S1 = S1 := ⟨rfl, rfl⟩
  unfold X4_flowSet at h
  refine x_iconst (v := (0 : Int32)) hF dX4_flowSet_0 (by decide) ?_
  refine x_istore_n [(1, _), (0, _)] hF hN dX4_flowSet_1 rfl (by decide) rfl ?_
  refine x_iconst (v := (0 : Int32)) hF dX4_flowSet_2 (by decide) ?_
  refine x_istore_n [(2, _), (1, _), (0, _)] hF hN dX4_flowSet_3 rfl (by decide) rfl ?_
  obtain ⟨b1, S2, hlb1, h⟩ := ob_some h
  refine x_sub (xX4_flowSet_4L ik hF hN hR (K := fun bb SS => bb = b1 ∧ SS = S2) ?_ hlb1 ⟨rfl, rfl⟩) ⟨rfl, rfl, rfl, trivial⟩
  rintro _ _ ⟨rfl, rfl⟩
  refine x_iload_n hF dX4_flowSet_29 rfl rfl ?_
  obtain ⟨rfl, rfl⟩ := sm h
  exact hret _ _ _ _ hk dX4_flowSet_30
noncomputable def X7_fillWorths_10 (x1 : Int32) (x2 : Int32) (x3 : Int32) (S : St) : Option (((Int32) ⊕ Unit) × St) :=
  oi ((64 : Int32) ≤ x3) (some (.inr (), S)) (oi (x3 ≤ (x3 &&& x2)) (ob (X7_worthOf x3 x1 S) (fun r3 S4 => og (inb x3 64) (ol (si S4 72 (ix x3) r3) (fun T5 => some (.inl (x3 + (1 : Int32)), T5))))) (og (inb (x3 &&& x2) 64) (og (inb x3 64) (ol (si S 72 (ix x3) (gi S 72 (ix (x3 &&& x2)))) (fun T6 => some (.inl (x3 + (1 : Int32)), T6))))))
set_option maxHeartbeats 4000000 in
set_option maxRecDepth 20000 in
theorem xX7_fillWorths_10 {F : Cx} (hF : Ok F cX7_fillWorths RX7) (hN : nLF F 5) (hR : RmF F 6 0) {x1 : Int32} {x2 : Int32} {x3 : Int32} {K : ((Int32) ⊕ Unit) → St → Prop} (hag : ∀ (a : Int32) (S : St), K (.inl a) S → X F 0 10 [(0, .ref (gA F 0)), (1, .int x1), (2, .int x2), (3, .int a)] [] S) (hex55 : ∀ (q : Unit) (S : St), K (.inr q) S → X F 0 55 [] [] S) {S : St} {r : (Int32) ⊕ Unit} {S1 : St} (h : X7_fillWorths_10 x1 x2 x3 S = some (r, S1)) (hk : K r S1) : X F 0 10 [(0, .ref (gA F 0)), (1, .int x1), (2, .int x2), (3, .int x3)] [] S := by
  unfold X7_fillWorths_10 at h
  refine x_iload_n hF dX7_fillWorths_10 rfl rfl ?_
  refine x_bipush (v := (64 : Int32)) hF dX7_fillWorths_11 (by decide) ?_
  refine x_icmp_ge (tgt := 55) hF dX7_fillWorths_13 (by decide) (fun hc => ?_) (fun hc => ?_)
  · have h := oi_pos hc h
    obtain ⟨rfl, rfl⟩ := sm h
    exact x_sub (hex55 _ _ hk) trivial
  · have h := oi_neg hc h
    refine x_iload_n hF dX7_fillWorths_16 rfl rfl ?_
    refine x_iload_n hF dX7_fillWorths_17 rfl rfl ?_
    refine x_iand hF dX7_fillWorths_18 ?_
    refine x_istore [(4, _), (0, _), (1, _), (2, _), (3, _)] hF hN dX7_fillWorths_19 (by decide) rfl ?_
    refine x_aload_n hF dX7_fillWorths_21 rfl rfl ?_
    refine x_getr hF sh0 5 rfl ck6 (by decide) (by decide) tw_297 rfl dX7_fillWorths_22 ?_
    refine x_iload_n hF dX7_fillWorths_25 rfl rfl ?_
    refine x_iload hF dX7_fillWorths_26 rfl ?_
    refine x_iload_n hF dX7_fillWorths_28 rfl rfl ?_
    refine x_icmp_ge (tgt := 42) hF dX7_fillWorths_29 (by decide) (fun hc => ?_) (fun hc => ?_)
    · have h := oi_pos hc h
      refine x_aload_n hF dX7_fillWorths_42 rfl rfl ?_
      refine x_iload_n hF dX7_fillWorths_43 rfl rfl ?_
      refine x_iload_n hF dX7_fillWorths_44 rfl rfl ?_
      obtain ⟨r3, S4, hcall, h⟩ := ob_some h
      refine x_cVi hF hN hR (ctX7_worthOf hF.tr hcall) mwX7_worthOf miX7_worthOf sh0 ck6 (by decide) tw_572 ⟨by decide, by decide⟩ rfl rfl (Nat.le_of_ble_eq_true rfl) dX7_fillWorths_45 ?_
      obtain ⟨hg, h⟩ := og_some h
      obtain ⟨T5, eT5, h⟩ := ol_some h
      refine x_iast hF sh72 (by decide) hg rfl eT5 dX7_fillWorths_48 ?_
      refine x_iinc [(3, _), (4, _), (0, _), (1, _), (2, _)] (v := (1 : Int32)) hF hN dX7_fillWorths_49 rfl (by decide) (by decide) rfl ?_
      refine x_goto (tgt := 10) hF dX7_fillWorths_52 (by decide) ?_
      obtain ⟨rfl, rfl⟩ := sm h
      exact x_sub (hag _ _ hk) ⟨rfl, rfl, rfl, rfl, trivial⟩
    · have h := oi_neg hc h
      refine x_aload_n hF dX7_fillWorths_32 rfl rfl ?_
      refine x_getr hF sh0 5 rfl ck6 (by decide) (by decide) tw_297 rfl dX7_fillWorths_33 ?_
      refine x_iload hF dX7_fillWorths_36 rfl ?_
      obtain ⟨hg, h⟩ := og_some h
      refine x_iald hF sh72 (by decide) hg rfl dX7_fillWorths_38 ?_
      refine x_goto (tgt := 48) hF dX7_fillWorths_39 (by decide) ?_
      obtain ⟨hg, h⟩ := og_some h
      obtain ⟨T6, eT6, h⟩ := ol_some h
      refine x_iast hF sh72 (by decide) hg rfl eT6 dX7_fillWorths_48 ?_
      refine x_iinc [(3, _), (4, _), (0, _), (1, _), (2, _)] (v := (1 : Int32)) hF hN dX7_fillWorths_49 rfl (by decide) (by decide) rfl ?_
      refine x_goto (tgt := 10) hF dX7_fillWorths_52 (by decide) ?_
      obtain ⟨rfl, rfl⟩ := sm h
      exact x_sub (hag _ _ hk) ⟨rfl, rfl, rfl, rfl, trivial⟩
noncomputable def X7_fillWorths_10L (x1 : Int32) (x2 : Int32) (a : Int32) (S : St) : Option (Unit × St) :=
  lp (fun (a : Int32) (S : St) => X7_fillWorths_10 x1 x2 a S) a S
theorem xX7_fillWorths_10L {F : Cx} (hF : Ok F cX7_fillWorths RX7) (hN : nLF F 5) (hR : RmF F 6 0) {x1 : Int32} {x2 : Int32} {K : Unit → St → Prop} (hex55 : ∀ (q : Unit) (S : St), K (q) S → X F 0 55 [] [] S) {a : Int32} {S : St} {b : Unit} {S1 : St} (h : X7_fillWorths_10L x1 x2 a S = some (b, S1)) (hk : K b S1) : X F 0 10 [(0, .ref (gA F 0)), (1, .int x1), (2, .int x2), (3, .int a)] [] S := by
  unfold X7_fillWorths_10L at h
  exact lp_rule (Xh := fun (a : Int32) (S : St) => X F 0 10 [(0, .ref (gA F 0)), (1, .int x1), (2, .int x2), (3, .int a)] [] S) (K := K) (fun a S r S1 h hk => xX7_fillWorths_10 hF hN hR (K := fun r S => match r with | .inl a => X F 0 10 [(0, .ref (gA F 0)), (1, .int x1), (2, .int x2), (3, .int a)] [] S | .inr b => K b S) (fun _ _ h => h) (fun q S h => hex55 q S h) h (by cases r <;> exact hk)) h hk
noncomputable def X7_fillWorths (x1 : Int32) (S : St) : Option (Unit × St) :=
  ob (X4_flowSet 1 S) (fun r1 S2 => ob (X7_fillWorths_10L x1 r1 (0 : Int32) S2) (fun b7 S8 => some ((), S8)))
set_option maxHeartbeats 4000000 in
set_option maxRecDepth 20000 in
theorem ctX7_fillWorths {l : Launch} {G : Ga} {x1 : Int32} (hl : l.stackTraces = false) {S : St} {r : Unit} {S1 : St} (h : X7_fillWorths x1 S = some (r, S1)) : CT l G 6 yX7_fillWorths cX7_fillWorths 5 none [.ref (G.1 0), .int x1] S none S1 := by
  refine ct_of hl (by decide) (Nat.le_of_ble_eq_true rfl) (fun F hFl hFG hF hN hR hret => ?_)
  subst hFl hFG
  show X F 0 0 [(0, .ref (gA F 0)), (1, .int x1)] [] S
  have hret : ∀ (v : Unit) (S : St) (pc : Nat) (ls : List (Nat × Value)), (v = r ∧ S = S1) → decode cX7_fillWorths pc = .ok (.return_, 1) → X F 0 pc ls [] S := fun v S2 pc ls hq hd => by obtain ⟨rfl, rfl⟩ := hq; exact hret.2.2.2.2.1 pc ls rfl rfl hd
  have hk : r = r ∧ S1 = S1 := ⟨rfl, rfl⟩
  unfold X7_fillWorths at h
  refine x_aload_n hF dX7_fillWorths_0 rfl rfl ?_
  refine x_getr hF sh0 0 rfl ck6 (by decide) (by decide) tw_292 rfl dX7_fillWorths_1 ?_
  obtain ⟨r1, S2, hcall, h⟩ := ob_some h
  refine x_cVi hF hN hR (ctX4_flowSet (by decide) hF.tr hcall) mwX4_flowSet miX4_flowSet sh1 ck3 (by decide) tw_568 ⟨by decide, by decide⟩ rfl rfl (Nat.le_of_ble_eq_true rfl) dX7_fillWorths_4 ?_
  refine x_istore_n [(2, _), (0, _), (1, _)] hF hN dX7_fillWorths_7 rfl (by decide) rfl ?_
  refine x_iconst (v := (0 : Int32)) hF dX7_fillWorths_8 (by decide) ?_
  refine x_istore_n [(3, _), (2, _), (0, _), (1, _)] hF hN dX7_fillWorths_9 rfl (by decide) rfl ?_
  obtain ⟨b7, S8, hlb7, h⟩ := ob_some h
  refine x_sub (xX7_fillWorths_10L hF hN hR (K := fun bb SS => bb = b7 ∧ SS = S8) ?_ hlb7 ⟨rfl, rfl⟩) ⟨rfl, rfl, rfl, rfl, trivial⟩
  rintro _ _ ⟨_, rfl⟩
  obtain ⟨rfl, rfl⟩ := sm h
  exact hret _ _ _ _ hk dX7_fillWorths_55
noncomputable def X7_commonDivisor_7 (x2 : Int32) (x3 : Int32) (x4 : Int32) (S : St) : Option (((Int32 × Int32 × Int32) ⊕ Int32) × St) :=
  oi ((64 : Int32) ≤ x4) (some (.inr x2, S)) (oi (x3 ≤ 0) (some (.inr x2, S)) (og (¬ x3 = 0) (some (.inl (x3, (x2 - x2 / x3 * x3), (x4 + (1 : Int32))), S))))
set_option maxHeartbeats 4000000 in
set_option maxRecDepth 20000 in
theorem xX7_commonDivisor_7 {F : Cx} (hF : Ok F cX7_commonDivisor RX7) (hN : nLF F 6) (hR : RmF F 0 0) {x2 : Int32} {x3 : Int32} {x4 : Int32} {K : ((Int32 × Int32 × Int32) ⊕ Int32) → St → Prop} (hag : ∀ (a : Int32 × Int32 × Int32) (S : St), K (.inl a) S → X F 0 7 [(2, .int a.1), (3, .int a.2.1), (4, .int a.2.2)] [] S) (hex34 : ∀ (q : Int32) (S : St), K (.inr q) S → X F 0 34 [(2, .int q)] [] S) {S : St} {r : (Int32 × Int32 × Int32) ⊕ Int32} {S1 : St} (h : X7_commonDivisor_7 x2 x3 x4 S = some (r, S1)) (hk : K r S1) : X F 0 7 [(2, .int x2), (3, .int x3), (4, .int x4)] [] S := by
  unfold X7_commonDivisor_7 at h
  refine x_iload hF dX7_commonDivisor_7 rfl ?_
  refine x_bipush (v := (64 : Int32)) hF dX7_commonDivisor_9 (by decide) ?_
  refine x_icmp_ge (tgt := 34) hF dX7_commonDivisor_11 (by decide) (fun hc => ?_) (fun hc => ?_)
  · have h := oi_pos hc h
    obtain ⟨rfl, rfl⟩ := sm h
    exact x_sub (hex34 _ _ hk) ⟨rfl, trivial⟩
  · have h := oi_neg hc h
    refine x_iload_n hF dX7_commonDivisor_14 rfl rfl ?_
    refine x_if_le (tgt := 34) hF dX7_commonDivisor_15 (by decide) (fun hc => ?_) (fun hc => ?_)
    · have h := oi_pos hc h
      obtain ⟨rfl, rfl⟩ := sm h
      exact x_sub (hex34 _ _ hk) ⟨rfl, trivial⟩
    · have h := oi_neg hc h
      refine x_iload_n hF dX7_commonDivisor_18 rfl rfl ?_
      refine x_iload_n hF dX7_commonDivisor_19 rfl rfl ?_
      obtain ⟨hg, h⟩ := og_some h
      refine x_irem hF dX7_commonDivisor_20 hg ?_
      refine x_istore [(5, _), (2, _), (3, _), (4, _)] hF hN dX7_commonDivisor_21 (by decide) rfl ?_
      refine x_iload_n hF dX7_commonDivisor_23 rfl rfl ?_
      refine x_istore_n [(2, _), (5, _), (3, _), (4, _)] hF hN dX7_commonDivisor_24 rfl (by decide) rfl ?_
      refine x_iload hF dX7_commonDivisor_25 rfl ?_
      refine x_istore_n [(3, _), (2, _), (5, _), (4, _)] hF hN dX7_commonDivisor_27 rfl (by decide) rfl ?_
      refine x_iinc [(4, _), (3, _), (2, _), (5, _)] (v := (1 : Int32)) hF hN dX7_commonDivisor_28 rfl (by decide) (by decide) rfl ?_
      refine x_goto (tgt := 7) hF dX7_commonDivisor_31 (by decide) ?_
      obtain ⟨rfl, rfl⟩ := sm h
      exact x_sub (hag _ _ hk) ⟨rfl, rfl, rfl, trivial⟩
noncomputable def X7_commonDivisor_7L (a : Int32 × Int32 × Int32) (S : St) : Option (Int32 × St) :=
  lp (fun (a : Int32 × Int32 × Int32) (S : St) => X7_commonDivisor_7 a.1 a.2.1 a.2.2 S) a S
theorem xX7_commonDivisor_7L {F : Cx} (hF : Ok F cX7_commonDivisor RX7) (hN : nLF F 6) (hR : RmF F 0 0) {K : Int32 → St → Prop} (hex34 : ∀ (q : Int32) (S : St), K (q) S → X F 0 34 [(2, .int q)] [] S) {a : Int32 × Int32 × Int32} {S : St} {b : Int32} {S1 : St} (h : X7_commonDivisor_7L  a S = some (b, S1)) (hk : K b S1) : X F 0 7 [(2, .int a.1), (3, .int a.2.1), (4, .int a.2.2)] [] S := by
  unfold X7_commonDivisor_7L at h
  exact lp_rule (Xh := fun (a : Int32 × Int32 × Int32) (S : St) => X F 0 7 [(2, .int a.1), (3, .int a.2.1), (4, .int a.2.2)] [] S) (K := K) (fun a S r S1 h hk => xX7_commonDivisor_7 hF hN hR (K := fun r S => match r with | .inl a => X F 0 7 [(2, .int a.1), (3, .int a.2.1), (4, .int a.2.2)] [] S | .inr b => K b S) (fun _ _ h => h) (fun q S h => hex34 q S h) h (by cases r <;> exact hk)) h hk
noncomputable def X7_commonDivisor (x0 : Int32) (x1 : Int32) (S : St) : Option (Int32 × St) :=
  ob (X7_commonDivisor_7L (x0, x1, (0 : Int32)) S) (fun b1 S2 => some (b1, S2))
set_option maxHeartbeats 4000000 in
set_option maxRecDepth 20000 in
theorem ctX7_commonDivisor {l : Launch} {G : Ga} {x0 : Int32} {x1 : Int32} (hl : l.stackTraces = false) {S : St} {r : Int32} {S1 : St} (h : X7_commonDivisor x0 x1 S = some (r, S1)) : CT l G 0 yX7_commonDivisor cX7_commonDivisor 6 (some .int) [.int x0, .int x1] S (some (.int r)) S1 := by
  refine ct_of hl (by decide) (Nat.le_of_ble_eq_true rfl) (fun F hFl hFG hF hN hR hret => ?_)
  subst hFl hFG
  show X F 0 0 [(0, .int x0), (1, .int x1)] [] S
  have hret : ∀ (v : Int32) (S : St) (pc : Nat) (ls : List (Nat × Value)), (v = r ∧ S = S1) → decode cX7_commonDivisor pc = .ok (.ireturn, 1) → X F 0 pc ls [.int v] S := fun v S2 pc ls hq hd => by obtain ⟨rfl, rfl⟩ := hq; exact hret.1 pc ls v rfl rfl hd
  have hk : r = r ∧ S1 = S1 := ⟨rfl, rfl⟩
  unfold X7_commonDivisor at h
  refine x_iload_n hF dX7_commonDivisor_0 rfl rfl ?_
  refine x_istore_n [(2, _), (0, _), (1, _)] hF hN dX7_commonDivisor_1 rfl (by decide) rfl ?_
  refine x_iload_n hF dX7_commonDivisor_2 rfl rfl ?_
  refine x_istore_n [(3, _), (2, _), (0, _), (1, _)] hF hN dX7_commonDivisor_3 rfl (by decide) rfl ?_
  refine x_iconst (v := (0 : Int32)) hF dX7_commonDivisor_4 (by decide) ?_
  refine x_istore [(4, _), (3, _), (2, _), (0, _), (1, _)] hF hN dX7_commonDivisor_5 (by decide) rfl ?_
  obtain ⟨b1, S2, hlb1, h⟩ := ob_some h
  refine x_sub (xX7_commonDivisor_7L hF hN hR (K := fun bb SS => bb = b1 ∧ SS = S2) ?_ hlb1 ⟨rfl, rfl⟩) ⟨rfl, rfl, rfl, trivial⟩
  rintro _ _ ⟨rfl, rfl⟩
  refine x_iload_n hF dX7_commonDivisor_34 rfl rfl ?_
  obtain ⟨rfl, rfl⟩ := sm h
  exact hret _ _ _ _ hk dX7_commonDivisor_35
noncomputable def X7_partOfFraction_18 (x3 : Int32) (z0 : Int32) (S : St) : Option (Int32 × St) :=
  ob (X7_quotient z0 x3 S) (fun r3 S4 => some (r3, S4))
set_option maxHeartbeats 4000000 in
set_option maxRecDepth 20000 in
theorem xX7_partOfFraction_18 {F : Cx} (hF : Ok F cX7_partOfFraction RX7) (hN : nLF F 4) (hR : RmF F 1 0) {x3 : Int32} {z0 : Int32} {K : Int32 → St → Prop} (hret : ∀ (v : Int32) (S : St) (pc : Nat) (ls : List (Nat × Value)), K v S → decode cX7_partOfFraction pc = .ok (.ireturn, 1) → X F 0 pc ls [.int v] S) {S : St} {r : Int32} {S1 : St} (h : X7_partOfFraction_18 x3 z0 S = some (r, S1)) (hk : K r S1) : X F 0 18 [(3, .int x3)] [.int z0] S := by
  unfold X7_partOfFraction_18 at h
  refine x_iload_n hF dX7_partOfFraction_18 rfl rfl ?_
  obtain ⟨r3, S4, hcall, h⟩ := ob_some h
  refine x_cSi hF hN hR (ctX7_quotient hF.tr hcall) mwX7_quotient tw_425 tw_889 ⟨by decide, by decide⟩ rfl rfl (Nat.le_of_ble_eq_true rfl) dX7_partOfFraction_19 ?_
  obtain ⟨rfl, rfl⟩ := sm h
  exact hret _ _ _ _ hk dX7_partOfFraction_22
noncomputable def X7_partOfFraction (x0 : Int32) (x1 : Int32) (x2 : Int32) (S : St) : Option (Int32 × St) :=
  ob (X7_commonDivisor (if 0 ≤ x0 then x0 else 0 - x0) x1 S) (fun r1 S2 => oi (x2 = 0) (X7_partOfFraction_18 r1 x0 S2) (X7_partOfFraction_18 r1 x1 S2))
set_option maxHeartbeats 4000000 in
set_option maxRecDepth 20000 in
theorem ctX7_partOfFraction {l : Launch} {G : Ga} {x0 : Int32} {x1 : Int32} {x2 : Int32} (hl : l.stackTraces = false) {S : St} {r : Int32} {S1 : St} (h : X7_partOfFraction x0 x1 x2 S = some (r, S1)) : CT l G 1 yX7_partOfFraction cX7_partOfFraction 4 (some .int) [.int x0, .int x1, .int x2] S (some (.int r)) S1 := by
  refine ct_of hl (by decide) (Nat.le_of_ble_eq_true rfl) (fun F hFl hFG hF hN hR hret => ?_)
  subst hFl hFG
  show X F 0 0 [(0, .int x0), (1, .int x1), (2, .int x2)] [] S
  have hret : ∀ (v : Int32) (S : St) (pc : Nat) (ls : List (Nat × Value)), (v = r ∧ S = S1) → decode cX7_partOfFraction pc = .ok (.ireturn, 1) → X F 0 pc ls [.int v] S := fun v S2 pc ls hq hd => by obtain ⟨rfl, rfl⟩ := hq; exact hret.1 pc ls v rfl rfl hd
  have hk : r = r ∧ S1 = S1 := ⟨rfl, rfl⟩
  unfold X7_partOfFraction at h
  refine x_iload_n hF dX7_partOfFraction_0 rfl rfl ?_
  refine x_mabs hF hR tw_883 mcabs.1 tw_87 mcabs.2 ⟨by decide, by decide⟩ (Nat.le_of_ble_eq_true rfl) dX7_partOfFraction_1 ?_
  refine x_iload_n hF dX7_partOfFraction_4 rfl rfl ?_
  obtain ⟨r1, S2, hcall, h⟩ := ob_some h
  refine x_cSi hF hN hR (ctX7_commonDivisor hF.tr hcall) mwX7_commonDivisor tw_887 tw_886 ⟨by decide, by decide⟩ rfl rfl (Nat.le_of_ble_eq_true rfl) dX7_partOfFraction_5 ?_
  refine x_istore_n [(3, _), (0, _), (1, _), (2, _)] hF hN dX7_partOfFraction_8 rfl (by decide) rfl ?_
  refine x_iload_n hF dX7_partOfFraction_9 rfl rfl ?_
  refine x_if_ne (tgt := 17) hF dX7_partOfFraction_10 (by decide) (fun hc => ?_) (fun hc => ?_)
  · have h := oi_neg hc h
    refine x_iload_n hF dX7_partOfFraction_17 rfl rfl ?_
    exact x_sub (xX7_partOfFraction_18 hF hN hR (K := fun v9 S9 => v9 = r ∧ S9 = S1) hret h hk) ⟨rfl, trivial⟩
  · have h := oi_pos hc h
    refine x_iload_n hF dX7_partOfFraction_13 rfl rfl ?_
    refine x_goto (tgt := 18) hF dX7_partOfFraction_14 (by decide) ?_
    exact x_sub (xX7_partOfFraction_18 hF hN hR (K := fun v9 S9 => v9 = r ∧ S9 = S1) hret h hk) ⟨rfl, trivial⟩
noncomputable def X7_requirePart (x0 : Int32) (S : St) : Option ((Unit ⊕ Nat) × St) :=
  oi (x0 = 0) (some (.inl (), S)) (oi (x0 = (1 : Int32)) (some (.inl (), S)) (some (.inr 1, S)))
set_option maxHeartbeats 4000000 in
set_option maxRecDepth 20000 in
theorem cxX7_requirePart {l : Launch} {G : Ga} {x0 : Int32} (hl : l.stackTraces = false) {S : St} {r : (Unit ⊕ Nat)} {S1 : St} (h : X7_requirePart x0 S = some (r, S1)) : CX l G 6 1 yX7_requirePart cX7_requirePart 1 none [.int x0] S (rvU r) S1 := by
  refine cx_of hl (by decide) rfl (by decide) (Nat.le_of_ble_eq_true rfl) (fun F hFl hFG hF hN hR hret => ?_)
  subst hFl hFG
  show X F 0 0 [(0, .int x0)] [] S
  have hxt : ∀ (e : Nat) (S : St) (u pc : Nat) (ls : List (Nat × Value)), u ≤ 1 → (.inr e = r ∧ S = S1) → XT F u pc e ls S := fun e S2 u pc ls hu hq => by obtain ⟨rfl, rfl⟩ := hq; exact hret.2.2.1 u pc e ls hu rfl
  have hthr : ∀ {e : Nat} {S : St} {u pc ik is j : Nat} {tx : String} {ls : List (Nat × Value)} {st : List Value}, u + 1 ≤ 1 → e < 3 → (st.map fun v => v.category).sum ≤ 8 → (.inr e = r ∧ S = S1) → Thr cX7_requirePart pc e ik is j tx ∨ ThrW cX7_requirePart pc e ik is j tx → X F u pc ls st S := fun {e S2 u pc ik is j tx ls st} hu he hs hq hT => by obtain ⟨rfl, rfl⟩ := hq; exact hret.2.2.2 u pc e ik is j tx ls st hu he hs rfl hT
  have hret : ∀ (v : Unit) (S : St) (u pc : Nat) (ls : List (Nat × Value)), u ≤ 1 → (.inl v = r ∧ S = S1) → decode cX7_requirePart pc = .ok (.return_, 1) → X F u pc ls [] S := fun v S2 u pc ls hu hq hd => by obtain ⟨rfl, rfl⟩ := hq; exact hret.2.1 u pc ls hu rfl rfl hd
  have hk : r = r ∧ S1 = S1 := ⟨rfl, rfl⟩
  unfold X7_requirePart at h
  refine x_iload_n hF dX7_requirePart_0 rfl rfl ?_
  refine x_if_eq (tgt := 20) hF dX7_requirePart_1 (by decide) (fun hc => ?_) (fun hc => ?_)
  · have h := oi_pos hc h
    obtain ⟨rfl, rfl⟩ := sm h
    exact hret _ _ _ _ _ (by decide) hk dX7_requirePart_20
  · have h := oi_neg hc h
    refine x_iload_n hF dX7_requirePart_4 rfl rfl ?_
    refine x_iconst (v := (1 : Int32)) hF dX7_requirePart_5 (by decide) ?_
    refine x_icmp_eq (tgt := 20) hF dX7_requirePart_6 (by decide) (fun hc => ?_) (fun hc => ?_)
    · have h := oi_pos hc h
      obtain ⟨rfl, rfl⟩ := sm h
      exact hret _ _ _ _ _ (by decide) hk dX7_requirePart_20
    · have h := oi_neg hc h
      obtain ⟨rfl, rfl⟩ := sm h
      exact hthr (e := 1) (j := 8) (by decide) (by decide) (Nat.le_of_ble_eq_true rfl) hk (Or.inr ⟨tw_665, tw_84, rfl, dX7_requirePart_9, dX7_requirePart_12, dX7_requirePart_13, dX7_requirePart_16, dX7_requirePart_19⟩)
noncomputable def J6_bitCount_0f7a4 (x0 : Int32) (S : St) : Option (Int32 × St) :=
  some (((((((((x0 - ((x0.toUInt32 >>> ((1 : Int32).toUInt32 &&& Int32.toUInt32 31)).toInt32 &&& (1431655765 : Int32))) &&& (858993459 : Int32)) + (((x0 - ((x0.toUInt32 >>> ((1 : Int32).toUInt32 &&& Int32.toUInt32 31)).toInt32 &&& (1431655765 : Int32))).toUInt32 >>> ((2 : Int32).toUInt32 &&& Int32.toUInt32 31)).toInt32 &&& (858993459 : Int32))) + ((((x0 - ((x0.toUInt32 >>> ((1 : Int32).toUInt32 &&& Int32.toUInt32 31)).toInt32 &&& (1431655765 : Int32))) &&& (858993459 : Int32)) + (((x0 - ((x0.toUInt32 >>> ((1 : Int32).toUInt32 &&& Int32.toUInt32 31)).toInt32 &&& (1431655765 : Int32))).toUInt32 >>> ((2 : Int32).toUInt32 &&& Int32.toUInt32 31)).toInt32 &&& (858993459 : Int32))).toUInt32 >>> ((4 : Int32).toUInt32 &&& Int32.toUInt32 31)).toInt32) &&& (252645135 : Int32)) + ((((((x0 - ((x0.toUInt32 >>> ((1 : Int32).toUInt32 &&& Int32.toUInt32 31)).toInt32 &&& (1431655765 : Int32))) &&& (858993459 : Int32)) + (((x0 - ((x0.toUInt32 >>> ((1 : Int32).toUInt32 &&& Int32.toUInt32 31)).toInt32 &&& (1431655765 : Int32))).toUInt32 >>> ((2 : Int32).toUInt32 &&& Int32.toUInt32 31)).toInt32 &&& (858993459 : Int32))) + ((((x0 - ((x0.toUInt32 >>> ((1 : Int32).toUInt32 &&& Int32.toUInt32 31)).toInt32 &&& (1431655765 : Int32))) &&& (858993459 : Int32)) + (((x0 - ((x0.toUInt32 >>> ((1 : Int32).toUInt32 &&& Int32.toUInt32 31)).toInt32 &&& (1431655765 : Int32))).toUInt32 >>> ((2 : Int32).toUInt32 &&& Int32.toUInt32 31)).toInt32 &&& (858993459 : Int32))).toUInt32 >>> ((4 : Int32).toUInt32 &&& Int32.toUInt32 31)).toInt32) &&& (252645135 : Int32)).toUInt32 >>> ((8 : Int32).toUInt32 &&& Int32.toUInt32 31)).toInt32) + (((((((x0 - ((x0.toUInt32 >>> ((1 : Int32).toUInt32 &&& Int32.toUInt32 31)).toInt32 &&& (1431655765 : Int32))) &&& (858993459 : Int32)) + (((x0 - ((x0.toUInt32 >>> ((1 : Int32).toUInt32 &&& Int32.toUInt32 31)).toInt32 &&& (1431655765 : Int32))).toUInt32 >>> ((2 : Int32).toUInt32 &&& Int32.toUInt32 31)).toInt32 &&& (858993459 : Int32))) + ((((x0 - ((x0.toUInt32 >>> ((1 : Int32).toUInt32 &&& Int32.toUInt32 31)).toInt32 &&& (1431655765 : Int32))) &&& (858993459 : Int32)) + (((x0 - ((x0.toUInt32 >>> ((1 : Int32).toUInt32 &&& Int32.toUInt32 31)).toInt32 &&& (1431655765 : Int32))).toUInt32 >>> ((2 : Int32).toUInt32 &&& Int32.toUInt32 31)).toInt32 &&& (858993459 : Int32))).toUInt32 >>> ((4 : Int32).toUInt32 &&& Int32.toUInt32 31)).toInt32) &&& (252645135 : Int32)) + ((((((x0 - ((x0.toUInt32 >>> ((1 : Int32).toUInt32 &&& Int32.toUInt32 31)).toInt32 &&& (1431655765 : Int32))) &&& (858993459 : Int32)) + (((x0 - ((x0.toUInt32 >>> ((1 : Int32).toUInt32 &&& Int32.toUInt32 31)).toInt32 &&& (1431655765 : Int32))).toUInt32 >>> ((2 : Int32).toUInt32 &&& Int32.toUInt32 31)).toInt32 &&& (858993459 : Int32))) + ((((x0 - ((x0.toUInt32 >>> ((1 : Int32).toUInt32 &&& Int32.toUInt32 31)).toInt32 &&& (1431655765 : Int32))) &&& (858993459 : Int32)) + (((x0 - ((x0.toUInt32 >>> ((1 : Int32).toUInt32 &&& Int32.toUInt32 31)).toInt32 &&& (1431655765 : Int32))).toUInt32 >>> ((2 : Int32).toUInt32 &&& Int32.toUInt32 31)).toInt32 &&& (858993459 : Int32))).toUInt32 >>> ((4 : Int32).toUInt32 &&& Int32.toUInt32 31)).toInt32) &&& (252645135 : Int32)).toUInt32 >>> ((8 : Int32).toUInt32 &&& Int32.toUInt32 31)).toInt32).toUInt32 >>> ((16 : Int32).toUInt32 &&& Int32.toUInt32 31)).toInt32) &&& (63 : Int32)), S)
set_option maxHeartbeats 4000000 in
set_option maxRecDepth 20000 in
theorem ctJ6_bitCount_0f7a4 {l : Launch} {G : Ga} {x0 : Int32} (hl : l.stackTraces = false) {S : St} {r : Int32} {S1 : St} (h : J6_bitCount_0f7a4 x0 S = some (r, S1)) : CT l G 0 yJ6_bitCount_0f7a4 cJ6_bitCount_0f7a4 1 (some .int) [.int x0] S (some (.int r)) S1 := by
  refine ct_of hl (by decide) (Nat.le_of_ble_eq_true rfl) (fun F hFl hFG hF hN hR hret => ?_)
  subst hFl hFG
  show X F 0 0 [(0, .int x0)] [] S
  have hret : ∀ (v : Int32) (S : St) (pc : Nat) (ls : List (Nat × Value)), (v = r ∧ S = S1) → decode cJ6_bitCount_0f7a4 pc = .ok (.ireturn, 1) → X F 0 pc ls [.int v] S := fun v S2 pc ls hq hd => by obtain ⟨rfl, rfl⟩ := hq; exact hret.1 pc ls v rfl rfl hd
  have hk : r = r ∧ S1 = S1 := ⟨rfl, rfl⟩
  unfold J6_bitCount_0f7a4 at h
  refine x_iload_n hF dJ6_bitCount_0f7a4_0 rfl rfl ?_
  refine x_iload_n hF dJ6_bitCount_0f7a4_1 rfl rfl ?_
  refine x_iconst (v := (1 : Int32)) hF dJ6_bitCount_0f7a4_2 (by decide) ?_
  refine x_iushr hF dJ6_bitCount_0f7a4_3 ?_
  refine x_ldc_w (v := (1431655765 : Int32)) hF dJ6_bitCount_0f7a4_4 tw_873 ?_
  refine x_iand hF dJ6_bitCount_0f7a4_7 ?_
  refine x_isub hF dJ6_bitCount_0f7a4_8 ?_
  refine x_istore_n [(0, _)] hF hN dJ6_bitCount_0f7a4_9 rfl (by decide) rfl ?_
  refine x_iload_n hF dJ6_bitCount_0f7a4_10 rfl rfl ?_
  refine x_ldc_w (v := (858993459 : Int32)) hF dJ6_bitCount_0f7a4_11 tw_874 ?_
  refine x_iand hF dJ6_bitCount_0f7a4_14 ?_
  refine x_iload_n hF dJ6_bitCount_0f7a4_15 rfl rfl ?_
  refine x_iconst (v := (2 : Int32)) hF dJ6_bitCount_0f7a4_16 (by decide) ?_
  refine x_iushr hF dJ6_bitCount_0f7a4_17 ?_
  refine x_ldc_w (v := (858993459 : Int32)) hF dJ6_bitCount_0f7a4_18 tw_874 ?_
  refine x_iand hF dJ6_bitCount_0f7a4_21 ?_
  refine x_iadd hF dJ6_bitCount_0f7a4_22 ?_
  refine x_istore_n [(0, _)] hF hN dJ6_bitCount_0f7a4_23 rfl (by decide) rfl ?_
  refine x_iload_n hF dJ6_bitCount_0f7a4_24 rfl rfl ?_
  refine x_iload_n hF dJ6_bitCount_0f7a4_25 rfl rfl ?_
  refine x_iconst (v := (4 : Int32)) hF dJ6_bitCount_0f7a4_26 (by decide) ?_
  refine x_iushr hF dJ6_bitCount_0f7a4_27 ?_
  refine x_iadd hF dJ6_bitCount_0f7a4_28 ?_
  refine x_ldc_w (v := (252645135 : Int32)) hF dJ6_bitCount_0f7a4_29 tw_875 ?_
  refine x_iand hF dJ6_bitCount_0f7a4_32 ?_
  refine x_istore_n [(0, _)] hF hN dJ6_bitCount_0f7a4_33 rfl (by decide) rfl ?_
  refine x_iload_n hF dJ6_bitCount_0f7a4_34 rfl rfl ?_
  refine x_iload_n hF dJ6_bitCount_0f7a4_35 rfl rfl ?_
  refine x_bipush (v := (8 : Int32)) hF dJ6_bitCount_0f7a4_36 (by decide) ?_
  refine x_iushr hF dJ6_bitCount_0f7a4_38 ?_
  refine x_iadd hF dJ6_bitCount_0f7a4_39 ?_
  refine x_istore_n [(0, _)] hF hN dJ6_bitCount_0f7a4_40 rfl (by decide) rfl ?_
  refine x_iload_n hF dJ6_bitCount_0f7a4_41 rfl rfl ?_
  refine x_iload_n hF dJ6_bitCount_0f7a4_42 rfl rfl ?_
  refine x_bipush (v := (16 : Int32)) hF dJ6_bitCount_0f7a4_43 (by decide) ?_
  refine x_iushr hF dJ6_bitCount_0f7a4_45 ?_
  refine x_iadd hF dJ6_bitCount_0f7a4_46 ?_
  refine x_istore_n [(0, _)] hF hN dJ6_bitCount_0f7a4_47 rfl (by decide) rfl ?_
  refine x_iload_n hF dJ6_bitCount_0f7a4_48 rfl rfl ?_
  refine x_bipush (v := (63 : Int32)) hF dJ6_bitCount_0f7a4_49 (by decide) ?_
  refine x_iand hF dJ6_bitCount_0f7a4_51 ?_
  obtain ⟨rfl, rfl⟩ := sm h
  exact hret _ _ _ _ hk dJ6_bitCount_0f7a4_52
noncomputable def X7_contributionTo (x1 : Int32) (x2 : Int32) (S : St) : Option (Int32 × St) :=
  og (inb (x1 ||| ((1 : Int32) <<< (x2 &&& 31))) 64) (og (inb x1 64) (some (((gi S 72 (ix (x1 ||| ((1 : Int32) <<< (x2 &&& 31))))) - (gi S 72 (ix x1))), S)))
set_option maxHeartbeats 4000000 in
set_option maxRecDepth 20000 in
theorem ctX7_contributionTo {l : Launch} {G : Ga} {x1 : Int32} {x2 : Int32} (hl : l.stackTraces = false) {S : St} {r : Int32} {S1 : St} (h : X7_contributionTo x1 x2 S = some (r, S1)) : CT l G 0 yX7_contributionTo cX7_contributionTo 3 (some .int) [.ref (G.1 0), .int x1, .int x2] S (some (.int r)) S1 := by
  refine ct_of hl (by decide) (Nat.le_of_ble_eq_true rfl) (fun F hFl hFG hF hN hR hret => ?_)
  subst hFl hFG
  show X F 0 0 [(0, .ref (gA F 0)), (1, .int x1), (2, .int x2)] [] S
  have hret : ∀ (v : Int32) (S : St) (pc : Nat) (ls : List (Nat × Value)), (v = r ∧ S = S1) → decode cX7_contributionTo pc = .ok (.ireturn, 1) → X F 0 pc ls [.int v] S := fun v S2 pc ls hq hd => by obtain ⟨rfl, rfl⟩ := hq; exact hret.1 pc ls v rfl rfl hd
  have hk : r = r ∧ S1 = S1 := ⟨rfl, rfl⟩
  unfold X7_contributionTo at h
  refine x_aload_n hF dX7_contributionTo_0 rfl rfl ?_
  refine x_getr hF sh0 5 rfl ck6 (by decide) (by decide) tw_297 rfl dX7_contributionTo_1 ?_
  refine x_iload_n hF dX7_contributionTo_4 rfl rfl ?_
  refine x_iconst (v := (1 : Int32)) hF dX7_contributionTo_5 (by decide) ?_
  refine x_iload_n hF dX7_contributionTo_6 rfl rfl ?_
  refine x_ishl hF dX7_contributionTo_7 ?_
  refine x_ior hF dX7_contributionTo_8 ?_
  obtain ⟨hg, h⟩ := og_some h
  refine x_iald hF sh72 (by decide) hg rfl dX7_contributionTo_9 ?_
  refine x_aload_n hF dX7_contributionTo_10 rfl rfl ?_
  refine x_getr hF sh0 5 rfl ck6 (by decide) (by decide) tw_297 rfl dX7_contributionTo_11 ?_
  refine x_iload_n hF dX7_contributionTo_14 rfl rfl ?_
  obtain ⟨hg, h⟩ := og_some h
  refine x_iald hF sh72 (by decide) hg rfl dX7_contributionTo_15 ?_
  refine x_isub hF dX7_contributionTo_16 ?_
  obtain ⟨rfl, rfl⟩ := sm h
  exact hret _ _ _ _ hk dX7_contributionTo_17
noncomputable def X7_sumOverOrders_4 (x1 : Int32) (x2 : Int32) (x3 : Int32) (S : St) : Option (((Int32 × Int32) ⊕ Int32) × St) :=
  oi ((64 : Int32) ≤ x3) (some (.inr x2, S)) (ob (X7_contains x3 x1 S) (fun r1 S2 => oi (r1 = 0) (ob (J6_bitCount_0f7a4 x3 S2) (fun r3 S4 => og (inb r3 6) (ob (X7_contributionTo x3 x1 S4) (fun r5 S6 => some (.inl ((x2 + ((ordF (ix r3)) * r5)), (x3 + (1 : Int32))), S6))))) (some (.inl (x2, (x3 + (1 : Int32))), S2))))
set_option maxHeartbeats 4000000 in
set_option maxRecDepth 20000 in
theorem xX7_sumOverOrders_4 {F : Cx} (hF : Ok F cX7_sumOverOrders RX7) (hN : nLF F 4) (hR : RmF F 1 0) {x1 : Int32} {x2 : Int32} {x3 : Int32} {K : ((Int32 × Int32) ⊕ Int32) → St → Prop} (hag : ∀ (a : Int32 × Int32) (S : St), K (.inl a) S → X F 0 4 [(0, .ref (gA F 0)), (1, .int x1), (2, .int a.1), (3, .int a.2)] [] S) (hex42 : ∀ (q : Int32) (S : St), K (.inr q) S → X F 0 42 [(2, .int q)] [] S) {S : St} {r : (Int32 × Int32) ⊕ Int32} {S1 : St} (h : X7_sumOverOrders_4 x1 x2 x3 S = some (r, S1)) (hk : K r S1) : X F 0 4 [(0, .ref (gA F 0)), (1, .int x1), (2, .int x2), (3, .int x3)] [] S := by
  unfold X7_sumOverOrders_4 at h
  refine x_iload_n hF dX7_sumOverOrders_4 rfl rfl ?_
  refine x_bipush (v := (64 : Int32)) hF dX7_sumOverOrders_5 (by decide) ?_
  refine x_icmp_ge (tgt := 42) hF dX7_sumOverOrders_7 (by decide) (fun hc => ?_) (fun hc => ?_)
  · have h := oi_pos hc h
    obtain ⟨rfl, rfl⟩ := sm h
    exact x_sub (hex42 _ _ hk) ⟨rfl, trivial⟩
  · have h := oi_neg hc h
    refine x_iload_n hF dX7_sumOverOrders_10 rfl rfl ?_
    refine x_iload_n hF dX7_sumOverOrders_11 rfl rfl ?_
    obtain ⟨r1, S2, hcall, h⟩ := ob_some h
    refine x_cSi hF hN hR (ctX7_contains hF.tr hcall) mwX7_contains tw_376 tw_851 ⟨by decide, by decide⟩ rfl rfl (Nat.le_of_ble_eq_true rfl) dX7_sumOverOrders_12 ?_
    refine x_if_ne (tgt := 36) hF dX7_sumOverOrders_15 (by decide) (fun hc => ?_) (fun hc => ?_)
    · have h := oi_neg hc h
      refine x_iinc [(3, _), (0, _), (1, _), (2, _)] (v := (1 : Int32)) hF hN dX7_sumOverOrders_36 rfl (by decide) (by decide) rfl ?_
      refine x_goto (tgt := 4) hF dX7_sumOverOrders_39 (by decide) ?_
      obtain ⟨rfl, rfl⟩ := sm h
      exact x_sub (hag _ _ hk) ⟨rfl, rfl, rfl, rfl, trivial⟩
    · have h := oi_pos hc h
      refine x_iload_n hF dX7_sumOverOrders_18 rfl rfl ?_
      refine x_gets (v := .ref (gS F 2)) hF (List.mem_of_getElem? (i := 2) rfl) tw_868 dX7_sumOverOrders_19 ?_
      refine x_iload_n hF dX7_sumOverOrders_22 rfl rfl ?_
      obtain ⟨r3, S4, hcall, h⟩ := ob_some h
      refine x_cSi hF hN hR (ctJ6_bitCount_0f7a4 hF.tr hcall) mwJ6_bitCount_0f7a4 tw_871 tw_870 ⟨by decide, by decide⟩ rfl rfl (Nat.le_of_ble_eq_true rfl) dX7_sumOverOrders_23 ?_
      obtain ⟨hg, h⟩ := og_some h
      refine x_ialdS hF (List.mem_of_getElem? (i := 2) rfl) hg dX7_sumOverOrders_26 ?_
      refine x_aload_n hF dX7_sumOverOrders_27 rfl rfl ?_
      refine x_iload_n hF dX7_sumOverOrders_28 rfl rfl ?_
      refine x_iload_n hF dX7_sumOverOrders_29 rfl rfl ?_
      obtain ⟨r5, S6, hcall, h⟩ := ob_some h
      refine x_cVi hF hN hR (ctX7_contributionTo hF.tr hcall) mwX7_contributionTo miX7_contributionTo sh0 ck6 (by decide) tw_876 ⟨by decide, by decide⟩ rfl rfl (Nat.le_of_ble_eq_true rfl) dX7_sumOverOrders_30 ?_
      refine x_imul hF dX7_sumOverOrders_33 ?_
      refine x_iadd hF dX7_sumOverOrders_34 ?_
      refine x_istore_n [(2, _), (0, _), (1, _), (3, _)] hF hN dX7_sumOverOrders_35 rfl (by decide) rfl ?_
      refine x_iinc [(3, _), (2, _), (0, _), (1, _)] (v := (1 : Int32)) hF hN dX7_sumOverOrders_36 rfl (by decide) (by decide) rfl ?_
      refine x_goto (tgt := 4) hF dX7_sumOverOrders_39 (by decide) ?_
      obtain ⟨rfl, rfl⟩ := sm h
      exact x_sub (hag _ _ hk) ⟨rfl, rfl, rfl, rfl, trivial⟩
noncomputable def X7_sumOverOrders_4L (x1 : Int32) (a : Int32 × Int32) (S : St) : Option (Int32 × St) :=
  lp (fun (a : Int32 × Int32) (S : St) => X7_sumOverOrders_4 x1 a.1 a.2 S) a S
theorem xX7_sumOverOrders_4L {F : Cx} (hF : Ok F cX7_sumOverOrders RX7) (hN : nLF F 4) (hR : RmF F 1 0) {x1 : Int32} {K : Int32 → St → Prop} (hex42 : ∀ (q : Int32) (S : St), K (q) S → X F 0 42 [(2, .int q)] [] S) {a : Int32 × Int32} {S : St} {b : Int32} {S1 : St} (h : X7_sumOverOrders_4L x1 a S = some (b, S1)) (hk : K b S1) : X F 0 4 [(0, .ref (gA F 0)), (1, .int x1), (2, .int a.1), (3, .int a.2)] [] S := by
  unfold X7_sumOverOrders_4L at h
  exact lp_rule (Xh := fun (a : Int32 × Int32) (S : St) => X F 0 4 [(0, .ref (gA F 0)), (1, .int x1), (2, .int a.1), (3, .int a.2)] [] S) (K := K) (fun a S r S1 h hk => xX7_sumOverOrders_4 hF hN hR (K := fun r S => match r with | .inl a => X F 0 4 [(0, .ref (gA F 0)), (1, .int x1), (2, .int a.1), (3, .int a.2)] [] S | .inr b => K b S) (fun _ _ h => h) (fun q S h => hex42 q S h) h (by cases r <;> exact hk)) h hk
noncomputable def X7_sumOverOrders (x1 : Int32) (S : St) : Option (Int32 × St) :=
  ob (X7_sumOverOrders_4L x1 ((0 : Int32), (0 : Int32)) S) (fun b7 S8 => some (b7, S8))
set_option maxHeartbeats 4000000 in
set_option maxRecDepth 20000 in
theorem ctX7_sumOverOrders {l : Launch} {G : Ga} {x1 : Int32} (hl : l.stackTraces = false) {S : St} {r : Int32} {S1 : St} (h : X7_sumOverOrders x1 S = some (r, S1)) : CT l G 1 yX7_sumOverOrders cX7_sumOverOrders 4 (some .int) [.ref (G.1 0), .int x1] S (some (.int r)) S1 := by
  refine ct_of hl (by decide) (Nat.le_of_ble_eq_true rfl) (fun F hFl hFG hF hN hR hret => ?_)
  subst hFl hFG
  show X F 0 0 [(0, .ref (gA F 0)), (1, .int x1)] [] S
  have hret : ∀ (v : Int32) (S : St) (pc : Nat) (ls : List (Nat × Value)), (v = r ∧ S = S1) → decode cX7_sumOverOrders pc = .ok (.ireturn, 1) → X F 0 pc ls [.int v] S := fun v S2 pc ls hq hd => by obtain ⟨rfl, rfl⟩ := hq; exact hret.1 pc ls v rfl rfl hd
  have hk : r = r ∧ S1 = S1 := ⟨rfl, rfl⟩
  unfold X7_sumOverOrders at h
  refine x_iconst (v := (0 : Int32)) hF dX7_sumOverOrders_0 (by decide) ?_
  refine x_istore_n [(2, _), (0, _), (1, _)] hF hN dX7_sumOverOrders_1 rfl (by decide) rfl ?_
  refine x_iconst (v := (0 : Int32)) hF dX7_sumOverOrders_2 (by decide) ?_
  refine x_istore_n [(3, _), (2, _), (0, _), (1, _)] hF hN dX7_sumOverOrders_3 rfl (by decide) rfl ?_
  obtain ⟨b7, S8, hlb7, h⟩ := ob_some h
  refine x_sub (xX7_sumOverOrders_4L hF hN hR (K := fun bb SS => bb = b7 ∧ SS = S8) ?_ hlb7 ⟨rfl, rfl⟩) ⟨rfl, rfl, rfl, rfl, trivial⟩
  rintro _ _ ⟨rfl, rfl⟩
  refine x_iload_n hF dX7_sumOverOrders_42 rfl rfl ?_
  obtain ⟨rfl, rfl⟩ := sm h
  exact hret _ _ _ _ hk dX7_sumOverOrders_43
noncomputable def X7_blame (x1 : Int32) (x2 : Int32) (S : St) : Option ((Int32 ⊕ Nat) × St) :=
  obx (X7_requireFlow x1 S) (fun r1 S2 => obx (X7_requirePart x2 S2) (fun r3 S4 => ob (X7_fillWorths (-1 : Int32) S4) (fun r5 S6 => ob (X7_sumOverOrders x1 S6) (fun r7 S8 => ob (X7_partOfFraction r7 (720 : Int32) x2 S8) (fun r9 S10 => some (.inl r9, S10))))))
set_option maxHeartbeats 4000000 in
set_option maxRecDepth 20000 in
theorem cxX7_blame {l : Launch} {G : Ga} {x1 : Int32} {x2 : Int32} (hl : l.stackTraces = false) {S : St} {r : (Int32 ⊕ Nat)} {S1 : St} (h : X7_blame x1 x2 S = some (r, S1)) : CX l G 7 2 yX7_blame cX7_blame 3 (some .int) [.ref (G.1 0), .int x1, .int x2] S (rvI r) S1 := by
  refine cx_of hl (by decide) rfl (by decide) (Nat.le_of_ble_eq_true rfl) (fun F hFl hFG hF hN hR hret => ?_)
  subst hFl hFG
  show X F 0 0 [(0, .ref (gA F 0)), (1, .int x1), (2, .int x2)] [] S
  have hxt : ∀ (e : Nat) (S : St) (u pc : Nat) (ls : List (Nat × Value)), u ≤ 2 → (.inr e = r ∧ S = S1) → XT F u pc e ls S := fun e S2 u pc ls hu hq => by obtain ⟨rfl, rfl⟩ := hq; exact hret.2.2.1 u pc e ls hu rfl
  have hthr : ∀ {e : Nat} {S : St} {u pc ik is j : Nat} {tx : String} {ls : List (Nat × Value)} {st : List Value}, u + 1 ≤ 2 → e < 3 → (st.map fun v => v.category).sum ≤ 8 → (.inr e = r ∧ S = S1) → Thr cX7_blame pc e ik is j tx ∨ ThrW cX7_blame pc e ik is j tx → X F u pc ls st S := fun {e S2 u pc ik is j tx ls st} hu he hs hq hT => by obtain ⟨rfl, rfl⟩ := hq; exact hret.2.2.2 u pc e ik is j tx ls st hu he hs rfl hT
  have hret : ∀ (v : Int32) (S : St) (u pc : Nat) (ls : List (Nat × Value)), u ≤ 2 → (.inl v = r ∧ S = S1) → decode cX7_blame pc = .ok (.ireturn, 1) → X F u pc ls [.int v] S := fun v S2 u pc ls hu hq hd => by obtain ⟨rfl, rfl⟩ := hq; exact hret.1 u pc ls v hu rfl rfl hd
  have hk : r = r ∧ S1 = S1 := ⟨rfl, rfl⟩
  unfold X7_blame at h
  refine x_iload_n hF dX7_blame_0 rfl rfl ?_
  rcases obx_some h with ⟨r1, S2, hcall, h⟩ | ⟨r1, hcall, h⟩
  · refine x_xSv hF hN hR (cxX7_requireFlow hF.tr hcall) mwX7_requireFlow tw_589 tw_588 ⟨by decide, by decide⟩ rfl rfl (Nat.le_of_ble_eq_true rfl) dX7_blame_1 ?_
    refine x_iload_n hF dX7_blame_4 rfl rfl ?_
    rcases obx_some h with ⟨r3, S4, hcall, h⟩ | ⟨r3, hcall, h⟩
    · refine x_xSv hF hN hR (cxX7_requirePart hF.tr hcall) mwX7_requirePart tw_861 tw_860 ⟨by decide, by decide⟩ rfl rfl (Nat.le_of_ble_eq_true rfl) dX7_blame_5 ?_
      refine x_aload_n hF dX7_blame_8 rfl rfl ?_
      refine x_iconst (v := (-1 : Int32)) hF dX7_blame_9 (by decide) ?_
      obtain ⟨r5, S6, hcall, h⟩ := ob_some h
      refine x_cVv hF hN hR (ctX7_fillWorths hF.tr hcall) mwX7_fillWorths miX7_fillWorths sh0 ck6 (by decide) tw_564 ⟨by decide, by decide⟩ rfl rfl (Nat.le_of_ble_eq_true rfl) dX7_blame_10 ?_
      refine x_aload_n hF dX7_blame_13 rfl rfl ?_
      refine x_iload_n hF dX7_blame_14 rfl rfl ?_
      obtain ⟨r7, S8, hcall, h⟩ := ob_some h
      refine x_cVi hF hN hR (ctX7_sumOverOrders hF.tr hcall) mwX7_sumOverOrders miX7_sumOverOrders sh0 ck6 (by decide) tw_864 ⟨by decide, by decide⟩ rfl rfl (Nat.le_of_ble_eq_true rfl) dX7_blame_15 ?_
      refine x_sipush (v := (720 : Int32)) hF dX7_blame_18 (by decide) ?_
      refine x_iload_n hF dX7_blame_21 rfl rfl ?_
      obtain ⟨r9, S10, hcall, h⟩ := ob_some h
      refine x_cSi hF hN hR (ctX7_partOfFraction hF.tr hcall) mwX7_partOfFraction tw_881 tw_880 ⟨by decide, by decide⟩ rfl rfl (Nat.le_of_ble_eq_true rfl) dX7_blame_22 ?_
      obtain ⟨rfl, rfl⟩ := sm h
      exact hret _ _ _ _ _ (by decide) hk dX7_blame_25
    · subst h
      exact x_xSt hF hN hR (cxX7_requirePart hF.tr hcall) mwX7_requirePart tw_861 tw_860 ⟨by decide, by decide⟩ rfl rfl (Nat.le_of_ble_eq_true rfl) dX7_blame_5 (hxt _ _ _ _ _ (by decide) hk)
  · subst h
    exact x_xSt hF hN hR (cxX7_requireFlow hF.tr hcall) mwX7_requireFlow tw_589 tw_588 ⟨by decide, by decide⟩ rfl rfl (Nat.le_of_ble_eq_true rfl) dX7_blame_1 (hxt _ _ _ _ _ (by decide) hk)
noncomputable def X7_blameFor (x1 : Int32) (x2 : Int32) (x3 : Int32) (S : St) : Option ((Int32 ⊕ Nat) × St) :=
  obx (X7_requireFlow x1 S) (fun r1 S2 => obx (X7_requireFlow x2 S2) (fun r3 S4 => obx (X7_requirePart x3 S4) (fun r5 S6 => ob (X7_fillWorths x2 S6) (fun r7 S8 => ob (X7_sumOverOrders x1 S8) (fun r9 S10 => ob (X7_partOfFraction r9 (720 : Int32) x3 S10) (fun r11 S12 => some (.inl r11, S12)))))))
set_option maxHeartbeats 4000000 in
set_option maxRecDepth 20000 in
theorem cxX7_blameFor {l : Launch} {G : Ga} {x1 : Int32} {x2 : Int32} {x3 : Int32} (hl : l.stackTraces = false) {S : St} {r : (Int32 ⊕ Nat)} {S1 : St} (h : X7_blameFor x1 x2 x3 S = some (r, S1)) : CX l G 7 3 yX7_blameFor cX7_blameFor 4 (some .int) [.ref (G.1 0), .int x1, .int x2, .int x3] S (rvI r) S1 := by
  refine cx_of hl (by decide) rfl (by decide) (Nat.le_of_ble_eq_true rfl) (fun F hFl hFG hF hN hR hret => ?_)
  subst hFl hFG
  show X F 0 0 [(0, .ref (gA F 0)), (1, .int x1), (2, .int x2), (3, .int x3)] [] S
  have hxt : ∀ (e : Nat) (S : St) (u pc : Nat) (ls : List (Nat × Value)), u ≤ 3 → (.inr e = r ∧ S = S1) → XT F u pc e ls S := fun e S2 u pc ls hu hq => by obtain ⟨rfl, rfl⟩ := hq; exact hret.2.2.1 u pc e ls hu rfl
  have hthr : ∀ {e : Nat} {S : St} {u pc ik is j : Nat} {tx : String} {ls : List (Nat × Value)} {st : List Value}, u + 1 ≤ 3 → e < 3 → (st.map fun v => v.category).sum ≤ 8 → (.inr e = r ∧ S = S1) → Thr cX7_blameFor pc e ik is j tx ∨ ThrW cX7_blameFor pc e ik is j tx → X F u pc ls st S := fun {e S2 u pc ik is j tx ls st} hu he hs hq hT => by obtain ⟨rfl, rfl⟩ := hq; exact hret.2.2.2 u pc e ik is j tx ls st hu he hs rfl hT
  have hret : ∀ (v : Int32) (S : St) (u pc : Nat) (ls : List (Nat × Value)), u ≤ 3 → (.inl v = r ∧ S = S1) → decode cX7_blameFor pc = .ok (.ireturn, 1) → X F u pc ls [.int v] S := fun v S2 u pc ls hu hq hd => by obtain ⟨rfl, rfl⟩ := hq; exact hret.1 u pc ls v hu rfl rfl hd
  have hk : r = r ∧ S1 = S1 := ⟨rfl, rfl⟩
  unfold X7_blameFor at h
  refine x_iload_n hF dX7_blameFor_0 rfl rfl ?_
  rcases obx_some h with ⟨r1, S2, hcall, h⟩ | ⟨r1, hcall, h⟩
  · refine x_xSv hF hN hR (cxX7_requireFlow hF.tr hcall) mwX7_requireFlow tw_589 tw_588 ⟨by decide, by decide⟩ rfl rfl (Nat.le_of_ble_eq_true rfl) dX7_blameFor_1 ?_
    refine x_iload_n hF dX7_blameFor_4 rfl rfl ?_
    rcases obx_some h with ⟨r3, S4, hcall, h⟩ | ⟨r3, hcall, h⟩
    · refine x_xSv hF hN hR (cxX7_requireFlow hF.tr hcall) mwX7_requireFlow tw_589 tw_588 ⟨by decide, by decide⟩ rfl rfl (Nat.le_of_ble_eq_true rfl) dX7_blameFor_5 ?_
      refine x_iload_n hF dX7_blameFor_8 rfl rfl ?_
      rcases obx_some h with ⟨r5, S6, hcall, h⟩ | ⟨r5, hcall, h⟩
      · refine x_xSv hF hN hR (cxX7_requirePart hF.tr hcall) mwX7_requirePart tw_861 tw_860 ⟨by decide, by decide⟩ rfl rfl (Nat.le_of_ble_eq_true rfl) dX7_blameFor_9 ?_
        refine x_aload_n hF dX7_blameFor_12 rfl rfl ?_
        refine x_iload_n hF dX7_blameFor_13 rfl rfl ?_
        obtain ⟨r7, S8, hcall, h⟩ := ob_some h
        refine x_cVv hF hN hR (ctX7_fillWorths hF.tr hcall) mwX7_fillWorths miX7_fillWorths sh0 ck6 (by decide) tw_564 ⟨by decide, by decide⟩ rfl rfl (Nat.le_of_ble_eq_true rfl) dX7_blameFor_14 ?_
        refine x_aload_n hF dX7_blameFor_17 rfl rfl ?_
        refine x_iload_n hF dX7_blameFor_18 rfl rfl ?_
        obtain ⟨r9, S10, hcall, h⟩ := ob_some h
        refine x_cVi hF hN hR (ctX7_sumOverOrders hF.tr hcall) mwX7_sumOverOrders miX7_sumOverOrders sh0 ck6 (by decide) tw_864 ⟨by decide, by decide⟩ rfl rfl (Nat.le_of_ble_eq_true rfl) dX7_blameFor_19 ?_
        refine x_sipush (v := (720 : Int32)) hF dX7_blameFor_22 (by decide) ?_
        refine x_iload_n hF dX7_blameFor_25 rfl rfl ?_
        obtain ⟨r11, S12, hcall, h⟩ := ob_some h
        refine x_cSi hF hN hR (ctX7_partOfFraction hF.tr hcall) mwX7_partOfFraction tw_881 tw_880 ⟨by decide, by decide⟩ rfl rfl (Nat.le_of_ble_eq_true rfl) dX7_blameFor_26 ?_
        obtain ⟨rfl, rfl⟩ := sm h
        exact hret _ _ _ _ _ (by decide) hk dX7_blameFor_29
      · subst h
        exact x_xSt hF hN hR (cxX7_requirePart hF.tr hcall) mwX7_requirePart tw_861 tw_860 ⟨by decide, by decide⟩ rfl rfl (Nat.le_of_ble_eq_true rfl) dX7_blameFor_9 (hxt _ _ _ _ _ (by decide) hk)
    · subst h
      exact x_xSt hF hN hR (cxX7_requireFlow hF.tr hcall) mwX7_requireFlow tw_589 tw_588 ⟨by decide, by decide⟩ rfl rfl (Nat.le_of_ble_eq_true rfl) dX7_blameFor_5 (hxt _ _ _ _ _ (by decide) hk)
  · subst h
    exact x_xSt hF hN hR (cxX7_requireFlow hF.tr hcall) mwX7_requireFlow tw_589 tw_588 ⟨by decide, by decide⟩ rfl rfl (Nat.le_of_ble_eq_true rfl) dX7_blameFor_1 (hxt _ _ _ _ _ (by decide) hk)
noncomputable def X7_sumOverSets_4 (x1 : Int32) (x2 : Int32) (x3 : Int32) (S : St) : Option (((Int32 × Int32) ⊕ Int32) × St) :=
  oi ((64 : Int32) ≤ x3) (some (.inr x2, S)) (ob (X7_contains x3 x1 S) (fun r1 S2 => oi (r1 = 0) (ob (X7_contributionTo x3 x1 S2) (fun r3 S4 => some (.inl ((x2 + r3), (x3 + (1 : Int32))), S4))) (some (.inl (x2, (x3 + (1 : Int32))), S2))))
set_option maxHeartbeats 4000000 in
set_option maxRecDepth 20000 in
theorem xX7_sumOverSets_4 {F : Cx} (hF : Ok F cX7_sumOverSets RX7) (hN : nLF F 4) (hR : RmF F 1 0) {x1 : Int32} {x2 : Int32} {x3 : Int32} {K : ((Int32 × Int32) ⊕ Int32) → St → Prop} (hag : ∀ (a : Int32 × Int32) (S : St), K (.inl a) S → X F 0 4 [(0, .ref (gA F 0)), (1, .int x1), (2, .int a.1), (3, .int a.2)] [] S) (hex33 : ∀ (q : Int32) (S : St), K (.inr q) S → X F 0 33 [(2, .int q)] [] S) {S : St} {r : (Int32 × Int32) ⊕ Int32} {S1 : St} (h : X7_sumOverSets_4 x1 x2 x3 S = some (r, S1)) (hk : K r S1) : X F 0 4 [(0, .ref (gA F 0)), (1, .int x1), (2, .int x2), (3, .int x3)] [] S := by
  unfold X7_sumOverSets_4 at h
  refine x_iload_n hF dX7_sumOverSets_4 rfl rfl ?_
  refine x_bipush (v := (64 : Int32)) hF dX7_sumOverSets_5 (by decide) ?_
  refine x_icmp_ge (tgt := 33) hF dX7_sumOverSets_7 (by decide) (fun hc => ?_) (fun hc => ?_)
  · have h := oi_pos hc h
    obtain ⟨rfl, rfl⟩ := sm h
    exact x_sub (hex33 _ _ hk) ⟨rfl, trivial⟩
  · have h := oi_neg hc h
    refine x_iload_n hF dX7_sumOverSets_10 rfl rfl ?_
    refine x_iload_n hF dX7_sumOverSets_11 rfl rfl ?_
    obtain ⟨r1, S2, hcall, h⟩ := ob_some h
    refine x_cSi hF hN hR (ctX7_contains hF.tr hcall) mwX7_contains tw_376 tw_851 ⟨by decide, by decide⟩ rfl rfl (Nat.le_of_ble_eq_true rfl) dX7_sumOverSets_12 ?_
    refine x_if_ne (tgt := 27) hF dX7_sumOverSets_15 (by decide) (fun hc => ?_) (fun hc => ?_)
    · have h := oi_neg hc h
      refine x_iinc [(3, _), (0, _), (1, _), (2, _)] (v := (1 : Int32)) hF hN dX7_sumOverSets_27 rfl (by decide) (by decide) rfl ?_
      refine x_goto (tgt := 4) hF dX7_sumOverSets_30 (by decide) ?_
      obtain ⟨rfl, rfl⟩ := sm h
      exact x_sub (hag _ _ hk) ⟨rfl, rfl, rfl, rfl, trivial⟩
    · have h := oi_pos hc h
      refine x_iload_n hF dX7_sumOverSets_18 rfl rfl ?_
      refine x_aload_n hF dX7_sumOverSets_19 rfl rfl ?_
      refine x_iload_n hF dX7_sumOverSets_20 rfl rfl ?_
      refine x_iload_n hF dX7_sumOverSets_21 rfl rfl ?_
      obtain ⟨r3, S4, hcall, h⟩ := ob_some h
      refine x_cVi hF hN hR (ctX7_contributionTo hF.tr hcall) mwX7_contributionTo miX7_contributionTo sh0 ck6 (by decide) tw_876 ⟨by decide, by decide⟩ rfl rfl (Nat.le_of_ble_eq_true rfl) dX7_sumOverSets_22 ?_
      refine x_iadd hF dX7_sumOverSets_25 ?_
      refine x_istore_n [(2, _), (0, _), (1, _), (3, _)] hF hN dX7_sumOverSets_26 rfl (by decide) rfl ?_
      refine x_iinc [(3, _), (2, _), (0, _), (1, _)] (v := (1 : Int32)) hF hN dX7_sumOverSets_27 rfl (by decide) (by decide) rfl ?_
      refine x_goto (tgt := 4) hF dX7_sumOverSets_30 (by decide) ?_
      obtain ⟨rfl, rfl⟩ := sm h
      exact x_sub (hag _ _ hk) ⟨rfl, rfl, rfl, rfl, trivial⟩
noncomputable def X7_sumOverSets_4L (x1 : Int32) (a : Int32 × Int32) (S : St) : Option (Int32 × St) :=
  lp (fun (a : Int32 × Int32) (S : St) => X7_sumOverSets_4 x1 a.1 a.2 S) a S
theorem xX7_sumOverSets_4L {F : Cx} (hF : Ok F cX7_sumOverSets RX7) (hN : nLF F 4) (hR : RmF F 1 0) {x1 : Int32} {K : Int32 → St → Prop} (hex33 : ∀ (q : Int32) (S : St), K (q) S → X F 0 33 [(2, .int q)] [] S) {a : Int32 × Int32} {S : St} {b : Int32} {S1 : St} (h : X7_sumOverSets_4L x1 a S = some (b, S1)) (hk : K b S1) : X F 0 4 [(0, .ref (gA F 0)), (1, .int x1), (2, .int a.1), (3, .int a.2)] [] S := by
  unfold X7_sumOverSets_4L at h
  exact lp_rule (Xh := fun (a : Int32 × Int32) (S : St) => X F 0 4 [(0, .ref (gA F 0)), (1, .int x1), (2, .int a.1), (3, .int a.2)] [] S) (K := K) (fun a S r S1 h hk => xX7_sumOverSets_4 hF hN hR (K := fun r S => match r with | .inl a => X F 0 4 [(0, .ref (gA F 0)), (1, .int x1), (2, .int a.1), (3, .int a.2)] [] S | .inr b => K b S) (fun _ _ h => h) (fun q S h => hex33 q S h) h (by cases r <;> exact hk)) h hk
noncomputable def X7_sumOverSets (x1 : Int32) (S : St) : Option (Int32 × St) :=
  ob (X7_sumOverSets_4L x1 ((0 : Int32), (0 : Int32)) S) (fun b5 S6 => some (b5, S6))
set_option maxHeartbeats 4000000 in
set_option maxRecDepth 20000 in
theorem ctX7_sumOverSets {l : Launch} {G : Ga} {x1 : Int32} (hl : l.stackTraces = false) {S : St} {r : Int32} {S1 : St} (h : X7_sumOverSets x1 S = some (r, S1)) : CT l G 1 yX7_sumOverSets cX7_sumOverSets 4 (some .int) [.ref (G.1 0), .int x1] S (some (.int r)) S1 := by
  refine ct_of hl (by decide) (Nat.le_of_ble_eq_true rfl) (fun F hFl hFG hF hN hR hret => ?_)
  subst hFl hFG
  show X F 0 0 [(0, .ref (gA F 0)), (1, .int x1)] [] S
  have hret : ∀ (v : Int32) (S : St) (pc : Nat) (ls : List (Nat × Value)), (v = r ∧ S = S1) → decode cX7_sumOverSets pc = .ok (.ireturn, 1) → X F 0 pc ls [.int v] S := fun v S2 pc ls hq hd => by obtain ⟨rfl, rfl⟩ := hq; exact hret.1 pc ls v rfl rfl hd
  have hk : r = r ∧ S1 = S1 := ⟨rfl, rfl⟩
  unfold X7_sumOverSets at h
  refine x_iconst (v := (0 : Int32)) hF dX7_sumOverSets_0 (by decide) ?_
  refine x_istore_n [(2, _), (0, _), (1, _)] hF hN dX7_sumOverSets_1 rfl (by decide) rfl ?_
  refine x_iconst (v := (0 : Int32)) hF dX7_sumOverSets_2 (by decide) ?_
  refine x_istore_n [(3, _), (2, _), (0, _), (1, _)] hF hN dX7_sumOverSets_3 rfl (by decide) rfl ?_
  obtain ⟨b5, S6, hlb5, h⟩ := ob_some h
  refine x_sub (xX7_sumOverSets_4L hF hN hR (K := fun bb SS => bb = b5 ∧ SS = S6) ?_ hlb5 ⟨rfl, rfl⟩) ⟨rfl, rfl, rfl, rfl, trivial⟩
  rintro _ _ ⟨rfl, rfl⟩
  refine x_iload_n hF dX7_sumOverSets_33 rfl rfl ?_
  obtain ⟨rfl, rfl⟩ := sm h
  exact hret _ _ _ _ hk dX7_sumOverSets_34
noncomputable def X7_index (x1 : Int32) (x2 : Int32) (S : St) : Option ((Int32 ⊕ Nat) × St) :=
  obx (X7_requireFlow x1 S) (fun r1 S2 => obx (X7_requirePart x2 S2) (fun r3 S4 => ob (X7_fillWorths (-1 : Int32) S4) (fun r5 S6 => ob (X7_sumOverSets x1 S6) (fun r7 S8 => ob (X7_partOfFraction r7 (32 : Int32) x2 S8) (fun r9 S10 => some (.inl r9, S10))))))
set_option maxHeartbeats 4000000 in
set_option maxRecDepth 20000 in
theorem cxX7_index {l : Launch} {G : Ga} {x1 : Int32} {x2 : Int32} (hl : l.stackTraces = false) {S : St} {r : (Int32 ⊕ Nat)} {S1 : St} (h : X7_index x1 x2 S = some (r, S1)) : CX l G 7 2 yX7_index cX7_index 3 (some .int) [.ref (G.1 0), .int x1, .int x2] S (rvI r) S1 := by
  refine cx_of hl (by decide) rfl (by decide) (Nat.le_of_ble_eq_true rfl) (fun F hFl hFG hF hN hR hret => ?_)
  subst hFl hFG
  show X F 0 0 [(0, .ref (gA F 0)), (1, .int x1), (2, .int x2)] [] S
  have hxt : ∀ (e : Nat) (S : St) (u pc : Nat) (ls : List (Nat × Value)), u ≤ 2 → (.inr e = r ∧ S = S1) → XT F u pc e ls S := fun e S2 u pc ls hu hq => by obtain ⟨rfl, rfl⟩ := hq; exact hret.2.2.1 u pc e ls hu rfl
  have hthr : ∀ {e : Nat} {S : St} {u pc ik is j : Nat} {tx : String} {ls : List (Nat × Value)} {st : List Value}, u + 1 ≤ 2 → e < 3 → (st.map fun v => v.category).sum ≤ 8 → (.inr e = r ∧ S = S1) → Thr cX7_index pc e ik is j tx ∨ ThrW cX7_index pc e ik is j tx → X F u pc ls st S := fun {e S2 u pc ik is j tx ls st} hu he hs hq hT => by obtain ⟨rfl, rfl⟩ := hq; exact hret.2.2.2 u pc e ik is j tx ls st hu he hs rfl hT
  have hret : ∀ (v : Int32) (S : St) (u pc : Nat) (ls : List (Nat × Value)), u ≤ 2 → (.inl v = r ∧ S = S1) → decode cX7_index pc = .ok (.ireturn, 1) → X F u pc ls [.int v] S := fun v S2 u pc ls hu hq hd => by obtain ⟨rfl, rfl⟩ := hq; exact hret.1 u pc ls v hu rfl rfl hd
  have hk : r = r ∧ S1 = S1 := ⟨rfl, rfl⟩
  unfold X7_index at h
  refine x_iload_n hF dX7_index_0 rfl rfl ?_
  rcases obx_some h with ⟨r1, S2, hcall, h⟩ | ⟨r1, hcall, h⟩
  · refine x_xSv hF hN hR (cxX7_requireFlow hF.tr hcall) mwX7_requireFlow tw_589 tw_588 ⟨by decide, by decide⟩ rfl rfl (Nat.le_of_ble_eq_true rfl) dX7_index_1 ?_
    refine x_iload_n hF dX7_index_4 rfl rfl ?_
    rcases obx_some h with ⟨r3, S4, hcall, h⟩ | ⟨r3, hcall, h⟩
    · refine x_xSv hF hN hR (cxX7_requirePart hF.tr hcall) mwX7_requirePart tw_861 tw_860 ⟨by decide, by decide⟩ rfl rfl (Nat.le_of_ble_eq_true rfl) dX7_index_5 ?_
      refine x_aload_n hF dX7_index_8 rfl rfl ?_
      refine x_iconst (v := (-1 : Int32)) hF dX7_index_9 (by decide) ?_
      obtain ⟨r5, S6, hcall, h⟩ := ob_some h
      refine x_cVv hF hN hR (ctX7_fillWorths hF.tr hcall) mwX7_fillWorths miX7_fillWorths sh0 ck6 (by decide) tw_564 ⟨by decide, by decide⟩ rfl rfl (Nat.le_of_ble_eq_true rfl) dX7_index_10 ?_
      refine x_aload_n hF dX7_index_13 rfl rfl ?_
      refine x_iload_n hF dX7_index_14 rfl rfl ?_
      obtain ⟨r7, S8, hcall, h⟩ := ob_some h
      refine x_cVi hF hN hR (ctX7_sumOverSets hF.tr hcall) mwX7_sumOverSets miX7_sumOverSets sh0 ck6 (by decide) tw_904 ⟨by decide, by decide⟩ rfl rfl (Nat.le_of_ble_eq_true rfl) dX7_index_15 ?_
      refine x_bipush (v := (32 : Int32)) hF dX7_index_18 (by decide) ?_
      refine x_iload_n hF dX7_index_20 rfl rfl ?_
      obtain ⟨r9, S10, hcall, h⟩ := ob_some h
      refine x_cSi hF hN hR (ctX7_partOfFraction hF.tr hcall) mwX7_partOfFraction tw_881 tw_880 ⟨by decide, by decide⟩ rfl rfl (Nat.le_of_ble_eq_true rfl) dX7_index_21 ?_
      obtain ⟨rfl, rfl⟩ := sm h
      exact hret _ _ _ _ _ (by decide) hk dX7_index_24
    · subst h
      exact x_xSt hF hN hR (cxX7_requirePart hF.tr hcall) mwX7_requirePart tw_861 tw_860 ⟨by decide, by decide⟩ rfl rfl (Nat.le_of_ble_eq_true rfl) dX7_index_5 (hxt _ _ _ _ _ (by decide) hk)
  · subst h
    exact x_xSt hF hN hR (cxX7_requireFlow hF.tr hcall) mwX7_requireFlow tw_589 tw_588 ⟨by decide, by decide⟩ rfl rfl (Nat.le_of_ble_eq_true rfl) dX7_index_1 (hxt _ _ _ _ _ (by decide) hk)
noncomputable def X7_sumOfInteractions_5 (x1 : Int32) (x2 : Int32) (x3 : Int32) (x4 : Int32) (S : St) : Option (((Int32 × Int32) ⊕ Int32) × St) :=
  oi ((64 : Int32) ≤ x4) (some (.inr x3, S)) (ob (X7_contains x4 x1 S) (fun r1 S2 => oi (r1 = 0) (ob (X7_contains x4 x2 S2) (fun r3 S4 => oi (r3 = 0) (ob (X7_contributionTo (x4 ||| ((1 : Int32) <<< (x2 &&& 31))) x1 S4) (fun r5 S6 => ob (X7_contributionTo x4 x1 S6) (fun r7 S8 => some (.inl ((x3 + (r5 - r7)), (x4 + (1 : Int32))), S8)))) (some (.inl (x3, (x4 + (1 : Int32))), S4)))) (some (.inl (x3, (x4 + (1 : Int32))), S2))))
set_option maxHeartbeats 4000000 in
set_option maxRecDepth 20000 in
theorem xX7_sumOfInteractions_5 {F : Cx} (hF : Ok F cX7_sumOfInteractions RX7) (hN : nLF F 5) (hR : RmF F 1 0) {x1 : Int32} {x2 : Int32} {x3 : Int32} {x4 : Int32} {K : ((Int32 × Int32) ⊕ Int32) → St → Prop} (hag : ∀ (a : Int32 × Int32) (S : St), K (.inl a) S → X F 0 5 [(0, .ref (gA F 0)), (1, .int x1), (2, .int x2), (3, .int a.1), (4, .int a.2)] [] S) (hex58 : ∀ (q : Int32) (S : St), K (.inr q) S → X F 0 58 [(3, .int q)] [] S) {S : St} {r : (Int32 × Int32) ⊕ Int32} {S1 : St} (h : X7_sumOfInteractions_5 x1 x2 x3 x4 S = some (r, S1)) (hk : K r S1) : X F 0 5 [(0, .ref (gA F 0)), (1, .int x1), (2, .int x2), (3, .int x3), (4, .int x4)] [] S := by
  unfold X7_sumOfInteractions_5 at h
  refine x_iload hF dX7_sumOfInteractions_5 rfl ?_
  refine x_bipush (v := (64 : Int32)) hF dX7_sumOfInteractions_7 (by decide) ?_
  refine x_icmp_ge (tgt := 58) hF dX7_sumOfInteractions_9 (by decide) (fun hc => ?_) (fun hc => ?_)
  · have h := oi_pos hc h
    obtain ⟨rfl, rfl⟩ := sm h
    exact x_sub (hex58 _ _ hk) ⟨rfl, trivial⟩
  · have h := oi_neg hc h
    refine x_iload hF dX7_sumOfInteractions_12 rfl ?_
    refine x_iload_n hF dX7_sumOfInteractions_14 rfl rfl ?_
    obtain ⟨r1, S2, hcall, h⟩ := ob_some h
    refine x_cSi hF hN hR (ctX7_contains hF.tr hcall) mwX7_contains tw_376 tw_851 ⟨by decide, by decide⟩ rfl rfl (Nat.le_of_ble_eq_true rfl) dX7_sumOfInteractions_15 ?_
    refine x_if_ne (tgt := 52) hF dX7_sumOfInteractions_18 (by decide) (fun hc => ?_) (fun hc => ?_)
    · have h := oi_neg hc h
      refine x_iinc [(4, _), (0, _), (1, _), (2, _), (3, _)] (v := (1 : Int32)) hF hN dX7_sumOfInteractions_52 rfl (by decide) (by decide) rfl ?_
      refine x_goto (tgt := 5) hF dX7_sumOfInteractions_55 (by decide) ?_
      obtain ⟨rfl, rfl⟩ := sm h
      exact x_sub (hag _ _ hk) ⟨rfl, rfl, rfl, rfl, rfl, trivial⟩
    · have h := oi_pos hc h
      refine x_iload hF dX7_sumOfInteractions_21 rfl ?_
      refine x_iload_n hF dX7_sumOfInteractions_23 rfl rfl ?_
      obtain ⟨r3, S4, hcall, h⟩ := ob_some h
      refine x_cSi hF hN hR (ctX7_contains hF.tr hcall) mwX7_contains tw_376 tw_851 ⟨by decide, by decide⟩ rfl rfl (Nat.le_of_ble_eq_true rfl) dX7_sumOfInteractions_24 ?_
      refine x_if_ne (tgt := 52) hF dX7_sumOfInteractions_27 (by decide) (fun hc => ?_) (fun hc => ?_)
      · have h := oi_neg hc h
        refine x_iinc [(4, _), (0, _), (1, _), (2, _), (3, _)] (v := (1 : Int32)) hF hN dX7_sumOfInteractions_52 rfl (by decide) (by decide) rfl ?_
        refine x_goto (tgt := 5) hF dX7_sumOfInteractions_55 (by decide) ?_
        obtain ⟨rfl, rfl⟩ := sm h
        exact x_sub (hag _ _ hk) ⟨rfl, rfl, rfl, rfl, rfl, trivial⟩
      · have h := oi_pos hc h
        refine x_iload_n hF dX7_sumOfInteractions_30 rfl rfl ?_
        refine x_aload_n hF dX7_sumOfInteractions_31 rfl rfl ?_
        refine x_iload hF dX7_sumOfInteractions_32 rfl ?_
        refine x_iconst (v := (1 : Int32)) hF dX7_sumOfInteractions_34 (by decide) ?_
        refine x_iload_n hF dX7_sumOfInteractions_35 rfl rfl ?_
        refine x_ishl hF dX7_sumOfInteractions_36 ?_
        refine x_ior hF dX7_sumOfInteractions_37 ?_
        refine x_iload_n hF dX7_sumOfInteractions_38 rfl rfl ?_
        obtain ⟨r5, S6, hcall, h⟩ := ob_some h
        refine x_cVi hF hN hR (ctX7_contributionTo hF.tr hcall) mwX7_contributionTo miX7_contributionTo sh0 ck6 (by decide) tw_876 ⟨by decide, by decide⟩ rfl rfl (Nat.le_of_ble_eq_true rfl) dX7_sumOfInteractions_39 ?_
        refine x_aload_n hF dX7_sumOfInteractions_42 rfl rfl ?_
        refine x_iload hF dX7_sumOfInteractions_43 rfl ?_
        refine x_iload_n hF dX7_sumOfInteractions_45 rfl rfl ?_
        obtain ⟨r7, S8, hcall, h⟩ := ob_some h
        refine x_cVi hF hN hR (ctX7_contributionTo hF.tr hcall) mwX7_contributionTo miX7_contributionTo sh0 ck6 (by decide) tw_876 ⟨by decide, by decide⟩ rfl rfl (Nat.le_of_ble_eq_true rfl) dX7_sumOfInteractions_46 ?_
        refine x_isub hF dX7_sumOfInteractions_49 ?_
        refine x_iadd hF dX7_sumOfInteractions_50 ?_
        refine x_istore_n [(3, _), (0, _), (1, _), (2, _), (4, _)] hF hN dX7_sumOfInteractions_51 rfl (by decide) rfl ?_
        refine x_iinc [(4, _), (3, _), (0, _), (1, _), (2, _)] (v := (1 : Int32)) hF hN dX7_sumOfInteractions_52 rfl (by decide) (by decide) rfl ?_
        refine x_goto (tgt := 5) hF dX7_sumOfInteractions_55 (by decide) ?_
        obtain ⟨rfl, rfl⟩ := sm h
        exact x_sub (hag _ _ hk) ⟨rfl, rfl, rfl, rfl, rfl, trivial⟩
noncomputable def X7_sumOfInteractions_5L (x1 : Int32) (x2 : Int32) (a : Int32 × Int32) (S : St) : Option (Int32 × St) :=
  lp (fun (a : Int32 × Int32) (S : St) => X7_sumOfInteractions_5 x1 x2 a.1 a.2 S) a S
theorem xX7_sumOfInteractions_5L {F : Cx} (hF : Ok F cX7_sumOfInteractions RX7) (hN : nLF F 5) (hR : RmF F 1 0) {x1 : Int32} {x2 : Int32} {K : Int32 → St → Prop} (hex58 : ∀ (q : Int32) (S : St), K (q) S → X F 0 58 [(3, .int q)] [] S) {a : Int32 × Int32} {S : St} {b : Int32} {S1 : St} (h : X7_sumOfInteractions_5L x1 x2 a S = some (b, S1)) (hk : K b S1) : X F 0 5 [(0, .ref (gA F 0)), (1, .int x1), (2, .int x2), (3, .int a.1), (4, .int a.2)] [] S := by
  unfold X7_sumOfInteractions_5L at h
  exact lp_rule (Xh := fun (a : Int32 × Int32) (S : St) => X F 0 5 [(0, .ref (gA F 0)), (1, .int x1), (2, .int x2), (3, .int a.1), (4, .int a.2)] [] S) (K := K) (fun a S r S1 h hk => xX7_sumOfInteractions_5 hF hN hR (K := fun r S => match r with | .inl a => X F 0 5 [(0, .ref (gA F 0)), (1, .int x1), (2, .int x2), (3, .int a.1), (4, .int a.2)] [] S | .inr b => K b S) (fun _ _ h => h) (fun q S h => hex58 q S h) h (by cases r <;> exact hk)) h hk
noncomputable def X7_sumOfInteractions (x1 : Int32) (x2 : Int32) (S : St) : Option (Int32 × St) :=
  ob (X7_sumOfInteractions_5L x1 x2 ((0 : Int32), (0 : Int32)) S) (fun b9 S10 => some (b9, S10))
set_option maxHeartbeats 4000000 in
set_option maxRecDepth 20000 in
theorem ctX7_sumOfInteractions {l : Launch} {G : Ga} {x1 : Int32} {x2 : Int32} (hl : l.stackTraces = false) {S : St} {r : Int32} {S1 : St} (h : X7_sumOfInteractions x1 x2 S = some (r, S1)) : CT l G 1 yX7_sumOfInteractions cX7_sumOfInteractions 5 (some .int) [.ref (G.1 0), .int x1, .int x2] S (some (.int r)) S1 := by
  refine ct_of hl (by decide) (Nat.le_of_ble_eq_true rfl) (fun F hFl hFG hF hN hR hret => ?_)
  subst hFl hFG
  show X F 0 0 [(0, .ref (gA F 0)), (1, .int x1), (2, .int x2)] [] S
  have hret : ∀ (v : Int32) (S : St) (pc : Nat) (ls : List (Nat × Value)), (v = r ∧ S = S1) → decode cX7_sumOfInteractions pc = .ok (.ireturn, 1) → X F 0 pc ls [.int v] S := fun v S2 pc ls hq hd => by obtain ⟨rfl, rfl⟩ := hq; exact hret.1 pc ls v rfl rfl hd
  have hk : r = r ∧ S1 = S1 := ⟨rfl, rfl⟩
  unfold X7_sumOfInteractions at h
  refine x_iconst (v := (0 : Int32)) hF dX7_sumOfInteractions_0 (by decide) ?_
  refine x_istore_n [(3, _), (0, _), (1, _), (2, _)] hF hN dX7_sumOfInteractions_1 rfl (by decide) rfl ?_
  refine x_iconst (v := (0 : Int32)) hF dX7_sumOfInteractions_2 (by decide) ?_
  refine x_istore [(4, _), (3, _), (0, _), (1, _), (2, _)] hF hN dX7_sumOfInteractions_3 (by decide) rfl ?_
  obtain ⟨b9, S10, hlb9, h⟩ := ob_some h
  refine x_sub (xX7_sumOfInteractions_5L hF hN hR (K := fun bb SS => bb = b9 ∧ SS = S10) ?_ hlb9 ⟨rfl, rfl⟩) ⟨rfl, rfl, rfl, rfl, rfl, trivial⟩
  rintro _ _ ⟨rfl, rfl⟩
  refine x_iload_n hF dX7_sumOfInteractions_58 rfl rfl ?_
  obtain ⟨rfl, rfl⟩ := sm h
  exact hret _ _ _ _ hk dX7_sumOfInteractions_59
noncomputable def X7_interaction (x1 : Int32) (x2 : Int32) (x3 : Int32) (S : St) : Option ((Int32 ⊕ Nat) × St) :=
  obx (X7_requireFlow x1 S) (fun r1 S2 => obx (X7_requireFlow x2 S2) (fun r3 S4 => oi (x1 = x2) (some (.inr 1, S4)) (obx (X7_requirePart x3 S4) (fun r5 S6 => ob (X7_fillWorths (-1 : Int32) S6) (fun r7 S8 => ob (X7_sumOfInteractions x1 x2 S8) (fun r9 S10 => ob (X7_partOfFraction r9 (16 : Int32) x3 S10) (fun r11 S12 => some (.inl r11, S12))))))))
set_option maxHeartbeats 4000000 in
set_option maxRecDepth 20000 in
theorem cxX7_interaction {l : Launch} {G : Ga} {x1 : Int32} {x2 : Int32} {x3 : Int32} (hl : l.stackTraces = false) {S : St} {r : (Int32 ⊕ Nat)} {S1 : St} (h : X7_interaction x1 x2 x3 S = some (r, S1)) : CX l G 7 3 yX7_interaction cX7_interaction 4 (some .int) [.ref (G.1 0), .int x1, .int x2, .int x3] S (rvI r) S1 := by
  refine cx_of hl (by decide) rfl (by decide) (Nat.le_of_ble_eq_true rfl) (fun F hFl hFG hF hN hR hret => ?_)
  subst hFl hFG
  show X F 0 0 [(0, .ref (gA F 0)), (1, .int x1), (2, .int x2), (3, .int x3)] [] S
  have hxt : ∀ (e : Nat) (S : St) (u pc : Nat) (ls : List (Nat × Value)), u ≤ 3 → (.inr e = r ∧ S = S1) → XT F u pc e ls S := fun e S2 u pc ls hu hq => by obtain ⟨rfl, rfl⟩ := hq; exact hret.2.2.1 u pc e ls hu rfl
  have hthr : ∀ {e : Nat} {S : St} {u pc ik is j : Nat} {tx : String} {ls : List (Nat × Value)} {st : List Value}, u + 1 ≤ 3 → e < 3 → (st.map fun v => v.category).sum ≤ 8 → (.inr e = r ∧ S = S1) → Thr cX7_interaction pc e ik is j tx ∨ ThrW cX7_interaction pc e ik is j tx → X F u pc ls st S := fun {e S2 u pc ik is j tx ls st} hu he hs hq hT => by obtain ⟨rfl, rfl⟩ := hq; exact hret.2.2.2 u pc e ik is j tx ls st hu he hs rfl hT
  have hret : ∀ (v : Int32) (S : St) (u pc : Nat) (ls : List (Nat × Value)), u ≤ 3 → (.inl v = r ∧ S = S1) → decode cX7_interaction pc = .ok (.ireturn, 1) → X F u pc ls [.int v] S := fun v S2 u pc ls hu hq hd => by obtain ⟨rfl, rfl⟩ := hq; exact hret.1 u pc ls v hu rfl rfl hd
  have hk : r = r ∧ S1 = S1 := ⟨rfl, rfl⟩
  unfold X7_interaction at h
  refine x_iload_n hF dX7_interaction_0 rfl rfl ?_
  rcases obx_some h with ⟨r1, S2, hcall, h⟩ | ⟨r1, hcall, h⟩
  · refine x_xSv hF hN hR (cxX7_requireFlow hF.tr hcall) mwX7_requireFlow tw_589 tw_588 ⟨by decide, by decide⟩ rfl rfl (Nat.le_of_ble_eq_true rfl) dX7_interaction_1 ?_
    refine x_iload_n hF dX7_interaction_4 rfl rfl ?_
    rcases obx_some h with ⟨r3, S4, hcall, h⟩ | ⟨r3, hcall, h⟩
    · refine x_xSv hF hN hR (cxX7_requireFlow hF.tr hcall) mwX7_requireFlow tw_589 tw_588 ⟨by decide, by decide⟩ rfl rfl (Nat.le_of_ble_eq_true rfl) dX7_interaction_5 ?_
      refine x_iload_n hF dX7_interaction_8 rfl rfl ?_
      refine x_iload_n hF dX7_interaction_9 rfl rfl ?_
      refine x_icmp_ne (tgt := 23) hF dX7_interaction_10 (by decide) (fun hc => ?_) (fun hc => ?_)
      · have h := oi_neg hc h
        refine x_iload_n hF dX7_interaction_23 rfl rfl ?_
        rcases obx_some h with ⟨r5, S6, hcall, h⟩ | ⟨r5, hcall, h⟩
        · refine x_xSv hF hN hR (cxX7_requirePart hF.tr hcall) mwX7_requirePart tw_861 tw_860 ⟨by decide, by decide⟩ rfl rfl (Nat.le_of_ble_eq_true rfl) dX7_interaction_24 ?_
          refine x_aload_n hF dX7_interaction_27 rfl rfl ?_
          refine x_iconst (v := (-1 : Int32)) hF dX7_interaction_28 (by decide) ?_
          obtain ⟨r7, S8, hcall, h⟩ := ob_some h
          refine x_cVv hF hN hR (ctX7_fillWorths hF.tr hcall) mwX7_fillWorths miX7_fillWorths sh0 ck6 (by decide) tw_564 ⟨by decide, by decide⟩ rfl rfl (Nat.le_of_ble_eq_true rfl) dX7_interaction_29 ?_
          refine x_aload_n hF dX7_interaction_32 rfl rfl ?_
          refine x_iload_n hF dX7_interaction_33 rfl rfl ?_
          refine x_iload_n hF dX7_interaction_34 rfl rfl ?_
          obtain ⟨r9, S10, hcall, h⟩ := ob_some h
          refine x_cVi hF hN hR (ctX7_sumOfInteractions hF.tr hcall) mwX7_sumOfInteractions miX7_sumOfInteractions sh0 ck6 (by decide) tw_916 ⟨by decide, by decide⟩ rfl rfl (Nat.le_of_ble_eq_true rfl) dX7_interaction_35 ?_
          refine x_bipush (v := (16 : Int32)) hF dX7_interaction_38 (by decide) ?_
          refine x_iload_n hF dX7_interaction_40 rfl rfl ?_
          obtain ⟨r11, S12, hcall, h⟩ := ob_some h
          refine x_cSi hF hN hR (ctX7_partOfFraction hF.tr hcall) mwX7_partOfFraction tw_881 tw_880 ⟨by decide, by decide⟩ rfl rfl (Nat.le_of_ble_eq_true rfl) dX7_interaction_41 ?_
          obtain ⟨rfl, rfl⟩ := sm h
          exact hret _ _ _ _ _ (by decide) hk dX7_interaction_44
        · subst h
          exact x_xSt hF hN hR (cxX7_requirePart hF.tr hcall) mwX7_requirePart tw_861 tw_860 ⟨by decide, by decide⟩ rfl rfl (Nat.le_of_ble_eq_true rfl) dX7_interaction_24 (hxt _ _ _ _ _ (by decide) hk)
      · have h := oi_pos hc h
        obtain ⟨rfl, rfl⟩ := sm h
        exact hthr (e := 1) (j := 9) (by decide) (by decide) (Nat.le_of_ble_eq_true rfl) hk (Or.inl ⟨tw_665, tw_84, rfl, dX7_interaction_13, dX7_interaction_16, dX7_interaction_17, dX7_interaction_19, dX7_interaction_22⟩)
    · subst h
      exact x_xSt hF hN hR (cxX7_requireFlow hF.tr hcall) mwX7_requireFlow tw_589 tw_588 ⟨by decide, by decide⟩ rfl rfl (Nat.le_of_ble_eq_true rfl) dX7_interaction_5 (hxt _ _ _ _ _ (by decide) hk)
  · subst h
    exact x_xSt hF hN hR (cxX7_requireFlow hF.tr hcall) mwX7_requireFlow tw_589 tw_588 ⟨by decide, by decide⟩ rfl rfl (Nat.le_of_ble_eq_true rfl) dX7_interaction_1 (hxt _ _ _ _ _ (by decide) hk)
noncomputable def X7_rankByBlames_58 (x1 : Int32) (x2 : Int32) (x3 : Int32) (z0 : Int32) (S : St) : Option (((Int32 × Int32) ⊕ Int32) × St) :=
  oi (z0 = 0) (some (.inl (x2, (x3 + (1 : Int32))), S)) (some (.inl ((x2 + (1 : Int32)), (x3 + (1 : Int32))), S))
set_option maxHeartbeats 4000000 in
set_option maxRecDepth 20000 in
theorem xX7_rankByBlames_58 {F : Cx} (hF : Ok F cX7_rankByBlames RX7) (hN : nLF F 5) (hR : RmF F 0 0) {x1 : Int32} {x2 : Int32} {x3 : Int32} {z0 : Int32} {K : ((Int32 × Int32) ⊕ Int32) → St → Prop} (hag : ∀ (a : Int32 × Int32) (S : St), K (.inl a) S → X F 0 4 [(0, .ref (gA F 0)), (1, .int x1), (2, .int a.1), (3, .int a.2)] [] S) (hex74 : ∀ (q : Int32) (S : St), K (.inr q) S → X F 0 74 [(2, .int q)] [] S) {S : St} {r : (Int32 × Int32) ⊕ Int32} {S1 : St} (h : X7_rankByBlames_58 x1 x2 x3 z0 S = some (r, S1)) (hk : K r S1) : X F 0 58 [(0, .ref (gA F 0)), (1, .int x1), (2, .int x2), (3, .int x3)] [.int z0] S := by
  unfold X7_rankByBlames_58 at h
  refine x_istore [(4, _), (0, _), (1, _), (2, _), (3, _)] hF hN dX7_rankByBlames_58 (by decide) rfl ?_
  refine x_iload hF dX7_rankByBlames_60 rfl ?_
  refine x_if_eq (tgt := 68) hF dX7_rankByBlames_62 (by decide) (fun hc => ?_) (fun hc => ?_)
  · have h := oi_pos hc h
    refine x_iinc [(3, _), (4, _), (0, _), (1, _), (2, _)] (v := (1 : Int32)) hF hN dX7_rankByBlames_68 rfl (by decide) (by decide) rfl ?_
    refine x_goto (tgt := 4) hF dX7_rankByBlames_71 (by decide) ?_
    obtain ⟨rfl, rfl⟩ := sm h
    exact x_sub (hag _ _ hk) ⟨rfl, rfl, rfl, rfl, trivial⟩
  · have h := oi_neg hc h
    refine x_iinc [(2, _), (4, _), (0, _), (1, _), (3, _)] (v := (1 : Int32)) hF hN dX7_rankByBlames_65 rfl (by decide) (by decide) rfl ?_
    refine x_iinc [(3, _), (2, _), (4, _), (0, _), (1, _)] (v := (1 : Int32)) hF hN dX7_rankByBlames_68 rfl (by decide) (by decide) rfl ?_
    refine x_goto (tgt := 4) hF dX7_rankByBlames_71 (by decide) ?_
    obtain ⟨rfl, rfl⟩ := sm h
    exact x_sub (hag _ _ hk) ⟨rfl, rfl, rfl, rfl, trivial⟩
noncomputable def X7_rankByBlames_4 (x1 : Int32) (x2 : Int32) (x3 : Int32) (S : St) : Option (((Int32 × Int32) ⊕ Int32) × St) :=
  oi ((6 : Int32) ≤ x3) (some (.inr x2, S)) (oi (x1 ≤ x3) (og (inb x3 6) (og (inb x1 6) (oi ((gi S 73 (ix x3)) ≤ (gi S 73 (ix x1))) (X7_rankByBlames_58 x1 x2 x3 (0 : Int32) S) (X7_rankByBlames_58 x1 x2 x3 (1 : Int32) S)))) (og (inb x3 6) (og (inb x1 6) (oi ((gi S 73 (ix x3)) < (gi S 73 (ix x1))) (X7_rankByBlames_58 x1 x2 x3 (0 : Int32) S) (X7_rankByBlames_58 x1 x2 x3 (1 : Int32) S)))))
set_option maxHeartbeats 4000000 in
set_option maxRecDepth 20000 in
theorem xX7_rankByBlames_4 {F : Cx} (hF : Ok F cX7_rankByBlames RX7) (hN : nLF F 5) (hR : RmF F 0 0) {x1 : Int32} {x2 : Int32} {x3 : Int32} {K : ((Int32 × Int32) ⊕ Int32) → St → Prop} (hag : ∀ (a : Int32 × Int32) (S : St), K (.inl a) S → X F 0 4 [(0, .ref (gA F 0)), (1, .int x1), (2, .int a.1), (3, .int a.2)] [] S) (hex74 : ∀ (q : Int32) (S : St), K (.inr q) S → X F 0 74 [(2, .int q)] [] S) {S : St} {r : (Int32 × Int32) ⊕ Int32} {S1 : St} (h : X7_rankByBlames_4 x1 x2 x3 S = some (r, S1)) (hk : K r S1) : X F 0 4 [(0, .ref (gA F 0)), (1, .int x1), (2, .int x2), (3, .int x3)] [] S := by
  unfold X7_rankByBlames_4 at h
  refine x_iload_n hF dX7_rankByBlames_4 rfl rfl ?_
  refine x_bipush (v := (6 : Int32)) hF dX7_rankByBlames_5 (by decide) ?_
  refine x_icmp_ge (tgt := 74) hF dX7_rankByBlames_7 (by decide) (fun hc => ?_) (fun hc => ?_)
  · have h := oi_pos hc h
    obtain ⟨rfl, rfl⟩ := sm h
    exact x_sub (hex74 _ _ hk) ⟨rfl, trivial⟩
  · have h := oi_neg hc h
    refine x_iload_n hF dX7_rankByBlames_10 rfl rfl ?_
    refine x_iload_n hF dX7_rankByBlames_11 rfl rfl ?_
    refine x_icmp_ge (tgt := 38) hF dX7_rankByBlames_12 (by decide) (fun hc => ?_) (fun hc => ?_)
    · have h := oi_pos hc h
      refine x_aload_n hF dX7_rankByBlames_38 rfl rfl ?_
      refine x_getr hF sh0 6 rfl ck6 (by decide) (by decide) tw_298 rfl dX7_rankByBlames_39 ?_
      refine x_iload_n hF dX7_rankByBlames_42 rfl rfl ?_
      obtain ⟨hg, h⟩ := og_some h
      refine x_iald hF sh73 (by decide) hg rfl dX7_rankByBlames_43 ?_
      refine x_aload_n hF dX7_rankByBlames_44 rfl rfl ?_
      refine x_getr hF sh0 6 rfl ck6 (by decide) (by decide) tw_298 rfl dX7_rankByBlames_45 ?_
      refine x_iload_n hF dX7_rankByBlames_48 rfl rfl ?_
      obtain ⟨hg, h⟩ := og_some h
      refine x_iald hF sh73 (by decide) hg rfl dX7_rankByBlames_49 ?_
      refine x_icmp_le (tgt := 57) hF dX7_rankByBlames_50 (by decide) (fun hc => ?_) (fun hc => ?_)
      · have h := oi_pos hc h
        refine x_iconst (v := (0 : Int32)) hF dX7_rankByBlames_57 (by decide) ?_
        exact x_sub (xX7_rankByBlames_58 hF hN hR (K := K) hag hex74 h hk) ⟨rfl, rfl, rfl, rfl, trivial⟩
      · have h := oi_neg hc h
        refine x_iconst (v := (1 : Int32)) hF dX7_rankByBlames_53 (by decide) ?_
        refine x_goto (tgt := 58) hF dX7_rankByBlames_54 (by decide) ?_
        exact x_sub (xX7_rankByBlames_58 hF hN hR (K := K) hag hex74 h hk) ⟨rfl, rfl, rfl, rfl, trivial⟩
    · have h := oi_neg hc h
      refine x_aload_n hF dX7_rankByBlames_15 rfl rfl ?_
      refine x_getr hF sh0 6 rfl ck6 (by decide) (by decide) tw_298 rfl dX7_rankByBlames_16 ?_
      refine x_iload_n hF dX7_rankByBlames_19 rfl rfl ?_
      obtain ⟨hg, h⟩ := og_some h
      refine x_iald hF sh73 (by decide) hg rfl dX7_rankByBlames_20 ?_
      refine x_aload_n hF dX7_rankByBlames_21 rfl rfl ?_
      refine x_getr hF sh0 6 rfl ck6 (by decide) (by decide) tw_298 rfl dX7_rankByBlames_22 ?_
      refine x_iload_n hF dX7_rankByBlames_25 rfl rfl ?_
      obtain ⟨hg, h⟩ := og_some h
      refine x_iald hF sh73 (by decide) hg rfl dX7_rankByBlames_26 ?_
      refine x_icmp_lt (tgt := 34) hF dX7_rankByBlames_27 (by decide) (fun hc => ?_) (fun hc => ?_)
      · have h := oi_pos hc h
        refine x_iconst (v := (0 : Int32)) hF dX7_rankByBlames_34 (by decide) ?_
        refine x_goto (tgt := 58) hF dX7_rankByBlames_35 (by decide) ?_
        exact x_sub (xX7_rankByBlames_58 hF hN hR (K := K) hag hex74 h hk) ⟨rfl, rfl, rfl, rfl, trivial⟩
      · have h := oi_neg hc h
        refine x_iconst (v := (1 : Int32)) hF dX7_rankByBlames_30 (by decide) ?_
        refine x_goto (tgt := 58) hF dX7_rankByBlames_31 (by decide) ?_
        exact x_sub (xX7_rankByBlames_58 hF hN hR (K := K) hag hex74 h hk) ⟨rfl, rfl, rfl, rfl, trivial⟩
noncomputable def X7_rankByBlames_4L (x1 : Int32) (a : Int32 × Int32) (S : St) : Option (Int32 × St) :=
  lp (fun (a : Int32 × Int32) (S : St) => X7_rankByBlames_4 x1 a.1 a.2 S) a S
theorem xX7_rankByBlames_4L {F : Cx} (hF : Ok F cX7_rankByBlames RX7) (hN : nLF F 5) (hR : RmF F 0 0) {x1 : Int32} {K : Int32 → St → Prop} (hex74 : ∀ (q : Int32) (S : St), K (q) S → X F 0 74 [(2, .int q)] [] S) {a : Int32 × Int32} {S : St} {b : Int32} {S1 : St} (h : X7_rankByBlames_4L x1 a S = some (b, S1)) (hk : K b S1) : X F 0 4 [(0, .ref (gA F 0)), (1, .int x1), (2, .int a.1), (3, .int a.2)] [] S := by
  unfold X7_rankByBlames_4L at h
  exact lp_rule (Xh := fun (a : Int32 × Int32) (S : St) => X F 0 4 [(0, .ref (gA F 0)), (1, .int x1), (2, .int a.1), (3, .int a.2)] [] S) (K := K) (fun a S r S1 h hk => xX7_rankByBlames_4 hF hN hR (K := fun r S => match r with | .inl a => X F 0 4 [(0, .ref (gA F 0)), (1, .int x1), (2, .int a.1), (3, .int a.2)] [] S | .inr b => K b S) (fun _ _ h => h) (fun q S h => hex74 q S h) h (by cases r <;> exact hk)) h hk
noncomputable def X7_rankByBlames (x1 : Int32) (S : St) : Option (Int32 × St) :=
  ob (X7_rankByBlames_4L x1 ((0 : Int32), (0 : Int32)) S) (fun b1 S2 => some (b1, S2))
set_option maxHeartbeats 4000000 in
set_option maxRecDepth 20000 in
theorem ctX7_rankByBlames {l : Launch} {G : Ga} {x1 : Int32} (hl : l.stackTraces = false) {S : St} {r : Int32} {S1 : St} (h : X7_rankByBlames x1 S = some (r, S1)) : CT l G 0 yX7_rankByBlames cX7_rankByBlames 5 (some .int) [.ref (G.1 0), .int x1] S (some (.int r)) S1 := by
  refine ct_of hl (by decide) (Nat.le_of_ble_eq_true rfl) (fun F hFl hFG hF hN hR hret => ?_)
  subst hFl hFG
  show X F 0 0 [(0, .ref (gA F 0)), (1, .int x1)] [] S
  have hret : ∀ (v : Int32) (S : St) (pc : Nat) (ls : List (Nat × Value)), (v = r ∧ S = S1) → decode cX7_rankByBlames pc = .ok (.ireturn, 1) → X F 0 pc ls [.int v] S := fun v S2 pc ls hq hd => by obtain ⟨rfl, rfl⟩ := hq; exact hret.1 pc ls v rfl rfl hd
  have hk : r = r ∧ S1 = S1 := ⟨rfl, rfl⟩
  unfold X7_rankByBlames at h
  refine x_iconst (v := (0 : Int32)) hF dX7_rankByBlames_0 (by decide) ?_
  refine x_istore_n [(2, _), (0, _), (1, _)] hF hN dX7_rankByBlames_1 rfl (by decide) rfl ?_
  refine x_iconst (v := (0 : Int32)) hF dX7_rankByBlames_2 (by decide) ?_
  refine x_istore_n [(3, _), (2, _), (0, _), (1, _)] hF hN dX7_rankByBlames_3 rfl (by decide) rfl ?_
  obtain ⟨b1, S2, hlb1, h⟩ := ob_some h
  refine x_sub (xX7_rankByBlames_4L hF hN hR (K := fun bb SS => bb = b1 ∧ SS = S2) ?_ hlb1 ⟨rfl, rfl⟩) ⟨rfl, rfl, rfl, rfl, trivial⟩
  rintro _ _ ⟨rfl, rfl⟩
  refine x_iload_n hF dX7_rankByBlames_74 rfl rfl ?_
  obtain ⟨rfl, rfl⟩ := sm h
  exact hret _ _ _ _ hk dX7_rankByBlames_75
noncomputable def X7_ranked_11 (x1 : Int32) (x2 : Int32) (S : St) : Option (((Int32) ⊕ Unit) × St) :=
  oi ((6 : Int32) ≤ x2) (some (.inr (), S)) (ob (X7_sumOverOrders x2 S) (fun r5 S6 => og (inb x2 6) (ol (si S6 73 (ix x2) r5) (fun T7 => some (.inl (x2 + (1 : Int32)), T7)))))
set_option maxHeartbeats 4000000 in
set_option maxRecDepth 20000 in
theorem xX7_ranked_11 {F : Cx} (hF : Ok F cX7_ranked RX7) (hN : nLF F 4) (hR : RmF F 7 1) {x1 : Int32} {x2 : Int32} {K : ((Int32) ⊕ Unit) → St → Prop} (hag : ∀ (a : Int32) (S : St), K (.inl a) S → X F 1 11 [(0, .ref (gA F 0)), (1, .int x1), (2, .int a)] [] S) (hex34 : ∀ (q : Unit) (S : St), K (.inr q) S → X F 1 34 [(0, .ref (gA F 0)), (1, .int x1)] [] S) {S : St} {r : (Int32) ⊕ Unit} {S1 : St} (h : X7_ranked_11 x1 x2 S = some (r, S1)) (hk : K r S1) : X F 1 11 [(0, .ref (gA F 0)), (1, .int x1), (2, .int x2)] [] S := by
  unfold X7_ranked_11 at h
  refine x_iload_n hF dX7_ranked_11 rfl rfl ?_
  refine x_bipush (v := (6 : Int32)) hF dX7_ranked_12 (by decide) ?_
  refine x_icmp_ge (tgt := 34) hF dX7_ranked_14 (by decide) (fun hc => ?_) (fun hc => ?_)
  · have h := oi_pos hc h
    obtain ⟨rfl, rfl⟩ := sm h
    exact x_sub (hex34 _ _ hk) ⟨rfl, rfl, trivial⟩
  · have h := oi_neg hc h
    refine x_aload_n hF dX7_ranked_17 rfl rfl ?_
    refine x_getr hF sh0 6 rfl ck6 (by decide) (by decide) tw_298 rfl dX7_ranked_18 ?_
    refine x_iload_n hF dX7_ranked_21 rfl rfl ?_
    refine x_aload_n hF dX7_ranked_22 rfl rfl ?_
    refine x_iload_n hF dX7_ranked_23 rfl rfl ?_
    obtain ⟨r5, S6, hcall, h⟩ := ob_some h
    refine x_cVi hF hN hR (ctX7_sumOverOrders hF.tr hcall) mwX7_sumOverOrders miX7_sumOverOrders sh0 ck6 (by decide) tw_864 ⟨by decide, by decide⟩ rfl rfl (Nat.le_of_ble_eq_true rfl) dX7_ranked_24 ?_
    obtain ⟨hg, h⟩ := og_some h
    obtain ⟨T7, eT7, h⟩ := ol_some h
    refine x_iast hF sh73 (by decide) hg rfl eT7 dX7_ranked_27 ?_
    refine x_iinc [(2, _), (0, _), (1, _)] (v := (1 : Int32)) hF hN dX7_ranked_28 rfl (by decide) (by decide) rfl ?_
    refine x_goto (tgt := 11) hF dX7_ranked_31 (by decide) ?_
    obtain ⟨rfl, rfl⟩ := sm h
    exact x_sub (hag _ _ hk) ⟨rfl, rfl, rfl, trivial⟩
noncomputable def X7_ranked_11L (x1 : Int32) (a : Int32) (S : St) : Option (Unit × St) :=
  lp (fun (a : Int32) (S : St) => X7_ranked_11 x1 a S) a S
theorem xX7_ranked_11L {F : Cx} (hF : Ok F cX7_ranked RX7) (hN : nLF F 4) (hR : RmF F 7 1) {x1 : Int32} {K : Unit → St → Prop} (hex34 : ∀ (q : Unit) (S : St), K (q) S → X F 1 34 [(0, .ref (gA F 0)), (1, .int x1)] [] S) {a : Int32} {S : St} {b : Unit} {S1 : St} (h : X7_ranked_11L x1 a S = some (b, S1)) (hk : K b S1) : X F 1 11 [(0, .ref (gA F 0)), (1, .int x1), (2, .int a)] [] S := by
  unfold X7_ranked_11L at h
  exact lp_rule (Xh := fun (a : Int32) (S : St) => X F 1 11 [(0, .ref (gA F 0)), (1, .int x1), (2, .int a)] [] S) (K := K) (fun a S r S1 h hk => xX7_ranked_11 hF hN hR (K := fun r S => match r with | .inl a => X F 1 11 [(0, .ref (gA F 0)), (1, .int x1), (2, .int a)] [] S | .inr b => K b S) (fun _ _ h => h) (fun q S h => hex34 q S h) h (by cases r <;> exact hk)) h hk
noncomputable def X7_ranked_38 (x1 : Int32) (x2 : Int32) (x3 : Int32) (S : St) : Option (((Int32 × Int32) ⊕ Int32) × St) :=
  oi ((6 : Int32) ≤ x3) (some (.inr x2, S)) (ob (X7_rankByBlames x3 S) (fun r10 S11 => oi (r10 = x1) (some (.inl (x3, (x3 + (1 : Int32))), S11)) (some (.inl (x2, (x3 + (1 : Int32))), S11))))
set_option maxHeartbeats 4000000 in
set_option maxRecDepth 20000 in
theorem xX7_ranked_38 {F : Cx} (hF : Ok F cX7_ranked RX7) (hN : nLF F 4) (hR : RmF F 7 1) {x1 : Int32} {x2 : Int32} {x3 : Int32} {K : ((Int32 × Int32) ⊕ Int32) → St → Prop} (hag : ∀ (a : Int32 × Int32) (S : St), K (.inl a) S → X F 1 38 [(0, .ref (gA F 0)), (1, .int x1), (2, .int a.1), (3, .int a.2)] [] S) (hex61 : ∀ (q : Int32) (S : St), K (.inr q) S → X F 1 61 [(2, .int q)] [] S) {S : St} {r : (Int32 × Int32) ⊕ Int32} {S1 : St} (h : X7_ranked_38 x1 x2 x3 S = some (r, S1)) (hk : K r S1) : X F 1 38 [(0, .ref (gA F 0)), (1, .int x1), (2, .int x2), (3, .int x3)] [] S := by
  unfold X7_ranked_38 at h
  refine x_iload_n hF dX7_ranked_38 rfl rfl ?_
  refine x_bipush (v := (6 : Int32)) hF dX7_ranked_39 (by decide) ?_
  refine x_icmp_ge (tgt := 61) hF dX7_ranked_41 (by decide) (fun hc => ?_) (fun hc => ?_)
  · have h := oi_pos hc h
    obtain ⟨rfl, rfl⟩ := sm h
    exact x_sub (hex61 _ _ hk) ⟨rfl, trivial⟩
  · have h := oi_neg hc h
    refine x_aload_n hF dX7_ranked_44 rfl rfl ?_
    refine x_iload_n hF dX7_ranked_45 rfl rfl ?_
    obtain ⟨r10, S11, hcall, h⟩ := ob_some h
    refine x_cVi hF hN hR (ctX7_rankByBlames hF.tr hcall) mwX7_rankByBlames miX7_rankByBlames sh0 ck6 (by decide) tw_927 ⟨by decide, by decide⟩ rfl rfl (Nat.le_of_ble_eq_true rfl) dX7_ranked_46 ?_
    refine x_iload_n hF dX7_ranked_49 rfl rfl ?_
    refine x_icmp_ne (tgt := 55) hF dX7_ranked_50 (by decide) (fun hc => ?_) (fun hc => ?_)
    · have h := oi_neg hc h
      refine x_iinc [(3, _), (0, _), (1, _), (2, _)] (v := (1 : Int32)) hF hN dX7_ranked_55 rfl (by decide) (by decide) rfl ?_
      refine x_goto (tgt := 38) hF dX7_ranked_58 (by decide) ?_
      obtain ⟨rfl, rfl⟩ := sm h
      exact x_sub (hag _ _ hk) ⟨rfl, rfl, rfl, rfl, trivial⟩
    · have h := oi_pos hc h
      refine x_iload_n hF dX7_ranked_53 rfl rfl ?_
      refine x_istore_n [(2, _), (0, _), (1, _), (3, _)] hF hN dX7_ranked_54 rfl (by decide) rfl ?_
      refine x_iinc [(3, _), (2, _), (0, _), (1, _)] (v := (1 : Int32)) hF hN dX7_ranked_55 rfl (by decide) (by decide) rfl ?_
      refine x_goto (tgt := 38) hF dX7_ranked_58 (by decide) ?_
      obtain ⟨rfl, rfl⟩ := sm h
      exact x_sub (hag _ _ hk) ⟨rfl, rfl, rfl, rfl, trivial⟩
noncomputable def X7_ranked_38L (x1 : Int32) (a : Int32 × Int32) (S : St) : Option (Int32 × St) :=
  lp (fun (a : Int32 × Int32) (S : St) => X7_ranked_38 x1 a.1 a.2 S) a S
theorem xX7_ranked_38L {F : Cx} (hF : Ok F cX7_ranked RX7) (hN : nLF F 4) (hR : RmF F 7 1) {x1 : Int32} {K : Int32 → St → Prop} (hex61 : ∀ (q : Int32) (S : St), K (q) S → X F 1 61 [(2, .int q)] [] S) {a : Int32 × Int32} {S : St} {b : Int32} {S1 : St} (h : X7_ranked_38L x1 a S = some (b, S1)) (hk : K b S1) : X F 1 38 [(0, .ref (gA F 0)), (1, .int x1), (2, .int a.1), (3, .int a.2)] [] S := by
  unfold X7_ranked_38L at h
  exact lp_rule (Xh := fun (a : Int32 × Int32) (S : St) => X F 1 38 [(0, .ref (gA F 0)), (1, .int x1), (2, .int a.1), (3, .int a.2)] [] S) (K := K) (fun a S r S1 h hk => xX7_ranked_38 hF hN hR (K := fun r S => match r with | .inl a => X F 1 38 [(0, .ref (gA F 0)), (1, .int x1), (2, .int a.1), (3, .int a.2)] [] S | .inr b => K b S) (fun _ _ h => h) (fun q S h => hex61 q S h) h (by cases r <;> exact hk)) h hk
noncomputable def X7_ranked (x1 : Int32) (S : St) : Option ((Int32 ⊕ Nat) × St) :=
  obx (X7_requireFlow x1 S) (fun r1 S2 => ob (X7_fillWorths (-1 : Int32) S2) (fun r3 S4 => ob (X7_ranked_11L x1 (0 : Int32) S4) (fun b8 S9 => ob (X7_ranked_38L x1 ((-1 : Int32), (0 : Int32)) S9) (fun b12 S13 => some (.inl b12, S13)))))
set_option maxHeartbeats 4000000 in
set_option maxRecDepth 20000 in
theorem cxX7_ranked {l : Launch} {G : Ga} {x1 : Int32} (hl : l.stackTraces = false) {S : St} {r : (Int32 ⊕ Nat)} {S1 : St} (h : X7_ranked x1 S = some (r, S1)) : CX l G 7 1 yX7_ranked cX7_ranked 4 (some .int) [.ref (G.1 0), .int x1] S (rvI r) S1 := by
  refine cx_of hl (by decide) rfl (by decide) (Nat.le_of_ble_eq_true rfl) (fun F hFl hFG hF hN hR hret => ?_)
  subst hFl hFG
  show X F 0 0 [(0, .ref (gA F 0)), (1, .int x1)] [] S
  have hxt : ∀ (e : Nat) (S : St) (u pc : Nat) (ls : List (Nat × Value)), u ≤ 1 → (.inr e = r ∧ S = S1) → XT F u pc e ls S := fun e S2 u pc ls hu hq => by obtain ⟨rfl, rfl⟩ := hq; exact hret.2.2.1 u pc e ls hu rfl
  have hthr : ∀ {e : Nat} {S : St} {u pc ik is j : Nat} {tx : String} {ls : List (Nat × Value)} {st : List Value}, u + 1 ≤ 1 → e < 3 → (st.map fun v => v.category).sum ≤ 8 → (.inr e = r ∧ S = S1) → Thr cX7_ranked pc e ik is j tx ∨ ThrW cX7_ranked pc e ik is j tx → X F u pc ls st S := fun {e S2 u pc ik is j tx ls st} hu he hs hq hT => by obtain ⟨rfl, rfl⟩ := hq; exact hret.2.2.2 u pc e ik is j tx ls st hu he hs rfl hT
  have hret : ∀ (v : Int32) (S : St) (u pc : Nat) (ls : List (Nat × Value)), u ≤ 1 → (.inl v = r ∧ S = S1) → decode cX7_ranked pc = .ok (.ireturn, 1) → X F u pc ls [.int v] S := fun v S2 u pc ls hu hq hd => by obtain ⟨rfl, rfl⟩ := hq; exact hret.1 u pc ls v hu rfl rfl hd
  have hk : r = r ∧ S1 = S1 := ⟨rfl, rfl⟩
  unfold X7_ranked at h
  refine x_iload_n hF dX7_ranked_0 rfl rfl ?_
  rcases obx_some h with ⟨r1, S2, hcall, h⟩ | ⟨r1, hcall, h⟩
  · refine x_xSv hF hN hR (cxX7_requireFlow hF.tr hcall) mwX7_requireFlow tw_589 tw_588 ⟨by decide, by decide⟩ rfl rfl (Nat.le_of_ble_eq_true rfl) dX7_ranked_1 ?_
    refine x_aload_n hF dX7_ranked_4 rfl rfl ?_
    refine x_iconst (v := (-1 : Int32)) hF dX7_ranked_5 (by decide) ?_
    obtain ⟨r3, S4, hcall, h⟩ := ob_some h
    refine x_cVv hF hN hR (ctX7_fillWorths hF.tr hcall) mwX7_fillWorths miX7_fillWorths sh0 ck6 (by decide) tw_564 ⟨by decide, by decide⟩ rfl rfl (Nat.le_of_ble_eq_true rfl) dX7_ranked_6 ?_
    refine x_iconst (v := (0 : Int32)) hF dX7_ranked_9 (by decide) ?_
    refine x_istore_n [(2, _), (0, _), (1, _)] hF hN dX7_ranked_10 rfl (by decide) rfl ?_
    obtain ⟨b8, S9, hlb8, h⟩ := ob_some h
    refine x_sub (xX7_ranked_11L hF hN hR (K := fun bb SS => bb = b8 ∧ SS = S9) ?_ hlb8 ⟨rfl, rfl⟩) ⟨rfl, rfl, rfl, trivial⟩
    rintro _ _ ⟨_, rfl⟩
    refine x_iconst (v := (-1 : Int32)) hF dX7_ranked_34 (by decide) ?_
    refine x_istore_n [(2, _), (0, _), (1, _)] hF hN dX7_ranked_35 rfl (by decide) rfl ?_
    refine x_iconst (v := (0 : Int32)) hF dX7_ranked_36 (by decide) ?_
    refine x_istore_n [(3, _), (2, _), (0, _), (1, _)] hF hN dX7_ranked_37 rfl (by decide) rfl ?_
    obtain ⟨b12, S13, hlb12, h⟩ := ob_some h
    refine x_sub (xX7_ranked_38L hF hN hR (K := fun bb SS => bb = b12 ∧ SS = S13) ?_ hlb12 ⟨rfl, rfl⟩) ⟨rfl, rfl, rfl, rfl, trivial⟩
    rintro _ _ ⟨rfl, rfl⟩
    refine x_iload_n hF dX7_ranked_61 rfl rfl ?_
    obtain ⟨rfl, rfl⟩ := sm h
    exact hret _ _ _ _ _ (by decide) hk dX7_ranked_62
  · subst h
    exact x_xSt hF hN hR (cxX7_requireFlow hF.tr hcall) mwX7_requireFlow tw_589 tw_588 ⟨by decide, by decide⟩ rfl rfl (Nat.le_of_ble_eq_true rfl) dX7_ranked_1 (hxt _ _ _ _ _ (by decide) hk)
noncomputable def X7_drawOrder_2 (x1 : Int64) (x3 : Int32) (S : St) : Option (((Int32) ⊕ Unit) × St) :=
  oi ((6 : Int32) ≤ x3) (some (.inr (), S)) (og (inb x3 6) (ol (si S 74 (ix x3) x3) (fun T1 => some (.inl (x3 + (1 : Int32)), T1))))
set_option maxHeartbeats 4000000 in
set_option maxRecDepth 20000 in
theorem xX7_drawOrder_2 {F : Cx} (hF : Ok F cX7_drawOrder RX7) (hN : nLF F 8) (hR : RmF F 0 0) {x1 : Int64} {x3 : Int32} {K : ((Int32) ⊕ Unit) → St → Prop} (hag : ∀ (a : Int32) (S : St), K (.inl a) S → X F 0 2 [(0, .ref (gA F 0)), (1, .long x1), (3, .int a)] [] S) (hex21 : ∀ (q : Unit) (S : St), K (.inr q) S → X F 0 21 [(0, .ref (gA F 0)), (1, .long x1)] [] S) {S : St} {r : (Int32) ⊕ Unit} {S1 : St} (h : X7_drawOrder_2 x1 x3 S = some (r, S1)) (hk : K r S1) : X F 0 2 [(0, .ref (gA F 0)), (1, .long x1), (3, .int x3)] [] S := by
  unfold X7_drawOrder_2 at h
  refine x_iload_n hF dX7_drawOrder_2 rfl rfl ?_
  refine x_bipush (v := (6 : Int32)) hF dX7_drawOrder_3 (by decide) ?_
  refine x_icmp_ge (tgt := 21) hF dX7_drawOrder_5 (by decide) (fun hc => ?_) (fun hc => ?_)
  · have h := oi_pos hc h
    obtain ⟨rfl, rfl⟩ := sm h
    exact x_sub (hex21 _ _ hk) ⟨rfl, rfl, trivial⟩
  · have h := oi_neg hc h
    refine x_aload_n hF dX7_drawOrder_8 rfl rfl ?_
    refine x_getr hF sh0 7 rfl ck6 (by decide) (by decide) tw_299 rfl dX7_drawOrder_9 ?_
    refine x_iload_n hF dX7_drawOrder_12 rfl rfl ?_
    refine x_iload_n hF dX7_drawOrder_13 rfl rfl ?_
    obtain ⟨hg, h⟩ := og_some h
    obtain ⟨T1, eT1, h⟩ := ol_some h
    refine x_iast hF sh74 (by decide) hg rfl eT1 dX7_drawOrder_14 ?_
    refine x_iinc [(3, _), (0, _), (1, _)] (v := (1 : Int32)) hF hN dX7_drawOrder_15 rfl (by decide) (by decide) rfl ?_
    refine x_goto (tgt := 2) hF dX7_drawOrder_18 (by decide) ?_
    obtain ⟨rfl, rfl⟩ := sm h
    exact x_sub (hag _ _ hk) ⟨rfl, rfl, rfl, trivial⟩
noncomputable def X7_drawOrder_2L (x1 : Int64) (a : Int32) (S : St) : Option (Unit × St) :=
  lp (fun (a : Int32) (S : St) => X7_drawOrder_2 x1 a S) a S
theorem xX7_drawOrder_2L {F : Cx} (hF : Ok F cX7_drawOrder RX7) (hN : nLF F 8) (hR : RmF F 0 0) {x1 : Int64} {K : Unit → St → Prop} (hex21 : ∀ (q : Unit) (S : St), K (q) S → X F 0 21 [(0, .ref (gA F 0)), (1, .long x1)] [] S) {a : Int32} {S : St} {b : Unit} {S1 : St} (h : X7_drawOrder_2L x1 a S = some (b, S1)) (hk : K b S1) : X F 0 2 [(0, .ref (gA F 0)), (1, .long x1), (3, .int a)] [] S := by
  unfold X7_drawOrder_2L at h
  exact lp_rule (Xh := fun (a : Int32) (S : St) => X F 0 2 [(0, .ref (gA F 0)), (1, .long x1), (3, .int a)] [] S) (K := K) (fun a S r S1 h hk => xX7_drawOrder_2 hF hN hR (K := fun r S => match r with | .inl a => X F 0 2 [(0, .ref (gA F 0)), (1, .long x1), (3, .int a)] [] S | .inr b => K b S) (fun _ _ h => h) (fun q S h => hex21 q S h) h (by cases r <;> exact hk)) h hk
noncomputable def X7_drawOrder_26 (x3 : Int64) (x5 : Int32) (S : St) : Option (((Int64 × Int32) ⊕ Int64) × St) :=
  oi (x5 < (1 : Int32)) (some (.inr x3, S)) (og (¬ (x5 + (1 : Int32)) = 0) (og (inb x5 6) (og (inb ((((((1103515245 : Int64) * x3) + (12345 : Int64)) &&& (2147483647 : Int64)) >>> ((16 : Int32).toInt64 &&& 63)).toInt32 - (((((1103515245 : Int64) * x3) + (12345 : Int64)) &&& (2147483647 : Int64)) >>> ((16 : Int32).toInt64 &&& 63)).toInt32 / (x5 + (1 : Int32)) * (x5 + (1 : Int32))) 6) (og (inb x5 6) (ol (si S 74 (ix x5) (gi S 74 (ix ((((((1103515245 : Int64) * x3) + (12345 : Int64)) &&& (2147483647 : Int64)) >>> ((16 : Int32).toInt64 &&& 63)).toInt32 - (((((1103515245 : Int64) * x3) + (12345 : Int64)) &&& (2147483647 : Int64)) >>> ((16 : Int32).toInt64 &&& 63)).toInt32 / (x5 + (1 : Int32)) * (x5 + (1 : Int32)))))) (fun T4 => og (inb ((((((1103515245 : Int64) * x3) + (12345 : Int64)) &&& (2147483647 : Int64)) >>> ((16 : Int32).toInt64 &&& 63)).toInt32 - (((((1103515245 : Int64) * x3) + (12345 : Int64)) &&& (2147483647 : Int64)) >>> ((16 : Int32).toInt64 &&& 63)).toInt32 / (x5 + (1 : Int32)) * (x5 + (1 : Int32))) 6) (ol (si T4 74 (ix ((((((1103515245 : Int64) * x3) + (12345 : Int64)) &&& (2147483647 : Int64)) >>> ((16 : Int32).toInt64 &&& 63)).toInt32 - (((((1103515245 : Int64) * x3) + (12345 : Int64)) &&& (2147483647 : Int64)) >>> ((16 : Int32).toInt64 &&& 63)).toInt32 / (x5 + (1 : Int32)) * (x5 + (1 : Int32)))) (gi S 74 (ix x5))) (fun T5 => some (.inl (((((1103515245 : Int64) * x3) + (12345 : Int64)) &&& (2147483647 : Int64)), (x5 + (-1 : Int32))), T5)))))))))
set_option maxHeartbeats 4000000 in
set_option maxRecDepth 20000 in
theorem xX7_drawOrder_26 {F : Cx} (hF : Ok F cX7_drawOrder RX7) (hN : nLF F 8) (hR : RmF F 0 0) {x3 : Int64} {x5 : Int32} {K : ((Int64 × Int32) ⊕ Int64) → St → Prop} (hag : ∀ (a : Int64 × Int32) (S : St), K (.inl a) S → X F 0 26 [(0, .ref (gA F 0)), (3, .long a.1), (5, .int a.2)] [] S) (hex96 : ∀ (q : Int64) (S : St), K (.inr q) S → X F 0 96 [(3, .long q)] [] S) {S : St} {r : (Int64 × Int32) ⊕ Int64} {S1 : St} (h : X7_drawOrder_26 x3 x5 S = some (r, S1)) (hk : K r S1) : X F 0 26 [(0, .ref (gA F 0)), (3, .long x3), (5, .int x5)] [] S := by
  unfold X7_drawOrder_26 at h
  refine x_iload hF dX7_drawOrder_26 rfl ?_
  refine x_iconst (v := (1 : Int32)) hF dX7_drawOrder_28 (by decide) ?_
  refine x_icmp_lt (tgt := 96) hF dX7_drawOrder_29 (by decide) (fun hc => ?_) (fun hc => ?_)
  · have h := oi_pos hc h
    obtain ⟨rfl, rfl⟩ := sm h
    exact x_sub (hex96 _ _ hk) ⟨rfl, trivial⟩
  · have h := oi_neg hc h
    refine x_ldc2_w (v := (1103515245 : Int64)) hF dX7_drawOrder_32 tw_943 ?_
    refine x_lload_n hF dX7_drawOrder_35 rfl rfl ?_
    refine x_lmul hF dX7_drawOrder_36 ?_
    refine x_ldc2_w (v := (12345 : Int64)) hF dX7_drawOrder_37 tw_944 ?_
    refine x_ladd hF dX7_drawOrder_40 ?_
    refine x_ldc2_w (v := (2147483647 : Int64)) hF dX7_drawOrder_41 tw_945 ?_
    refine x_land hF dX7_drawOrder_44 ?_
    refine x_lstore_n [(3, _), (0, _), (5, _)] hF hN dX7_drawOrder_45 rfl (by decide) rfl ?_
    refine x_lload_n hF dX7_drawOrder_46 rfl rfl ?_
    refine x_bipush (v := (16 : Int32)) hF dX7_drawOrder_47 (by decide) ?_
    refine x_lshr hF dX7_drawOrder_49 ?_
    refine x_l2i hF dX7_drawOrder_50 ?_
    refine x_iload hF dX7_drawOrder_51 rfl ?_
    refine x_iconst (v := (1 : Int32)) hF dX7_drawOrder_53 (by decide) ?_
    refine x_iadd hF dX7_drawOrder_54 ?_
    obtain ⟨hg, h⟩ := og_some h
    refine x_irem hF dX7_drawOrder_55 hg ?_
    refine x_istore [(6, _), (3, _), (0, _), (5, _)] hF hN dX7_drawOrder_56 (by decide) rfl ?_
    refine x_aload_n hF dX7_drawOrder_58 rfl rfl ?_
    refine x_getr hF sh0 7 rfl ck6 (by decide) (by decide) tw_299 rfl dX7_drawOrder_59 ?_
    refine x_iload hF dX7_drawOrder_62 rfl ?_
    obtain ⟨hg, h⟩ := og_some h
    refine x_iald hF sh74 (by decide) hg rfl dX7_drawOrder_64 ?_
    refine x_istore [(7, _), (6, _), (3, _), (0, _), (5, _)] hF hN dX7_drawOrder_65 (by decide) rfl ?_
    refine x_aload_n hF dX7_drawOrder_67 rfl rfl ?_
    refine x_getr hF sh0 7 rfl ck6 (by decide) (by decide) tw_299 rfl dX7_drawOrder_68 ?_
    refine x_iload hF dX7_drawOrder_71 rfl ?_
    refine x_aload_n hF dX7_drawOrder_73 rfl rfl ?_
    refine x_getr hF sh0 7 rfl ck6 (by decide) (by decide) tw_299 rfl dX7_drawOrder_74 ?_
    refine x_iload hF dX7_drawOrder_77 rfl ?_
    obtain ⟨hg, h⟩ := og_some h
    refine x_iald hF sh74 (by decide) hg rfl dX7_drawOrder_79 ?_
    obtain ⟨hg, h⟩ := og_some h
    obtain ⟨T4, eT4, h⟩ := ol_some h
    refine x_iast hF sh74 (by decide) hg rfl eT4 dX7_drawOrder_80 ?_
    refine x_aload_n hF dX7_drawOrder_81 rfl rfl ?_
    refine x_getr hF sh0 7 rfl ck6 (by decide) (by decide) tw_299 rfl dX7_drawOrder_82 ?_
    refine x_iload hF dX7_drawOrder_85 rfl ?_
    refine x_iload hF dX7_drawOrder_87 rfl ?_
    obtain ⟨hg, h⟩ := og_some h
    obtain ⟨T5, eT5, h⟩ := ol_some h
    refine x_iast hF sh74 (by decide) hg rfl eT5 dX7_drawOrder_89 ?_
    refine x_iinc [(5, _), (7, _), (6, _), (3, _), (0, _)] (v := (-1 : Int32)) hF hN dX7_drawOrder_90 rfl (by decide) (by decide) rfl ?_
    refine x_goto (tgt := 26) hF dX7_drawOrder_93 (by decide) ?_
    obtain ⟨rfl, rfl⟩ := sm h
    exact x_sub (hag _ _ hk) ⟨rfl, rfl, rfl, trivial⟩
noncomputable def X7_drawOrder_26L (a : Int64 × Int32) (S : St) : Option (Int64 × St) :=
  lp (fun (a : Int64 × Int32) (S : St) => X7_drawOrder_26 a.1 a.2 S) a S
theorem xX7_drawOrder_26L {F : Cx} (hF : Ok F cX7_drawOrder RX7) (hN : nLF F 8) (hR : RmF F 0 0) {K : Int64 → St → Prop} (hex96 : ∀ (q : Int64) (S : St), K (q) S → X F 0 96 [(3, .long q)] [] S) {a : Int64 × Int32} {S : St} {b : Int64} {S1 : St} (h : X7_drawOrder_26L  a S = some (b, S1)) (hk : K b S1) : X F 0 26 [(0, .ref (gA F 0)), (3, .long a.1), (5, .int a.2)] [] S := by
  unfold X7_drawOrder_26L at h
  exact lp_rule (Xh := fun (a : Int64 × Int32) (S : St) => X F 0 26 [(0, .ref (gA F 0)), (3, .long a.1), (5, .int a.2)] [] S) (K := K) (fun a S r S1 h hk => xX7_drawOrder_26 hF hN hR (K := fun r S => match r with | .inl a => X F 0 26 [(0, .ref (gA F 0)), (3, .long a.1), (5, .int a.2)] [] S | .inr b => K b S) (fun _ _ h => h) (fun q S h => hex96 q S h) h (by cases r <;> exact hk)) h hk
noncomputable def X7_drawOrder (x1 : Int64) (S : St) : Option (Int64 × St) :=
  ob (X7_drawOrder_2L x1 (0 : Int32) S) (fun b2 S3 => ob (X7_drawOrder_26L (x1, (5 : Int32)) S3) (fun b6 S7 => some (b6, S7)))
set_option maxHeartbeats 4000000 in
set_option maxRecDepth 20000 in
theorem ctX7_drawOrder {l : Launch} {G : Ga} {x1 : Int64} (hl : l.stackTraces = false) {S : St} {r : Int64} {S1 : St} (h : X7_drawOrder x1 S = some (r, S1)) : CT l G 0 yX7_drawOrder cX7_drawOrder 8 (some .long) [.ref (G.1 0), .long x1] S (some (.long r)) S1 := by
  refine ct_of hl (by decide) (Nat.le_of_ble_eq_true rfl) (fun F hFl hFG hF hN hR hret => ?_)
  subst hFl hFG
  show X F 0 0 [(0, .ref (gA F 0)), (1, .long x1)] [] S
  have hret : ∀ (v : Int64) (S : St) (pc : Nat) (ls : List (Nat × Value)), (v = r ∧ S = S1) → decode cX7_drawOrder pc = .ok (.lreturn, 1) → X F 0 pc ls [.long v] S := fun v S2 pc ls hq hd => by obtain ⟨rfl, rfl⟩ := hq; exact hret.2.2.1 pc ls v rfl rfl hd
  have hk : r = r ∧ S1 = S1 := ⟨rfl, rfl⟩
  unfold X7_drawOrder at h
  refine x_iconst (v := (0 : Int32)) hF dX7_drawOrder_0 (by decide) ?_
  refine x_istore_n [(3, _), (0, _), (1, _)] hF hN dX7_drawOrder_1 rfl (by decide) rfl ?_
  obtain ⟨b2, S3, hlb2, h⟩ := ob_some h
  refine x_sub (xX7_drawOrder_2L hF hN hR (K := fun bb SS => bb = b2 ∧ SS = S3) ?_ hlb2 ⟨rfl, rfl⟩) ⟨rfl, rfl, rfl, trivial⟩
  rintro _ _ ⟨_, rfl⟩
  refine x_lload_n hF dX7_drawOrder_21 rfl rfl ?_
  refine x_lstore_n [(3, _), (0, _), (1, _)] hF hN dX7_drawOrder_22 rfl (by decide) rfl ?_
  refine x_iconst (v := (5 : Int32)) hF dX7_drawOrder_23 (by decide) ?_
  refine x_istore [(5, _), (3, _), (0, _), (1, _)] hF hN dX7_drawOrder_24 (by decide) rfl ?_
  obtain ⟨b6, S7, hlb6, h⟩ := ob_some h
  refine x_sub (xX7_drawOrder_26L hF hN hR (K := fun bb SS => bb = b6 ∧ SS = S7) ?_ hlb6 ⟨rfl, rfl⟩) ⟨rfl, rfl, rfl, trivial⟩
  rintro _ _ ⟨rfl, rfl⟩
  refine x_lload_n hF dX7_drawOrder_96 rfl rfl ?_
  obtain ⟨rfl, rfl⟩ := sm h
  exact hret _ _ _ _ hk dX7_drawOrder_97
noncomputable def X7_flowsBefore_4 (x1 : Int32) (x2 : Int32) (x3 : Int32) (S : St) : Option (((Int32 × Int32) ⊕ Int32) × St) :=
  oi ((6 : Int32) ≤ x3) (some (.inr x2, S)) (og (inb x3 6) (oi ((gi S 74 (ix x3)) = x1) (some (.inr x2, S)) (og (inb x3 6) (some (.inl ((x2 ||| ((1 : Int32) <<< ((gi S 74 (ix x3)) &&& 31))), (x3 + (1 : Int32))), S)))))
set_option maxHeartbeats 4000000 in
set_option maxRecDepth 20000 in
theorem xX7_flowsBefore_4 {F : Cx} (hF : Ok F cX7_flowsBefore RX7) (hN : nLF F 4) (hR : RmF F 0 0) {x1 : Int32} {x2 : Int32} {x3 : Int32} {K : ((Int32 × Int32) ⊕ Int32) → St → Prop} (hag : ∀ (a : Int32 × Int32) (S : St), K (.inl a) S → X F 0 4 [(0, .ref (gA F 0)), (1, .int x1), (2, .int a.1), (3, .int a.2)] [] S) (hex37 : ∀ (q : Int32) (S : St), K (.inr q) S → X F 0 37 [(2, .int q)] [] S) {S : St} {r : (Int32 × Int32) ⊕ Int32} {S1 : St} (h : X7_flowsBefore_4 x1 x2 x3 S = some (r, S1)) (hk : K r S1) : X F 0 4 [(0, .ref (gA F 0)), (1, .int x1), (2, .int x2), (3, .int x3)] [] S := by
  unfold X7_flowsBefore_4 at h
  refine x_iload_n hF dX7_flowsBefore_4 rfl rfl ?_
  refine x_bipush (v := (6 : Int32)) hF dX7_flowsBefore_5 (by decide) ?_
  refine x_icmp_ge (tgt := 37) hF dX7_flowsBefore_7 (by decide) (fun hc => ?_) (fun hc => ?_)
  · have h := oi_pos hc h
    obtain ⟨rfl, rfl⟩ := sm h
    exact x_sub (hex37 _ _ hk) ⟨rfl, trivial⟩
  · have h := oi_neg hc h
    refine x_aload_n hF dX7_flowsBefore_10 rfl rfl ?_
    refine x_getr hF sh0 7 rfl ck6 (by decide) (by decide) tw_299 rfl dX7_flowsBefore_11 ?_
    refine x_iload_n hF dX7_flowsBefore_14 rfl rfl ?_
    obtain ⟨hg, h⟩ := og_some h
    refine x_iald hF sh74 (by decide) hg rfl dX7_flowsBefore_15 ?_
    refine x_iload_n hF dX7_flowsBefore_16 rfl rfl ?_
    refine x_icmp_eq (tgt := 37) hF dX7_flowsBefore_17 (by decide) (fun hc => ?_) (fun hc => ?_)
    · have h := oi_pos hc h
      obtain ⟨rfl, rfl⟩ := sm h
      exact x_sub (hex37 _ _ hk) ⟨rfl, trivial⟩
    · have h := oi_neg hc h
      refine x_iload_n hF dX7_flowsBefore_20 rfl rfl ?_
      refine x_iconst (v := (1 : Int32)) hF dX7_flowsBefore_21 (by decide) ?_
      refine x_aload_n hF dX7_flowsBefore_22 rfl rfl ?_
      refine x_getr hF sh0 7 rfl ck6 (by decide) (by decide) tw_299 rfl dX7_flowsBefore_23 ?_
      refine x_iload_n hF dX7_flowsBefore_26 rfl rfl ?_
      obtain ⟨hg, h⟩ := og_some h
      refine x_iald hF sh74 (by decide) hg rfl dX7_flowsBefore_27 ?_
      refine x_ishl hF dX7_flowsBefore_28 ?_
      refine x_ior hF dX7_flowsBefore_29 ?_
      refine x_istore_n [(2, _), (0, _), (1, _), (3, _)] hF hN dX7_flowsBefore_30 rfl (by decide) rfl ?_
      refine x_iinc [(3, _), (2, _), (0, _), (1, _)] (v := (1 : Int32)) hF hN dX7_flowsBefore_31 rfl (by decide) (by decide) rfl ?_
      refine x_goto (tgt := 4) hF dX7_flowsBefore_34 (by decide) ?_
      obtain ⟨rfl, rfl⟩ := sm h
      exact x_sub (hag _ _ hk) ⟨rfl, rfl, rfl, rfl, trivial⟩
noncomputable def X7_flowsBefore_4L (x1 : Int32) (a : Int32 × Int32) (S : St) : Option (Int32 × St) :=
  lp (fun (a : Int32 × Int32) (S : St) => X7_flowsBefore_4 x1 a.1 a.2 S) a S
theorem xX7_flowsBefore_4L {F : Cx} (hF : Ok F cX7_flowsBefore RX7) (hN : nLF F 4) (hR : RmF F 0 0) {x1 : Int32} {K : Int32 → St → Prop} (hex37 : ∀ (q : Int32) (S : St), K (q) S → X F 0 37 [(2, .int q)] [] S) {a : Int32 × Int32} {S : St} {b : Int32} {S1 : St} (h : X7_flowsBefore_4L x1 a S = some (b, S1)) (hk : K b S1) : X F 0 4 [(0, .ref (gA F 0)), (1, .int x1), (2, .int a.1), (3, .int a.2)] [] S := by
  unfold X7_flowsBefore_4L at h
  exact lp_rule (Xh := fun (a : Int32 × Int32) (S : St) => X F 0 4 [(0, .ref (gA F 0)), (1, .int x1), (2, .int a.1), (3, .int a.2)] [] S) (K := K) (fun a S r S1 h hk => xX7_flowsBefore_4 hF hN hR (K := fun r S => match r with | .inl a => X F 0 4 [(0, .ref (gA F 0)), (1, .int x1), (2, .int a.1), (3, .int a.2)] [] S | .inr b => K b S) (fun _ _ h => h) (fun q S h => hex37 q S h) h (by cases r <;> exact hk)) h hk
noncomputable def X7_flowsBefore (x1 : Int32) (S : St) : Option (Int32 × St) :=
  ob (X7_flowsBefore_4L x1 ((0 : Int32), (0 : Int32)) S) (fun b1 S2 => some (b1, S2))
set_option maxHeartbeats 4000000 in
set_option maxRecDepth 20000 in
theorem ctX7_flowsBefore {l : Launch} {G : Ga} {x1 : Int32} (hl : l.stackTraces = false) {S : St} {r : Int32} {S1 : St} (h : X7_flowsBefore x1 S = some (r, S1)) : CT l G 0 yX7_flowsBefore cX7_flowsBefore 4 (some .int) [.ref (G.1 0), .int x1] S (some (.int r)) S1 := by
  refine ct_of hl (by decide) (Nat.le_of_ble_eq_true rfl) (fun F hFl hFG hF hN hR hret => ?_)
  subst hFl hFG
  show X F 0 0 [(0, .ref (gA F 0)), (1, .int x1)] [] S
  have hret : ∀ (v : Int32) (S : St) (pc : Nat) (ls : List (Nat × Value)), (v = r ∧ S = S1) → decode cX7_flowsBefore pc = .ok (.ireturn, 1) → X F 0 pc ls [.int v] S := fun v S2 pc ls hq hd => by obtain ⟨rfl, rfl⟩ := hq; exact hret.1 pc ls v rfl rfl hd
  have hk : r = r ∧ S1 = S1 := ⟨rfl, rfl⟩
  unfold X7_flowsBefore at h
  refine x_iconst (v := (0 : Int32)) hF dX7_flowsBefore_0 (by decide) ?_
  refine x_istore_n [(2, _), (0, _), (1, _)] hF hN dX7_flowsBefore_1 rfl (by decide) rfl ?_
  refine x_iconst (v := (0 : Int32)) hF dX7_flowsBefore_2 (by decide) ?_
  refine x_istore_n [(3, _), (2, _), (0, _), (1, _)] hF hN dX7_flowsBefore_3 rfl (by decide) rfl ?_
  obtain ⟨b1, S2, hlb1, h⟩ := ob_some h
  refine x_sub (xX7_flowsBefore_4L hF hN hR (K := fun bb SS => bb = b1 ∧ SS = S2) ?_ hlb1 ⟨rfl, rfl⟩) ⟨rfl, rfl, rfl, rfl, trivial⟩
  rintro _ _ ⟨rfl, rfl⟩
  refine x_iload_n hF dX7_flowsBefore_37 rfl rfl ?_
  obtain ⟨rfl, rfl⟩ := sm h
  exact hret _ _ _ _ hk dX7_flowsBefore_38
