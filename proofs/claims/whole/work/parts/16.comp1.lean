noncomputable def X4_copyFrom (k : Nat) (o1 : Nat) (S : St) : Option (Unit × St) :=
  ol (si S k 0 (gi S o1 0)) (fun T1 => og (cpy (0 : Int32) (0 : Int32) (40 : Int32) 40 40) (ol (sc T1 (o1 + 1) (k + 1) (ix (0 : Int32)) (ix (0 : Int32)) (ix (40 : Int32))) (fun T2 => og (cpy (0 : Int32) (0 : Int32) (40 : Int32) 40 40) (ol (sc T2 (o1 + 2) (k + 2) (ix (0 : Int32)) (ix (0 : Int32)) (ix (40 : Int32))) (fun T3 => og (cpy (0 : Int32) (0 : Int32) (40 : Int32) 40 40) (ol (sc T3 (o1 + 3) (k + 3) (ix (0 : Int32)) (ix (0 : Int32)) (ix (40 : Int32))) (fun T4 => og (cpy (0 : Int32) (0 : Int32) (14 : Int32) 14 14) (ol (sc T4 (o1 + 4) (k + 4) (ix (0 : Int32)) (ix (0 : Int32)) (ix (14 : Int32))) (fun T5 => some ((), T5))))))))))
set_option maxHeartbeats 4000000 in
set_option maxRecDepth 20000 in
theorem ctX4_copyFrom {l : Launch} {G : Ga} {k : Nat} (ik : isRecording k) {o1 : Nat} (io1 : isRecording o1) (hl : l.stackTraces = false) {S : St} {r : Unit} {S1 : St} (h : X4_copyFrom k o1 S = some (r, S1)) : CT l G 1 yX4_copyFrom cX4_copyFrom 2 none [.ref (G.1 k), .ref (G.1 o1)] S none S1 := by
  refine ct_of hl (by decide) (Nat.le_of_ble_eq_true rfl) (fun F hFl hFG hF hN hR hret => ?_)
  subst hFl hFG
  show X F 0 0 [(0, .ref (gA F k)), (1, .ref (gA F o1))] [] S
  have hret : ∀ (v : Unit) (S : St) (pc : Nat) (ls : List (Nat × Value)), (v = r ∧ S = S1) → decode cX4_copyFrom pc = .ok (.return_, 1) → X F 0 pc ls [] S := fun v S2 pc ls hq hd => by obtain ⟨rfl, rfl⟩ := hq; exact hret.2.2.2.2.1 pc ls rfl rfl hd
  have hk : r = r ∧ S1 = S1 := ⟨rfl, rfl⟩
  unfold X4_copyFrom at h
  refine x_aload_n hF dX4_copyFrom_0 rfl rfl ?_
  refine x_aload_n hF dX4_copyFrom_1 rfl rfl ?_
  refine x_geti hF (shRecording_0 io1) 0 rfl ck3 (ltRecording_0 io1) (by decide) tw_118 rfl dX4_copyFrom_2 ?_
  obtain ⟨T1, eT1, h⟩ := ol_some h
  refine x_puti hF (shRecording_0 ik) 0 rfl ck3 (ltRecording_0 ik) (by decide) tw_118 rfl rfl rfl rfl rfl eT1 dX4_copyFrom_5 ?_
  refine x_aload_n hF dX4_copyFrom_8 rfl rfl ?_
  refine x_getr hF (shRecording_0 io1) 1 rfl ck3 (ltRecording_0 io1) (by decide) tw_121 rfl dX4_copyFrom_9 ?_
  refine x_iconst (v := (0 : Int32)) hF dX4_copyFrom_12 (by decide) ?_
  refine x_aload_n hF dX4_copyFrom_13 rfl rfl ?_
  refine x_getr hF (shRecording_0 ik) 1 rfl ck3 (ltRecording_0 ik) (by decide) tw_121 rfl dX4_copyFrom_14 ?_
  refine x_iconst (v := (0 : Int32)) hF dX4_copyFrom_17 (by decide) ?_
  refine x_bipush (v := (40 : Int32)) hF dX4_copyFrom_18 (by decide) ?_
  obtain ⟨hg, h⟩ := og_some h
  obtain ⟨T2, eT2, h⟩ := ol_some h
  refine x_copy hF hN hR (shRecording_1 io1) (ltRecording_1 io1) (shRecording_1 ik) (ltRecording_1 ik) hg tw_709 tw_403 tw_402 tw_86 (by decide) (Nat.le_of_ble_eq_true rfl) eT2 dX4_copyFrom_20 ?_
  refine x_aload_n hF dX4_copyFrom_23 rfl rfl ?_
  refine x_getr hF (shRecording_0 io1) 2 rfl ck3 (ltRecording_0 io1) (by decide) tw_124 rfl dX4_copyFrom_24 ?_
  refine x_iconst (v := (0 : Int32)) hF dX4_copyFrom_27 (by decide) ?_
  refine x_aload_n hF dX4_copyFrom_28 rfl rfl ?_
  refine x_getr hF (shRecording_0 ik) 2 rfl ck3 (ltRecording_0 ik) (by decide) tw_124 rfl dX4_copyFrom_29 ?_
  refine x_iconst (v := (0 : Int32)) hF dX4_copyFrom_32 (by decide) ?_
  refine x_bipush (v := (40 : Int32)) hF dX4_copyFrom_33 (by decide) ?_
  obtain ⟨hg, h⟩ := og_some h
  obtain ⟨T3, eT3, h⟩ := ol_some h
  refine x_copy hF hN hR (shRecording_2 io1) (ltRecording_2 io1) (shRecording_2 ik) (ltRecording_2 ik) hg tw_709 tw_403 tw_402 tw_86 (by decide) (Nat.le_of_ble_eq_true rfl) eT3 dX4_copyFrom_35 ?_
  refine x_aload_n hF dX4_copyFrom_38 rfl rfl ?_
  refine x_getr hF (shRecording_0 io1) 3 rfl ck3 (ltRecording_0 io1) (by decide) tw_127 rfl dX4_copyFrom_39 ?_
  refine x_iconst (v := (0 : Int32)) hF dX4_copyFrom_42 (by decide) ?_
  refine x_aload_n hF dX4_copyFrom_43 rfl rfl ?_
  refine x_getr hF (shRecording_0 ik) 3 rfl ck3 (ltRecording_0 ik) (by decide) tw_127 rfl dX4_copyFrom_44 ?_
  refine x_iconst (v := (0 : Int32)) hF dX4_copyFrom_47 (by decide) ?_
  refine x_bipush (v := (40 : Int32)) hF dX4_copyFrom_48 (by decide) ?_
  obtain ⟨hg, h⟩ := og_some h
  obtain ⟨T4, eT4, h⟩ := ol_some h
  refine x_copy hF hN hR (shRecording_3 io1) (ltRecording_3 io1) (shRecording_3 ik) (ltRecording_3 ik) hg tw_709 tw_403 tw_402 tw_86 (by decide) (Nat.le_of_ble_eq_true rfl) eT4 dX4_copyFrom_50 ?_
  refine x_aload_n hF dX4_copyFrom_53 rfl rfl ?_
  refine x_getr hF (shRecording_0 io1) 4 rfl ck3 (ltRecording_0 io1) (by decide) tw_130 rfl dX4_copyFrom_54 ?_
  refine x_iconst (v := (0 : Int32)) hF dX4_copyFrom_57 (by decide) ?_
  refine x_aload_n hF dX4_copyFrom_58 rfl rfl ?_
  refine x_getr hF (shRecording_0 ik) 4 rfl ck3 (ltRecording_0 ik) (by decide) tw_130 rfl dX4_copyFrom_59 ?_
  refine x_iconst (v := (0 : Int32)) hF dX4_copyFrom_62 (by decide) ?_
  refine x_bipush (v := (14 : Int32)) hF dX4_copyFrom_63 (by decide) ?_
  obtain ⟨hg, h⟩ := og_some h
  obtain ⟨T5, eT5, h⟩ := ol_some h
  refine x_copy hF hN hR (shRecording_4 io1) (ltRecording_4 io1) (shRecording_4 ik) (ltRecording_4 ik) hg tw_709 tw_403 tw_402 tw_86 (by decide) (Nat.le_of_ble_eq_true rfl) eT5 dX4_copyFrom_65 ?_
  obtain ⟨rfl, rfl⟩ := sm h
  exact hret _ _ _ _ hk dX4_copyFrom_68
noncomputable def X1_save (o1 : Nat) (S : St) : Option (Unit × St) :=
  ol (si S 6 2 (((gi S 6 2) + (1 : Int32)) - ((gi S 6 2) + (1 : Int32)) / (8 : Int32) * (8 : Int32))) (fun T1 => og (inb (gi T1 6 2) 8) (ob (X4_copyFrom (8 + 5 * ix (gi T1 6 2)) o1 T1) (fun r2 S3 => ol (si S3 6 1 (if (8 : Int32) < ((gi S3 6 1) + (1 : Int32)) then (8 : Int32) else ((gi S3 6 1) + (1 : Int32)))) (fun T4 => some ((), T4)))))
set_option maxHeartbeats 4000000 in
set_option maxRecDepth 20000 in
theorem ctX1_save {l : Launch} {G : Ga} {o1 : Nat} (io1 : isRecording o1) (hl : l.stackTraces = false) {S : St} {r : Unit} {S1 : St} (h : X1_save o1 S = some (r, S1)) : CT l G 2 yX1_save cX1_save 2 none [.ref (G.1 6), .ref (G.1 o1)] S none S1 := by
  refine ct_of hl (by decide) (Nat.le_of_ble_eq_true rfl) (fun F hFl hFG hF hN hR hret => ?_)
  subst hFl hFG
  show X F 0 0 [(0, .ref (gA F 6)), (1, .ref (gA F o1))] [] S
  have hret : ∀ (v : Unit) (S : St) (pc : Nat) (ls : List (Nat × Value)), (v = r ∧ S = S1) → decode cX1_save pc = .ok (.return_, 1) → X F 0 pc ls [] S := fun v S2 pc ls hq hd => by obtain ⟨rfl, rfl⟩ := hq; exact hret.2.2.2.2.1 pc ls rfl rfl hd
  have hk : r = r ∧ S1 = S1 := ⟨rfl, rfl⟩
  unfold X1_save at h
  refine x_aload_n hF dX1_save_0 rfl rfl ?_
  refine x_aload_n hF dX1_save_1 rfl rfl ?_
  refine x_geti hF sh6 2 rfl ck0 (by decide) (by decide) tw_157 rfl dX1_save_2 ?_
  refine x_iconst (v := (1 : Int32)) hF dX1_save_5 (by decide) ?_
  refine x_iadd hF dX1_save_6 ?_
  refine x_bipush (v := (8 : Int32)) hF dX1_save_7 (by decide) ?_
  refine x_irem hF dX1_save_9 (by decide) ?_
  obtain ⟨T1, eT1, h⟩ := ol_some h
  refine x_puti hF sh6 2 rfl ck0 (by decide) (by decide) tw_157 rfl rfl rfl rfl rfl eT1 dX1_save_10 ?_
  refine x_aload_n hF dX1_save_13 rfl rfl ?_
  refine x_getr hF sh6 0 rfl ck0 (by decide) (by decide) tw_154 rfl dX1_save_14 ?_
  refine x_aload_n hF dX1_save_17 rfl rfl ?_
  refine x_geti hF sh6 2 rfl ck0 (by decide) (by decide) tw_157 rfl dX1_save_18 ?_
  obtain ⟨hg21, h⟩ := og_some h
  refine x_aaldR hF sh7 (by decide) hg21 dX1_save_21 ?_
  refine x_aload_n hF dX1_save_22 rfl rfl ?_
  obtain ⟨r2, S3, hcall, h⟩ := ob_some h
  refine x_cVv hF hN hR (ctX4_copyFrom (isRecording_st hg21) io1 hF.tr hcall) mwX4_copyFrom miX4_copyFrom (shRecording_0 (isRecording_st hg21)) ck3 (ltRecording_0 (isRecording_st hg21)) tw_705 ⟨by decide, by decide⟩ rfl rfl (Nat.le_of_ble_eq_true rfl) dX1_save_23 ?_
  refine x_aload_n hF dX1_save_26 rfl rfl ?_
  refine x_aload_n hF dX1_save_27 rfl rfl ?_
  refine x_geti hF sh6 1 rfl ck0 (by decide) (by decide) tw_155 rfl dX1_save_28 ?_
  refine x_iconst (v := (1 : Int32)) hF dX1_save_31 (by decide) ?_
  refine x_iadd hF dX1_save_32 ?_
  refine x_bipush (v := (8 : Int32)) hF dX1_save_33 (by decide) ?_
  refine x_mmin hF hR tw_710 mcmin.1 tw_87 mcmin.2 ⟨by decide, by decide⟩ (Nat.le_of_ble_eq_true rfl) dX1_save_35 ?_
  obtain ⟨T4, eT4, h⟩ := ol_some h
  refine x_puti hF sh6 1 rfl ck0 (by decide) (by decide) tw_155 rfl rfl rfl rfl rfl eT4 dX1_save_38 ?_
  obtain ⟨rfl, rfl⟩ := sm h
  exact hret _ _ _ _ hk dX1_save_41
noncomputable def X4_isFull (k : Nat) (S : St) : Option (Int32 × St) :=
  oi ((gi S k 0) < (40 : Int32)) (some ((0 : Int32), S)) (some ((1 : Int32), S))
set_option maxHeartbeats 4000000 in
set_option maxRecDepth 20000 in
theorem ctX4_isFull {l : Launch} {G : Ga} {k : Nat} (ik : isRecording k) (hl : l.stackTraces = false) {S : St} {r : Int32} {S1 : St} (h : X4_isFull k S = some (r, S1)) : CT l G 0 yX4_isFull cX4_isFull 1 (some .boolean) [.ref (G.1 k)] S (some (.int r)) S1 := by
  refine ct_of hl (by decide) (Nat.le_of_ble_eq_true rfl) (fun F hFl hFG hF hN hR hret => ?_)
  subst hFl hFG
  show X F 0 0 [(0, .ref (gA F k))] [] S
  have hret : ∀ (v : Int32) (S : St) (pc : Nat) (ls : List (Nat × Value)), isB v → (v = r ∧ S = S1) → decode cX4_isFull pc = .ok (.ireturn, 1) → X F 0 pc ls [.int v] S := fun v S2 pc ls hb hq hd => by obtain ⟨rfl, rfl⟩ := hq; exact hret.2.1 pc ls v rfl hb rfl hd
  have hk : r = r ∧ S1 = S1 := ⟨rfl, rfl⟩
  unfold X4_isFull at h
  refine x_aload_n hF dX4_isFull_0 rfl rfl ?_
  refine x_geti hF (shRecording_0 ik) 0 rfl ck3 (ltRecording_0 ik) (by decide) tw_118 rfl dX4_isFull_1 ?_
  refine x_bipush (v := (40 : Int32)) hF dX4_isFull_4 (by decide) ?_
  refine x_icmp_lt (tgt := 13) hF dX4_isFull_6 (by decide) (fun hc => ?_) (fun hc => ?_)
  · have h := oi_pos hc h
    refine x_iconst (v := (0 : Int32)) hF dX4_isFull_13 (by decide) ?_
    obtain ⟨rfl, rfl⟩ := sm h
    exact hret _ _ _ _ (by decide) hk dX4_isFull_14
  · have h := oi_neg hc h
    refine x_iconst (v := (1 : Int32)) hF dX4_isFull_9 (by decide) ?_
    refine x_goto (tgt := 14) hF dX4_isFull_10 (by decide) ?_
    obtain ⟨rfl, rfl⟩ := sm h
    exact hret _ _ _ _ (by decide) hk dX4_isFull_14
noncomputable def X4_shift (k : Nat) (x1 : Int32) (x2 : Int32) (S : St) : Option (Unit × St) :=
  og (cpy x1 x2 ((gi S k 0) - x1) 40 40) (ol (sc S (k + 1) (k + 1) (ix x1) (ix x2) (ix ((gi S k 0) - x1))) (fun T1 => og (cpy x1 x2 ((gi T1 k 0) - x1) 40 40) (ol (sc T1 (k + 2) (k + 2) (ix x1) (ix x2) (ix ((gi T1 k 0) - x1))) (fun T2 => og (cpy x1 x2 ((gi T2 k 0) - x1) 40 40) (ol (sc T2 (k + 3) (k + 3) (ix x1) (ix x2) (ix ((gi T2 k 0) - x1))) (fun T3 => some ((), T3)))))))
set_option maxHeartbeats 4000000 in
set_option maxRecDepth 20000 in
theorem ctX4_shift {l : Launch} {G : Ga} {k : Nat} (ik : isRecording k) {x1 : Int32} {x2 : Int32} (hl : l.stackTraces = false) {S : St} {r : Unit} {S1 : St} (h : X4_shift k x1 x2 S = some (r, S1)) : CT l G 1 yX4_shift cX4_shift 3 none [.ref (G.1 k), .int x1, .int x2] S none S1 := by
  refine ct_of hl (by decide) (Nat.le_of_ble_eq_true rfl) (fun F hFl hFG hF hN hR hret => ?_)
  subst hFl hFG
  show X F 0 0 [(0, .ref (gA F k)), (1, .int x1), (2, .int x2)] [] S
  have hret : ∀ (v : Unit) (S : St) (pc : Nat) (ls : List (Nat × Value)), (v = r ∧ S = S1) → decode cX4_shift pc = .ok (.return_, 1) → X F 0 pc ls [] S := fun v S2 pc ls hq hd => by obtain ⟨rfl, rfl⟩ := hq; exact hret.2.2.2.2.1 pc ls rfl rfl hd
  have hk : r = r ∧ S1 = S1 := ⟨rfl, rfl⟩
  unfold X4_shift at h
  refine x_aload_n hF dX4_shift_0 rfl rfl ?_
  refine x_getr hF (shRecording_0 ik) 1 rfl ck3 (ltRecording_0 ik) (by decide) tw_121 rfl dX4_shift_1 ?_
  refine x_iload_n hF dX4_shift_4 rfl rfl ?_
  refine x_aload_n hF dX4_shift_5 rfl rfl ?_
  refine x_getr hF (shRecording_0 ik) 1 rfl ck3 (ltRecording_0 ik) (by decide) tw_121 rfl dX4_shift_6 ?_
  refine x_iload_n hF dX4_shift_9 rfl rfl ?_
  refine x_aload_n hF dX4_shift_10 rfl rfl ?_
  refine x_geti hF (shRecording_0 ik) 0 rfl ck3 (ltRecording_0 ik) (by decide) tw_118 rfl dX4_shift_11 ?_
  refine x_iload_n hF dX4_shift_14 rfl rfl ?_
  refine x_isub hF dX4_shift_15 ?_
  obtain ⟨hg, h⟩ := og_some h
  obtain ⟨T1, eT1, h⟩ := ol_some h
  refine x_copy hF hN hR (shRecording_1 ik) (ltRecording_1 ik) (shRecording_1 ik) (ltRecording_1 ik) hg tw_709 tw_403 tw_402 tw_86 (by decide) (Nat.le_of_ble_eq_true rfl) eT1 dX4_shift_16 ?_
  refine x_aload_n hF dX4_shift_19 rfl rfl ?_
  refine x_getr hF (shRecording_0 ik) 2 rfl ck3 (ltRecording_0 ik) (by decide) tw_124 rfl dX4_shift_20 ?_
  refine x_iload_n hF dX4_shift_23 rfl rfl ?_
  refine x_aload_n hF dX4_shift_24 rfl rfl ?_
  refine x_getr hF (shRecording_0 ik) 2 rfl ck3 (ltRecording_0 ik) (by decide) tw_124 rfl dX4_shift_25 ?_
  refine x_iload_n hF dX4_shift_28 rfl rfl ?_
  refine x_aload_n hF dX4_shift_29 rfl rfl ?_
  refine x_geti hF (shRecording_0 ik) 0 rfl ck3 (ltRecording_0 ik) (by decide) tw_118 rfl dX4_shift_30 ?_
  refine x_iload_n hF dX4_shift_33 rfl rfl ?_
  refine x_isub hF dX4_shift_34 ?_
  obtain ⟨hg, h⟩ := og_some h
  obtain ⟨T2, eT2, h⟩ := ol_some h
  refine x_copy hF hN hR (shRecording_2 ik) (ltRecording_2 ik) (shRecording_2 ik) (ltRecording_2 ik) hg tw_709 tw_403 tw_402 tw_86 (by decide) (Nat.le_of_ble_eq_true rfl) eT2 dX4_shift_35 ?_
  refine x_aload_n hF dX4_shift_38 rfl rfl ?_
  refine x_getr hF (shRecording_0 ik) 3 rfl ck3 (ltRecording_0 ik) (by decide) tw_127 rfl dX4_shift_39 ?_
  refine x_iload_n hF dX4_shift_42 rfl rfl ?_
  refine x_aload_n hF dX4_shift_43 rfl rfl ?_
  refine x_getr hF (shRecording_0 ik) 3 rfl ck3 (ltRecording_0 ik) (by decide) tw_127 rfl dX4_shift_44 ?_
  refine x_iload_n hF dX4_shift_47 rfl rfl ?_
  refine x_aload_n hF dX4_shift_48 rfl rfl ?_
  refine x_geti hF (shRecording_0 ik) 0 rfl ck3 (ltRecording_0 ik) (by decide) tw_118 rfl dX4_shift_49 ?_
  refine x_iload_n hF dX4_shift_52 rfl rfl ?_
  refine x_isub hF dX4_shift_53 ?_
  obtain ⟨hg, h⟩ := og_some h
  obtain ⟨T3, eT3, h⟩ := ol_some h
  refine x_copy hF hN hR (shRecording_3 ik) (ltRecording_3 ik) (shRecording_3 ik) (ltRecording_3 ik) hg tw_709 tw_403 tw_402 tw_86 (by decide) (Nat.le_of_ble_eq_true rfl) eT3 dX4_shift_54 ?_
  obtain ⟨rfl, rfl⟩ := sm h
  exact hret _ _ _ _ hk dX4_shift_57
noncomputable def X4_insert_15 (k : Nat) (x1 : Int32) (x2 : Int32) (x3 : Int32) (x4 : Int32) (S : St) : Option (((Int32) ⊕ Int32) × St) :=
  oi (x4 ≤ 0) (some (.inr x4, S)) (og (inb (x4 - (1 : Int32)) 40) (oi ((gi S (k + 1) (ix (x4 - (1 : Int32)))) ≤ x1) (some (.inr x4, S)) (some (.inl (x4 + (-1 : Int32)), S))))
set_option maxHeartbeats 4000000 in
set_option maxRecDepth 20000 in
theorem xX4_insert_15 {F : Cx} {k : Nat} (ik : isRecording k) (hF : Ok F cX4_insert RX4) (hN : nLF F 5) (hR : RmF F 2 0) {x1 : Int32} {x2 : Int32} {x3 : Int32} {x4 : Int32} {K : ((Int32) ⊕ Int32) → St → Prop} (hag : ∀ (a : Int32) (S : St), K (.inl a) S → X F 0 15 [(0, .ref (gA F k)), (1, .int x1), (2, .int x2), (3, .int x3), (4, .int a)] [] S) (hex39 : ∀ (q : Int32) (S : St), K (.inr q) S → X F 0 39 [(0, .ref (gA F k)), (1, .int x1), (2, .int x2), (3, .int x3), (4, .int q)] [] S) {S : St} {r : (Int32) ⊕ Int32} {S1 : St} (h : X4_insert_15 k x1 x2 x3 x4 S = some (r, S1)) (hk : K r S1) : X F 0 15 [(0, .ref (gA F k)), (1, .int x1), (2, .int x2), (3, .int x3), (4, .int x4)] [] S := by
  unfold X4_insert_15 at h
  refine x_iload hF dX4_insert_15 rfl ?_
  refine x_if_le (tgt := 39) hF dX4_insert_17 (by decide) (fun hc => ?_) (fun hc => ?_)
  · have h := oi_pos hc h
    obtain ⟨rfl, rfl⟩ := sm h
    exact x_sub (hex39 _ _ hk) ⟨rfl, rfl, rfl, rfl, rfl, trivial⟩
  · have h := oi_neg hc h
    refine x_aload_n hF dX4_insert_20 rfl rfl ?_
    refine x_getr hF (shRecording_0 ik) 1 rfl ck3 (ltRecording_0 ik) (by decide) tw_121 rfl dX4_insert_21 ?_
    refine x_iload hF dX4_insert_24 rfl ?_
    refine x_iconst (v := (1 : Int32)) hF dX4_insert_26 (by decide) ?_
    refine x_isub hF dX4_insert_27 ?_
    obtain ⟨hg, h⟩ := og_some h
    refine x_iald hF (shRecording_1 ik) (ltRecording_1 ik) hg rfl dX4_insert_28 ?_
    refine x_iload_n hF dX4_insert_29 rfl rfl ?_
    refine x_icmp_le (tgt := 39) hF dX4_insert_30 (by decide) (fun hc => ?_) (fun hc => ?_)
    · have h := oi_pos hc h
      obtain ⟨rfl, rfl⟩ := sm h
      exact x_sub (hex39 _ _ hk) ⟨rfl, rfl, rfl, rfl, rfl, trivial⟩
    · have h := oi_neg hc h
      refine x_iinc [(4, _), (0, _), (1, _), (2, _), (3, _)] (v := (-1 : Int32)) hF hN dX4_insert_33 rfl (by decide) (by decide) rfl ?_
      refine x_goto (tgt := 15) hF dX4_insert_36 (by decide) ?_
      obtain ⟨rfl, rfl⟩ := sm h
      exact x_sub (hag _ _ hk) ⟨rfl, rfl, rfl, rfl, rfl, trivial⟩
noncomputable def X4_insert_15L (k : Nat) (x1 : Int32) (x2 : Int32) (x3 : Int32) (a : Int32) (S : St) : Option (Int32 × St) :=
  lp (fun (a : Int32) (S : St) => X4_insert_15 k x1 x2 x3 a S) a S
theorem xX4_insert_15L {F : Cx} {k : Nat} (ik : isRecording k) (hF : Ok F cX4_insert RX4) (hN : nLF F 5) (hR : RmF F 2 0) {x1 : Int32} {x2 : Int32} {x3 : Int32} {K : Int32 → St → Prop} (hex39 : ∀ (q : Int32) (S : St), K (q) S → X F 0 39 [(0, .ref (gA F k)), (1, .int x1), (2, .int x2), (3, .int x3), (4, .int q)] [] S) {a : Int32} {S : St} {b : Int32} {S1 : St} (h : X4_insert_15L k x1 x2 x3 a S = some (b, S1)) (hk : K b S1) : X F 0 15 [(0, .ref (gA F k)), (1, .int x1), (2, .int x2), (3, .int x3), (4, .int a)] [] S := by
  unfold X4_insert_15L at h
  exact lp_rule (Xh := fun (a : Int32) (S : St) => X F 0 15 [(0, .ref (gA F k)), (1, .int x1), (2, .int x2), (3, .int x3), (4, .int a)] [] S) (K := K) (fun a S r S1 h hk => xX4_insert_15 ik hF hN hR (K := fun r S => match r with | .inl a => X F 0 15 [(0, .ref (gA F k)), (1, .int x1), (2, .int x2), (3, .int x3), (4, .int a)] [] S | .inr b => K b S) (fun _ _ h => h) (fun q S h => hex39 q S h) h (by cases r <;> exact hk)) h hk
noncomputable def X4_insert (k : Nat) (x1 : Int32) (x2 : Int32) (x3 : Int32) (S : St) : Option (Int32 × St) :=
  ob (X4_isFull k S) (fun r1 S2 => oi (r1 = 0) (ob (X4_insert_15L k x1 x2 x3 (gi S2 k 0) S2) (fun b3 S4 => ob (X4_shift k b3 (b3 + (1 : Int32)) S4) (fun r5 S6 => og (inb b3 40) (ol (si S6 (k + 1) (ix b3) x1) (fun T7 => og (inb b3 40) (ol (si T7 (k + 2) (ix b3) x2) (fun T8 => og (inb b3 40) (ol (si T8 (k + 3) (ix b3) x3) (fun T9 => ol (si T9 k 0 ((gi T9 k 0) + (1 : Int32))) (fun T10 => some (b3, T10))))))))))) (some ((-1 : Int32), S2)))
set_option maxHeartbeats 4000000 in
set_option maxRecDepth 20000 in
theorem ctX4_insert {l : Launch} {G : Ga} {k : Nat} (ik : isRecording k) {x1 : Int32} {x2 : Int32} {x3 : Int32} (hl : l.stackTraces = false) {S : St} {r : Int32} {S1 : St} (h : X4_insert k x1 x2 x3 S = some (r, S1)) : CT l G 2 yX4_insert cX4_insert 5 (some .int) [.ref (G.1 k), .int x1, .int x2, .int x3] S (some (.int r)) S1 := by
  refine ct_of hl (by decide) (Nat.le_of_ble_eq_true rfl) (fun F hFl hFG hF hN hR hret => ?_)
  subst hFl hFG
  show X F 0 0 [(0, .ref (gA F k)), (1, .int x1), (2, .int x2), (3, .int x3)] [] S
  have hret : ∀ (v : Int32) (S : St) (pc : Nat) (ls : List (Nat × Value)), (v = r ∧ S = S1) → decode cX4_insert pc = .ok (.ireturn, 1) → X F 0 pc ls [.int v] S := fun v S2 pc ls hq hd => by obtain ⟨rfl, rfl⟩ := hq; exact hret.1 pc ls v rfl rfl hd
  have hk : r = r ∧ S1 = S1 := ⟨rfl, rfl⟩
  unfold X4_insert at h
  refine x_aload_n hF dX4_insert_0 rfl rfl ?_
  obtain ⟨r1, S2, hcall, h⟩ := ob_some h
  refine x_cVi hF hN hR (ctX4_isFull ik hF.tr hcall) mwX4_isFull miX4_isFull (shRecording_0 ik) ck3 (ltRecording_0 ik) tw_715 ⟨by decide, by decide⟩ rfl rfl (Nat.le_of_ble_eq_true rfl) dX4_insert_1 ?_
  refine x_if_eq (tgt := 9) hF dX4_insert_4 (by decide) (fun hc => ?_) (fun hc => ?_)
  · have h := oi_pos hc h
    refine x_aload_n hF dX4_insert_9 rfl rfl ?_
    refine x_geti hF (shRecording_0 ik) 0 rfl ck3 (ltRecording_0 ik) (by decide) tw_118 rfl dX4_insert_10 ?_
    refine x_istore [(4, _), (0, _), (1, _), (2, _), (3, _)] hF hN dX4_insert_13 (by decide) rfl ?_
    obtain ⟨b3, S4, hlb3, h⟩ := ob_some h
    refine x_sub (xX4_insert_15L ik hF hN hR (K := fun bb SS => bb = b3 ∧ SS = S4) ?_ hlb3 ⟨rfl, rfl⟩) ⟨rfl, rfl, rfl, rfl, rfl, trivial⟩
    rintro _ _ ⟨rfl, rfl⟩
    refine x_aload_n hF dX4_insert_39 rfl rfl ?_
    refine x_iload hF dX4_insert_40 rfl ?_
    refine x_iload hF dX4_insert_42 rfl ?_
    refine x_iconst (v := (1 : Int32)) hF dX4_insert_44 (by decide) ?_
    refine x_iadd hF dX4_insert_45 ?_
    obtain ⟨r5, S6, hcall, h⟩ := ob_some h
    refine x_cVv hF hN hR (ctX4_shift ik hF.tr hcall) mwX4_shift miX4_shift (shRecording_0 ik) ck3 (ltRecording_0 ik) tw_716 ⟨by decide, by decide⟩ rfl rfl (Nat.le_of_ble_eq_true rfl) dX4_insert_46 ?_
    refine x_aload_n hF dX4_insert_49 rfl rfl ?_
    refine x_getr hF (shRecording_0 ik) 1 rfl ck3 (ltRecording_0 ik) (by decide) tw_121 rfl dX4_insert_50 ?_
    refine x_iload hF dX4_insert_53 rfl ?_
    refine x_iload_n hF dX4_insert_55 rfl rfl ?_
    obtain ⟨hg, h⟩ := og_some h
    obtain ⟨T7, eT7, h⟩ := ol_some h
    refine x_iast hF (shRecording_1 ik) (ltRecording_1 ik) hg rfl eT7 dX4_insert_56 ?_
    refine x_aload_n hF dX4_insert_57 rfl rfl ?_
    refine x_getr hF (shRecording_0 ik) 2 rfl ck3 (ltRecording_0 ik) (by decide) tw_124 rfl dX4_insert_58 ?_
    refine x_iload hF dX4_insert_61 rfl ?_
    refine x_iload_n hF dX4_insert_63 rfl rfl ?_
    obtain ⟨hg, h⟩ := og_some h
    obtain ⟨T8, eT8, h⟩ := ol_some h
    refine x_iast hF (shRecording_2 ik) (ltRecording_2 ik) hg rfl eT8 dX4_insert_64 ?_
    refine x_aload_n hF dX4_insert_65 rfl rfl ?_
    refine x_getr hF (shRecording_0 ik) 3 rfl ck3 (ltRecording_0 ik) (by decide) tw_127 rfl dX4_insert_66 ?_
    refine x_iload hF dX4_insert_69 rfl ?_
    refine x_iload_n hF dX4_insert_71 rfl rfl ?_
    obtain ⟨hg, h⟩ := og_some h
    obtain ⟨T9, eT9, h⟩ := ol_some h
    refine x_iast hF (shRecording_3 ik) (ltRecording_3 ik) hg rfl eT9 dX4_insert_72 ?_
    refine x_aload_n hF dX4_insert_73 rfl rfl ?_
    refine x_dup hF dX4_insert_74 rfl ?_
    refine x_geti hF (shRecording_0 ik) 0 rfl ck3 (ltRecording_0 ik) (by decide) tw_118 rfl dX4_insert_75 ?_
    refine x_iconst (v := (1 : Int32)) hF dX4_insert_78 (by decide) ?_
    refine x_iadd hF dX4_insert_79 ?_
    obtain ⟨T10, eT10, h⟩ := ol_some h
    refine x_puti hF (shRecording_0 ik) 0 rfl ck3 (ltRecording_0 ik) (by decide) tw_118 rfl rfl rfl rfl rfl eT10 dX4_insert_80 ?_
    refine x_iload hF dX4_insert_83 rfl ?_
    obtain ⟨rfl, rfl⟩ := sm h
    exact hret _ _ _ _ hk dX4_insert_85
  · have h := oi_neg hc h
    refine x_iconst (v := (-1 : Int32)) hF dX4_insert_7 (by decide) ?_
    obtain ⟨rfl, rfl⟩ := sm h
    exact hret _ _ _ _ hk dX4_insert_8
noncomputable def X7_isFlow (x0 : Int32) (S : St) : Option (Int32 × St) :=
  oi (x0 < 0) (some ((0 : Int32), S)) (oi ((6 : Int32) ≤ x0) (some ((0 : Int32), S)) (some ((1 : Int32), S)))
set_option maxHeartbeats 4000000 in
set_option maxRecDepth 20000 in
theorem ctX7_isFlow {l : Launch} {G : Ga} {x0 : Int32} (hl : l.stackTraces = false) {S : St} {r : Int32} {S1 : St} (h : X7_isFlow x0 S = some (r, S1)) : CT l G 0 yX7_isFlow cX7_isFlow 1 (some .boolean) [.int x0] S (some (.int r)) S1 := by
  refine ct_of hl (by decide) (Nat.le_of_ble_eq_true rfl) (fun F hFl hFG hF hN hR hret => ?_)
  subst hFl hFG
  show X F 0 0 [(0, .int x0)] [] S
  have hret : ∀ (v : Int32) (S : St) (pc : Nat) (ls : List (Nat × Value)), isB v → (v = r ∧ S = S1) → decode cX7_isFlow pc = .ok (.ireturn, 1) → X F 0 pc ls [.int v] S := fun v S2 pc ls hb hq hd => by obtain ⟨rfl, rfl⟩ := hq; exact hret.2.1 pc ls v rfl hb rfl hd
  have hk : r = r ∧ S1 = S1 := ⟨rfl, rfl⟩
  unfold X7_isFlow at h
  refine x_iload_n hF dX7_isFlow_0 rfl rfl ?_
  refine x_if_lt (tgt := 14) hF dX7_isFlow_1 (by decide) (fun hc => ?_) (fun hc => ?_)
  · have h := oi_pos hc h
    refine x_iconst (v := (0 : Int32)) hF dX7_isFlow_14 (by decide) ?_
    obtain ⟨rfl, rfl⟩ := sm h
    exact hret _ _ _ _ (by decide) hk dX7_isFlow_15
  · have h := oi_neg hc h
    refine x_iload_n hF dX7_isFlow_4 rfl rfl ?_
    refine x_bipush (v := (6 : Int32)) hF dX7_isFlow_5 (by decide) ?_
    refine x_icmp_ge (tgt := 14) hF dX7_isFlow_7 (by decide) (fun hc => ?_) (fun hc => ?_)
    · have h := oi_pos hc h
      refine x_iconst (v := (0 : Int32)) hF dX7_isFlow_14 (by decide) ?_
      obtain ⟨rfl, rfl⟩ := sm h
      exact hret _ _ _ _ (by decide) hk dX7_isFlow_15
    · have h := oi_neg hc h
      refine x_iconst (v := (1 : Int32)) hF dX7_isFlow_10 (by decide) ?_
      refine x_goto (tgt := 15) hF dX7_isFlow_11 (by decide) ?_
      obtain ⟨rfl, rfl⟩ := sm h
      exact hret _ _ _ _ (by decide) hk dX7_isFlow_15
noncomputable def X7_isPacket (x0 : Int32) (x1 : Int32) (x2 : Int32) (S : St) : Option (Int32 × St) :=
  oi (x0 < 0) (some ((0 : Int32), S)) (oi ((500 : Int32) < x0) (some ((0 : Int32), S)) (ob (X7_isFlow x1 S) (fun r1 S2 => oi (r1 = 0) (some ((0 : Int32), S2)) (oi (x2 < (1 : Int32)) (some ((0 : Int32), S2)) (oi ((100 : Int32) < x2) (some ((0 : Int32), S2)) (some ((1 : Int32), S2)))))))
set_option maxHeartbeats 4000000 in
set_option maxRecDepth 20000 in
theorem ctX7_isPacket {l : Launch} {G : Ga} {x0 : Int32} {x1 : Int32} {x2 : Int32} (hl : l.stackTraces = false) {S : St} {r : Int32} {S1 : St} (h : X7_isPacket x0 x1 x2 S = some (r, S1)) : CT l G 1 yX7_isPacket cX7_isPacket 3 (some .boolean) [.int x0, .int x1, .int x2] S (some (.int r)) S1 := by
  refine ct_of hl (by decide) (Nat.le_of_ble_eq_true rfl) (fun F hFl hFG hF hN hR hret => ?_)
  subst hFl hFG
  show X F 0 0 [(0, .int x0), (1, .int x1), (2, .int x2)] [] S
  have hret : ∀ (v : Int32) (S : St) (pc : Nat) (ls : List (Nat × Value)), isB v → (v = r ∧ S = S1) → decode cX7_isPacket pc = .ok (.ireturn, 1) → X F 0 pc ls [.int v] S := fun v S2 pc ls hb hq hd => by obtain ⟨rfl, rfl⟩ := hq; exact hret.2.1 pc ls v rfl hb rfl hd
  have hk : r = r ∧ S1 = S1 := ⟨rfl, rfl⟩
  unfold X7_isPacket at h
  refine x_iload_n hF dX7_isPacket_0 rfl rfl ?_
  refine x_if_lt (tgt := 33) hF dX7_isPacket_1 (by decide) (fun hc => ?_) (fun hc => ?_)
  · have h := oi_pos hc h
    refine x_iconst (v := (0 : Int32)) hF dX7_isPacket_33 (by decide) ?_
    obtain ⟨rfl, rfl⟩ := sm h
    exact hret _ _ _ _ (by decide) hk dX7_isPacket_34
  · have h := oi_neg hc h
    refine x_iload_n hF dX7_isPacket_4 rfl rfl ?_
    refine x_sipush (v := (500 : Int32)) hF dX7_isPacket_5 (by decide) ?_
    refine x_icmp_gt (tgt := 33) hF dX7_isPacket_8 (by decide) (fun hc => ?_) (fun hc => ?_)
    · have h := oi_pos hc h
      refine x_iconst (v := (0 : Int32)) hF dX7_isPacket_33 (by decide) ?_
      obtain ⟨rfl, rfl⟩ := sm h
      exact hret _ _ _ _ (by decide) hk dX7_isPacket_34
    · have h := oi_neg hc h
      refine x_iload_n hF dX7_isPacket_11 rfl rfl ?_
      obtain ⟨r1, S2, hcall, h⟩ := ob_some h
      refine x_cSi hF hN hR (ctX7_isFlow hF.tr hcall) mwX7_isFlow tw_592 tw_591 ⟨by decide, by decide⟩ rfl rfl (Nat.le_of_ble_eq_true rfl) dX7_isPacket_12 ?_
      refine x_if_eq (tgt := 33) hF dX7_isPacket_15 (by decide) (fun hc => ?_) (fun hc => ?_)
      · have h := oi_pos hc h
        refine x_iconst (v := (0 : Int32)) hF dX7_isPacket_33 (by decide) ?_
        obtain ⟨rfl, rfl⟩ := sm h
        exact hret _ _ _ _ (by decide) hk dX7_isPacket_34
      · have h := oi_neg hc h
        refine x_iload_n hF dX7_isPacket_18 rfl rfl ?_
        refine x_iconst (v := (1 : Int32)) hF dX7_isPacket_19 (by decide) ?_
        refine x_icmp_lt (tgt := 33) hF dX7_isPacket_20 (by decide) (fun hc => ?_) (fun hc => ?_)
        · have h := oi_pos hc h
          refine x_iconst (v := (0 : Int32)) hF dX7_isPacket_33 (by decide) ?_
          obtain ⟨rfl, rfl⟩ := sm h
          exact hret _ _ _ _ (by decide) hk dX7_isPacket_34
        · have h := oi_neg hc h
          refine x_iload_n hF dX7_isPacket_23 rfl rfl ?_
          refine x_bipush (v := (100 : Int32)) hF dX7_isPacket_24 (by decide) ?_
          refine x_icmp_gt (tgt := 33) hF dX7_isPacket_26 (by decide) (fun hc => ?_) (fun hc => ?_)
          · have h := oi_pos hc h
            refine x_iconst (v := (0 : Int32)) hF dX7_isPacket_33 (by decide) ?_
            obtain ⟨rfl, rfl⟩ := sm h
            exact hret _ _ _ _ (by decide) hk dX7_isPacket_34
          · have h := oi_neg hc h
            refine x_iconst (v := (1 : Int32)) hF dX7_isPacket_29 (by decide) ?_
            refine x_goto (tgt := 34) hF dX7_isPacket_30 (by decide) ?_
            obtain ⟨rfl, rfl⟩ := sm h
            exact hret _ _ _ _ (by decide) hk dX7_isPacket_34
noncomputable def X7_requireFlow (x0 : Int32) (S : St) : Option ((Unit ⊕ Nat) × St) :=
  ob (X7_isFlow x0 S) (fun r1 S2 => oi (r1 = 0) (some (.inr 0, S2)) (some (.inl (), S2)))
set_option maxHeartbeats 4000000 in
set_option maxRecDepth 20000 in
theorem cxX7_requireFlow {l : Launch} {G : Ga} {x0 : Int32} (hl : l.stackTraces = false) {S : St} {r : (Unit ⊕ Nat)} {S1 : St} (h : X7_requireFlow x0 S = some (r, S1)) : CX l G 6 1 yX7_requireFlow cX7_requireFlow 1 none [.int x0] S (rvU r) S1 := by
  refine cx_of hl (by decide) rfl (by decide) (Nat.le_of_ble_eq_true rfl) (fun F hFl hFG hF hN hR hret => ?_)
  subst hFl hFG
  show X F 0 0 [(0, .int x0)] [] S
  have hxt : ∀ (e : Nat) (S : St) (u pc : Nat) (ls : List (Nat × Value)), u ≤ 1 → (.inr e = r ∧ S = S1) → XT F u pc e ls S := fun e S2 u pc ls hu hq => by obtain ⟨rfl, rfl⟩ := hq; exact hret.2.2.1 u pc e ls hu rfl
  have hthr : ∀ {e : Nat} {S : St} {u pc ik is j : Nat} {tx : String} {ls : List (Nat × Value)} {st : List Value}, u + 1 ≤ 1 → e < 3 → (st.map fun v => v.category).sum ≤ 8 → (.inr e = r ∧ S = S1) → Thr cX7_requireFlow pc e ik is j tx ∨ ThrW cX7_requireFlow pc e ik is j tx → X F u pc ls st S := fun {e S2 u pc ik is j tx ls st} hu he hs hq hT => by obtain ⟨rfl, rfl⟩ := hq; exact hret.2.2.2 u pc e ik is j tx ls st hu he hs rfl hT
  have hret : ∀ (v : Unit) (S : St) (u pc : Nat) (ls : List (Nat × Value)), u ≤ 1 → (.inl v = r ∧ S = S1) → decode cX7_requireFlow pc = .ok (.return_, 1) → X F u pc ls [] S := fun v S2 u pc ls hu hq hd => by obtain ⟨rfl, rfl⟩ := hq; exact hret.2.1 u pc ls hu rfl rfl hd
  have hk : r = r ∧ S1 = S1 := ⟨rfl, rfl⟩
  unfold X7_requireFlow at h
  refine x_iload_n hF dX7_requireFlow_0 rfl rfl ?_
  obtain ⟨r1, S2, hcall, h⟩ := ob_some h
  refine x_cSi hF hN hR (ctX7_isFlow hF.tr hcall) mwX7_isFlow tw_592 tw_591 ⟨by decide, by decide⟩ rfl rfl (Nat.le_of_ble_eq_true rfl) dX7_requireFlow_1 ?_
  refine x_if_ne (tgt := 17) hF dX7_requireFlow_4 (by decide) (fun hc => ?_) (fun hc => ?_)
  · have h := oi_neg hc h
    obtain ⟨rfl, rfl⟩ := sm h
    exact hret _ _ _ _ _ (by decide) hk dX7_requireFlow_17
  · have h := oi_pos hc h
    obtain ⟨rfl, rfl⟩ := sm h
    exact hthr (e := 0) (j := 0) (by decide) (by decide) (Nat.le_of_ble_eq_true rfl) hk (Or.inl ⟨tw_594, tw_83, rfl, dX7_requireFlow_7, dX7_requireFlow_10, dX7_requireFlow_11, dX7_requireFlow_13, dX7_requireFlow_16⟩)
noncomputable def X7_record (x1 : Int32) (x2 : Int32) (x3 : Int32) (S : St) : Option ((Int32 ⊕ Nat) × St) :=
  obx (X7_requireFlow x2 S) (fun r1 S2 => ob (X7_isPacket x1 x2 x3 S2) (fun r3 S4 => oi (r3 = 0) (some (.inr 1, S4)) (ob (X4_isFull 1 S4) (fun r5 S6 => oi (r5 = 0) (ob (X1_save 1 S6) (fun r7 S8 => ob (X4_insert 1 x1 x2 x3 S8) (fun r9 S10 => some (.inl r9, S10)))) (some (.inr 2, S6))))))
set_option maxHeartbeats 4000000 in
set_option maxRecDepth 20000 in
theorem cxX7_record {l : Launch} {G : Ga} {x1 : Int32} {x2 : Int32} {x3 : Int32} (hl : l.stackTraces = false) {S : St} {r : (Int32 ⊕ Nat)} {S1 : St} (h : X7_record x1 x2 x3 S = some (r, S1)) : CX l G 7 2 yX7_record cX7_record 4 (some .int) [.ref (G.1 0), .int x1, .int x2, .int x3] S (rvI r) S1 := by
  refine cx_of hl (by decide) rfl (by decide) (Nat.le_of_ble_eq_true rfl) (fun F hFl hFG hF hN hR hret => ?_)
  subst hFl hFG
  show X F 0 0 [(0, .ref (gA F 0)), (1, .int x1), (2, .int x2), (3, .int x3)] [] S
  have hxt : ∀ (e : Nat) (S : St) (u pc : Nat) (ls : List (Nat × Value)), u ≤ 2 → (.inr e = r ∧ S = S1) → XT F u pc e ls S := fun e S2 u pc ls hu hq => by obtain ⟨rfl, rfl⟩ := hq; exact hret.2.2.1 u pc e ls hu rfl
  have hthr : ∀ {e : Nat} {S : St} {u pc ik is j : Nat} {tx : String} {ls : List (Nat × Value)} {st : List Value}, u + 1 ≤ 2 → e < 3 → (st.map fun v => v.category).sum ≤ 8 → (.inr e = r ∧ S = S1) → Thr cX7_record pc e ik is j tx ∨ ThrW cX7_record pc e ik is j tx → X F u pc ls st S := fun {e S2 u pc ik is j tx ls st} hu he hs hq hT => by obtain ⟨rfl, rfl⟩ := hq; exact hret.2.2.2 u pc e ik is j tx ls st hu he hs rfl hT
  have hret : ∀ (v : Int32) (S : St) (u pc : Nat) (ls : List (Nat × Value)), u ≤ 2 → (.inl v = r ∧ S = S1) → decode cX7_record pc = .ok (.ireturn, 1) → X F u pc ls [.int v] S := fun v S2 u pc ls hu hq hd => by obtain ⟨rfl, rfl⟩ := hq; exact hret.1 u pc ls v hu rfl rfl hd
  have hk : r = r ∧ S1 = S1 := ⟨rfl, rfl⟩
  unfold X7_record at h
  refine x_iload_n hF dX7_record_0 rfl rfl ?_
  rcases obx_some h with ⟨r1, S2, hcall, h⟩ | ⟨r1, hcall, h⟩
  · refine x_xSv hF hN hR (cxX7_requireFlow hF.tr hcall) mwX7_requireFlow tw_589 tw_588 ⟨by decide, by decide⟩ rfl rfl (Nat.le_of_ble_eq_true rfl) dX7_record_1 ?_
    refine x_iload_n hF dX7_record_4 rfl rfl ?_
    refine x_iload_n hF dX7_record_5 rfl rfl ?_
    refine x_iload_n hF dX7_record_6 rfl rfl ?_
    obtain ⟨r3, S4, hcall, h⟩ := ob_some h
    refine x_cSi hF hN hR (ctX7_isPacket hF.tr hcall) mwX7_isPacket tw_663 tw_662 ⟨by decide, by decide⟩ rfl rfl (Nat.le_of_ble_eq_true rfl) dX7_record_7 ?_
    refine x_if_ne (tgt := 23) hF dX7_record_10 (by decide) (fun hc => ?_) (fun hc => ?_)
    · have h := oi_neg hc h
      refine x_aload_n hF dX7_record_23 rfl rfl ?_
      refine x_getr hF sh0 0 rfl ck6 (by decide) (by decide) tw_292 rfl dX7_record_24 ?_
      obtain ⟨r5, S6, hcall, h⟩ := ob_some h
      refine x_cVi hF hN hR (ctX4_isFull (by decide) hF.tr hcall) mwX4_isFull miX4_isFull sh1 ck3 (by decide) tw_681 ⟨by decide, by decide⟩ rfl rfl (Nat.le_of_ble_eq_true rfl) dX7_record_27 ?_
      refine x_if_eq (tgt := 43) hF dX7_record_30 (by decide) (fun hc => ?_) (fun hc => ?_)
      · have h := oi_pos hc h
        refine x_aload_n hF dX7_record_43 rfl rfl ?_
        refine x_getr hF sh0 1 rfl ck6 (by decide) (by decide) tw_293 rfl dX7_record_44 ?_
        refine x_aload_n hF dX7_record_47 rfl rfl ?_
        refine x_getr hF sh0 0 rfl ck6 (by decide) (by decide) tw_292 rfl dX7_record_48 ?_
        obtain ⟨r7, S8, hcall, h⟩ := ob_some h
        refine x_cVv hF hN hR (ctX1_save (by decide) hF.tr hcall) mwX1_save miX1_save sh6 ck0 (by decide) tw_701 ⟨by decide, by decide⟩ rfl rfl (Nat.le_of_ble_eq_true rfl) dX7_record_51 ?_
        refine x_aload_n hF dX7_record_54 rfl rfl ?_
        refine x_getr hF sh0 0 rfl ck6 (by decide) (by decide) tw_292 rfl dX7_record_55 ?_
        refine x_iload_n hF dX7_record_58 rfl rfl ?_
        refine x_iload_n hF dX7_record_59 rfl rfl ?_
        refine x_iload_n hF dX7_record_60 rfl rfl ?_
        obtain ⟨r9, S10, hcall, h⟩ := ob_some h
        refine x_cVi hF hN hR (ctX4_insert (by decide) hF.tr hcall) mwX4_insert miX4_insert sh1 ck3 (by decide) tw_711 ⟨by decide, by decide⟩ rfl rfl (Nat.le_of_ble_eq_true rfl) dX7_record_61 ?_
        obtain ⟨rfl, rfl⟩ := sm h
        exact hret _ _ _ _ _ (by decide) hk dX7_record_64
      · have h := oi_neg hc h
        obtain ⟨rfl, rfl⟩ := sm h
        exact hthr (e := 2) (j := 2) (by decide) (by decide) (Nat.le_of_ble_eq_true rfl) hk (Or.inl ⟨tw_685, tw_85, rfl, dX7_record_33, dX7_record_36, dX7_record_37, dX7_record_39, dX7_record_42⟩)
    · have h := oi_pos hc h
      obtain ⟨rfl, rfl⟩ := sm h
      exact hthr (e := 1) (j := 1) (by decide) (by decide) (Nat.le_of_ble_eq_true rfl) hk (Or.inl ⟨tw_665, tw_84, rfl, dX7_record_13, dX7_record_16, dX7_record_17, dX7_record_19, dX7_record_22⟩)
  · subst h
    exact x_xSt hF hN hR (cxX7_requireFlow hF.tr hcall) mwX7_requireFlow tw_589 tw_588 ⟨by decide, by decide⟩ rfl rfl (Nat.le_of_ble_eq_true rfl) dX7_record_1 (hxt _ _ _ _ _ (by decide) hk)
noncomputable def X4_delete (k : Nat) (x1 : Int32) (S : St) : Option (Unit × St) :=
  oi (x1 < 0) (some ((), S)) (oi ((gi S k 0) ≤ x1) (some ((), S)) (ob (X4_shift k (x1 + (1 : Int32)) x1 S) (fun r1 S2 => ol (si S2 k 0 ((gi S2 k 0) - (1 : Int32))) (fun T3 => some ((), T3)))))
set_option maxHeartbeats 4000000 in
set_option maxRecDepth 20000 in
theorem ctX4_delete {l : Launch} {G : Ga} {k : Nat} (ik : isRecording k) {x1 : Int32} (hl : l.stackTraces = false) {S : St} {r : Unit} {S1 : St} (h : X4_delete k x1 S = some (r, S1)) : CT l G 2 yX4_delete cX4_delete 2 none [.ref (G.1 k), .int x1] S none S1 := by
  refine ct_of hl (by decide) (Nat.le_of_ble_eq_true rfl) (fun F hFl hFG hF hN hR hret => ?_)
  subst hFl hFG
  show X F 0 0 [(0, .ref (gA F k)), (1, .int x1)] [] S
  have hret : ∀ (v : Unit) (S : St) (pc : Nat) (ls : List (Nat × Value)), (v = r ∧ S = S1) → decode cX4_delete pc = .ok (.return_, 1) → X F 0 pc ls [] S := fun v S2 pc ls hq hd => by obtain ⟨rfl, rfl⟩ := hq; exact hret.2.2.2.2.1 pc ls rfl rfl hd
  have hk : r = r ∧ S1 = S1 := ⟨rfl, rfl⟩
  unfold X4_delete at h
  refine x_iload_n hF dX4_delete_0 rfl rfl ?_
  refine x_if_lt (tgt := 30) hF dX4_delete_1 (by decide) (fun hc => ?_) (fun hc => ?_)
  · have h := oi_pos hc h
    obtain ⟨rfl, rfl⟩ := sm h
    exact hret _ _ _ _ hk dX4_delete_30
  · have h := oi_neg hc h
    refine x_iload_n hF dX4_delete_4 rfl rfl ?_
    refine x_aload_n hF dX4_delete_5 rfl rfl ?_
    refine x_geti hF (shRecording_0 ik) 0 rfl ck3 (ltRecording_0 ik) (by decide) tw_118 rfl dX4_delete_6 ?_
    refine x_icmp_ge (tgt := 30) hF dX4_delete_9 (by decide) (fun hc => ?_) (fun hc => ?_)
    · have h := oi_pos hc h
      obtain ⟨rfl, rfl⟩ := sm h
      exact hret _ _ _ _ hk dX4_delete_30
    · have h := oi_neg hc h
      refine x_aload_n hF dX4_delete_12 rfl rfl ?_
      refine x_iload_n hF dX4_delete_13 rfl rfl ?_
      refine x_iconst (v := (1 : Int32)) hF dX4_delete_14 (by decide) ?_
      refine x_iadd hF dX4_delete_15 ?_
      refine x_iload_n hF dX4_delete_16 rfl rfl ?_
      obtain ⟨r1, S2, hcall, h⟩ := ob_some h
      refine x_cVv hF hN hR (ctX4_shift ik hF.tr hcall) mwX4_shift miX4_shift (shRecording_0 ik) ck3 (ltRecording_0 ik) tw_716 ⟨by decide, by decide⟩ rfl rfl (Nat.le_of_ble_eq_true rfl) dX4_delete_17 ?_
      refine x_aload_n hF dX4_delete_20 rfl rfl ?_
      refine x_dup hF dX4_delete_21 rfl ?_
      refine x_geti hF (shRecording_0 ik) 0 rfl ck3 (ltRecording_0 ik) (by decide) tw_118 rfl dX4_delete_22 ?_
      refine x_iconst (v := (1 : Int32)) hF dX4_delete_25 (by decide) ?_
      refine x_isub hF dX4_delete_26 ?_
      obtain ⟨T3, eT3, h⟩ := ol_some h
      refine x_puti hF (shRecording_0 ik) 0 rfl ck3 (ltRecording_0 ik) (by decide) tw_118 rfl rfl rfl rfl rfl eT3 dX4_delete_27 ?_
      obtain ⟨rfl, rfl⟩ := sm h
      exact hret _ _ _ _ hk dX4_delete_30
noncomputable def X7_requirePacket_15 (S : St) : Option ((Unit ⊕ Nat) × St) :=
  some (.inr 0, S)
set_option maxHeartbeats 4000000 in
set_option maxRecDepth 20000 in
theorem xX7_requirePacket_15 {F : Cx} (hF : Ok F cX7_requirePacket RX7) (hN : nLF F 2) (hR : RmF F 6 1) {K : (Unit ⊕ Nat) → St → Prop} (hret : ∀ (v : Unit) (S : St) (u pc : Nat) (ls : List (Nat × Value)), u ≤ 1 → K (.inl v) S → decode cX7_requirePacket pc = .ok (.return_, 1) → X F u pc ls [] S) (hxt : ∀ (e : Nat) (S : St) (u pc : Nat) (ls : List (Nat × Value)), u ≤ 1 → K (.inr e) S → XT F u pc e ls S) (hthr : ∀ {e : Nat} {S : St} {u pc ik is j : Nat} {tx : String} {ls : List (Nat × Value)} {st : List Value}, u + 1 ≤ 1 → e < 3 → (st.map fun v => v.category).sum ≤ 8 → K (.inr e) S → Thr cX7_requirePacket pc e ik is j tx ∨ ThrW cX7_requirePacket pc e ik is j tx → X F u pc ls st S) {S : St} {r : (Unit ⊕ Nat)} {S1 : St} (h : X7_requirePacket_15  S = some (r, S1)) (hk : K r S1) : X F 0 15 [] [] S := by
  unfold X7_requirePacket_15 at h
  obtain ⟨rfl, rfl⟩ := sm h
  exact hthr (e := 0) (j := 3) (by decide) (by decide) (Nat.le_of_ble_eq_true rfl) hk (Or.inr ⟨tw_594, tw_83, rfl, dX7_requirePacket_15, dX7_requirePacket_18, dX7_requirePacket_19, dX7_requirePacket_22, dX7_requirePacket_25⟩)
noncomputable def X7_requirePacket (x1 : Int32) (S : St) : Option ((Unit ⊕ Nat) × St) :=
  oi (x1 < 0) (X7_requirePacket_15  S) (oi (x1 < (gi S 1 0)) (some (.inl (), S)) (X7_requirePacket_15  S))
set_option maxHeartbeats 4000000 in
set_option maxRecDepth 20000 in
theorem cxX7_requirePacket {l : Launch} {G : Ga} {x1 : Int32} (hl : l.stackTraces = false) {S : St} {r : (Unit ⊕ Nat)} {S1 : St} (h : X7_requirePacket x1 S = some (r, S1)) : CX l G 6 1 yX7_requirePacket cX7_requirePacket 2 none [.ref (G.1 0), .int x1] S (rvU r) S1 := by
  refine cx_of hl (by decide) rfl (by decide) (Nat.le_of_ble_eq_true rfl) (fun F hFl hFG hF hN hR hret => ?_)
  subst hFl hFG
  show X F 0 0 [(0, .ref (gA F 0)), (1, .int x1)] [] S
  have hxt : ∀ (e : Nat) (S : St) (u pc : Nat) (ls : List (Nat × Value)), u ≤ 1 → (.inr e = r ∧ S = S1) → XT F u pc e ls S := fun e S2 u pc ls hu hq => by obtain ⟨rfl, rfl⟩ := hq; exact hret.2.2.1 u pc e ls hu rfl
  have hthr : ∀ {e : Nat} {S : St} {u pc ik is j : Nat} {tx : String} {ls : List (Nat × Value)} {st : List Value}, u + 1 ≤ 1 → e < 3 → (st.map fun v => v.category).sum ≤ 8 → (.inr e = r ∧ S = S1) → Thr cX7_requirePacket pc e ik is j tx ∨ ThrW cX7_requirePacket pc e ik is j tx → X F u pc ls st S := fun {e S2 u pc ik is j tx ls st} hu he hs hq hT => by obtain ⟨rfl, rfl⟩ := hq; exact hret.2.2.2 u pc e ik is j tx ls st hu he hs rfl hT
  have hret : ∀ (v : Unit) (S : St) (u pc : Nat) (ls : List (Nat × Value)), u ≤ 1 → (.inl v = r ∧ S = S1) → decode cX7_requirePacket pc = .ok (.return_, 1) → X F u pc ls [] S := fun v S2 u pc ls hu hq hd => by obtain ⟨rfl, rfl⟩ := hq; exact hret.2.1 u pc ls hu rfl rfl hd
  have hk : r = r ∧ S1 = S1 := ⟨rfl, rfl⟩
  unfold X7_requirePacket at h
  refine x_iload_n hF dX7_requirePacket_0 rfl rfl ?_
  refine x_if_lt (tgt := 15) hF dX7_requirePacket_1 (by decide) (fun hc => ?_) (fun hc => ?_)
  · have h := oi_pos hc h
    exact x_sub (xX7_requirePacket_15 hF hN hR (K := fun v9 S9 => v9 = r ∧ S9 = S1) hret hxt hthr h hk) trivial
  · have h := oi_neg hc h
    refine x_iload_n hF dX7_requirePacket_4 rfl rfl ?_
    refine x_aload_n hF dX7_requirePacket_5 rfl rfl ?_
    refine x_getr hF sh0 0 rfl ck6 (by decide) (by decide) tw_292 rfl dX7_requirePacket_6 ?_
    refine x_geti hF sh1 0 rfl ck3 (by decide) (by decide) tw_120 rfl dX7_requirePacket_9 ?_
    refine x_icmp_lt (tgt := 26) hF dX7_requirePacket_12 (by decide) (fun hc => ?_) (fun hc => ?_)
    · have h := oi_pos hc h
      obtain ⟨rfl, rfl⟩ := sm h
      exact hret _ _ _ _ _ (by decide) hk dX7_requirePacket_26
    · have h := oi_neg hc h
      exact x_sub (xX7_requirePacket_15 hF hN hR (K := fun v9 S9 => v9 = r ∧ S9 = S1) hret hxt hthr h hk) trivial
noncomputable def X7_erase (x1 : Int32) (S : St) : Option ((Int32 ⊕ Nat) × St) :=
  obx (X7_requirePacket x1 S) (fun r1 S2 => ob (X1_save 1 S2) (fun r3 S4 => ob (X4_delete 1 x1 S4) (fun r5 S6 => some (.inl (gi S6 1 0), S6))))
set_option maxHeartbeats 4000000 in
set_option maxRecDepth 20000 in
theorem cxX7_erase {l : Launch} {G : Ga} {x1 : Int32} (hl : l.stackTraces = false) {S : St} {r : (Int32 ⊕ Nat)} {S1 : St} (h : X7_erase x1 S = some (r, S1)) : CX l G 7 1 yX7_erase cX7_erase 2 (some .int) [.ref (G.1 0), .int x1] S (rvI r) S1 := by
  refine cx_of hl (by decide) rfl (by decide) (Nat.le_of_ble_eq_true rfl) (fun F hFl hFG hF hN hR hret => ?_)
  subst hFl hFG
  show X F 0 0 [(0, .ref (gA F 0)), (1, .int x1)] [] S
  have hxt : ∀ (e : Nat) (S : St) (u pc : Nat) (ls : List (Nat × Value)), u ≤ 1 → (.inr e = r ∧ S = S1) → XT F u pc e ls S := fun e S2 u pc ls hu hq => by obtain ⟨rfl, rfl⟩ := hq; exact hret.2.2.1 u pc e ls hu rfl
  have hthr : ∀ {e : Nat} {S : St} {u pc ik is j : Nat} {tx : String} {ls : List (Nat × Value)} {st : List Value}, u + 1 ≤ 1 → e < 3 → (st.map fun v => v.category).sum ≤ 8 → (.inr e = r ∧ S = S1) → Thr cX7_erase pc e ik is j tx ∨ ThrW cX7_erase pc e ik is j tx → X F u pc ls st S := fun {e S2 u pc ik is j tx ls st} hu he hs hq hT => by obtain ⟨rfl, rfl⟩ := hq; exact hret.2.2.2 u pc e ik is j tx ls st hu he hs rfl hT
  have hret : ∀ (v : Int32) (S : St) (u pc : Nat) (ls : List (Nat × Value)), u ≤ 1 → (.inl v = r ∧ S = S1) → decode cX7_erase pc = .ok (.ireturn, 1) → X F u pc ls [.int v] S := fun v S2 u pc ls hu hq hd => by obtain ⟨rfl, rfl⟩ := hq; exact hret.1 u pc ls v hu rfl rfl hd
  have hk : r = r ∧ S1 = S1 := ⟨rfl, rfl⟩
  unfold X7_erase at h
  refine x_aload_n hF dX7_erase_0 rfl rfl ?_
  refine x_iload_n hF dX7_erase_1 rfl rfl ?_
  rcases obx_some h with ⟨r1, S2, hcall, h⟩ | ⟨r1, hcall, h⟩
  · refine x_xVv hF hN hR (cxX7_requirePacket hF.tr hcall) mwX7_requirePacket miX7_requirePacket sh0 ck6 (by decide) tw_727 ⟨by decide, by decide⟩ rfl rfl (Nat.le_of_ble_eq_true rfl) dX7_erase_2 ?_
    refine x_aload_n hF dX7_erase_5 rfl rfl ?_
    refine x_getr hF sh0 1 rfl ck6 (by decide) (by decide) tw_293 rfl dX7_erase_6 ?_
    refine x_aload_n hF dX7_erase_9 rfl rfl ?_
    refine x_getr hF sh0 0 rfl ck6 (by decide) (by decide) tw_292 rfl dX7_erase_10 ?_
    obtain ⟨r3, S4, hcall, h⟩ := ob_some h
    refine x_cVv hF hN hR (ctX1_save (by decide) hF.tr hcall) mwX1_save miX1_save sh6 ck0 (by decide) tw_701 ⟨by decide, by decide⟩ rfl rfl (Nat.le_of_ble_eq_true rfl) dX7_erase_13 ?_
    refine x_aload_n hF dX7_erase_16 rfl rfl ?_
    refine x_getr hF sh0 0 rfl ck6 (by decide) (by decide) tw_292 rfl dX7_erase_17 ?_
    refine x_iload_n hF dX7_erase_20 rfl rfl ?_
    obtain ⟨r5, S6, hcall, h⟩ := ob_some h
    refine x_cVv hF hN hR (ctX4_delete (by decide) hF.tr hcall) mwX4_delete miX4_delete sh1 ck3 (by decide) tw_732 ⟨by decide, by decide⟩ rfl rfl (Nat.le_of_ble_eq_true rfl) dX7_erase_21 ?_
    refine x_aload_n hF dX7_erase_24 rfl rfl ?_
    refine x_getr hF sh0 0 rfl ck6 (by decide) (by decide) tw_292 rfl dX7_erase_25 ?_
    refine x_geti hF sh1 0 rfl ck3 (by decide) (by decide) tw_120 rfl dX7_erase_28 ?_
    obtain ⟨rfl, rfl⟩ := sm h
    exact hret _ _ _ _ _ (by decide) hk dX7_erase_31
  · subst h
    exact x_xVt hF hN hR (cxX7_requirePacket hF.tr hcall) mwX7_requirePacket miX7_requirePacket sh0 ck6 (by decide) tw_727 ⟨by decide, by decide⟩ rfl rfl (Nat.le_of_ble_eq_true rfl) dX7_erase_2 (hxt _ _ _ _ _ (by decide) hk)
noncomputable def X7_packets (S : St) : Option (Int32 × St) :=
  some ((gi S 1 0), S)
set_option maxHeartbeats 4000000 in
set_option maxRecDepth 20000 in
theorem ctX7_packets {l : Launch} {G : Ga} (hl : l.stackTraces = false) {S : St} {r : Int32} {S1 : St} (h : X7_packets  S = some (r, S1)) : CT l G 0 yX7_packets cX7_packets 1 (some .int) [.ref (G.1 0)] S (some (.int r)) S1 := by
  refine ct_of hl (by decide) (Nat.le_of_ble_eq_true rfl) (fun F hFl hFG hF hN hR hret => ?_)
  subst hFl hFG
  show X F 0 0 [(0, .ref (gA F 0))] [] S
  have hret : ∀ (v : Int32) (S : St) (pc : Nat) (ls : List (Nat × Value)), (v = r ∧ S = S1) → decode cX7_packets pc = .ok (.ireturn, 1) → X F 0 pc ls [.int v] S := fun v S2 pc ls hq hd => by obtain ⟨rfl, rfl⟩ := hq; exact hret.1 pc ls v rfl rfl hd
  have hk : r = r ∧ S1 = S1 := ⟨rfl, rfl⟩
  unfold X7_packets at h
  refine x_aload_n hF dX7_packets_0 rfl rfl ?_
  refine x_getr hF sh0 0 rfl ck6 (by decide) (by decide) tw_292 rfl dX7_packets_1 ?_
  refine x_geti hF sh1 0 rfl ck3 (by decide) (by decide) tw_120 rfl dX7_packets_4 ?_
  obtain ⟨rfl, rfl⟩ := sm h
  exact hret _ _ _ _ hk dX7_packets_7
noncomputable def X7_packet (x1 : Int32) (x2 : Int32) (S : St) : Option ((Int32 ⊕ Nat) × St) :=
  obx (X7_requirePacket x1 S) (fun r1 S2 => oi (x2 = (0 : Int32)) (og (inb x1 40) (some (.inl (gi S2 2 (ix x1)), S2))) (oi (x2 = (1 : Int32)) (og (inb x1 40) (some (.inl (gi S2 3 (ix x1)), S2))) (oi (x2 = (2 : Int32)) (og (inb x1 40) (some (.inl (gi S2 4 (ix x1)), S2))) (some (.inr 1, S2)))))
set_option maxHeartbeats 4000000 in
set_option maxRecDepth 20000 in
theorem cxX7_packet {l : Launch} {G : Ga} {x1 : Int32} {x2 : Int32} (hl : l.stackTraces = false) {S : St} {r : (Int32 ⊕ Nat)} {S1 : St} (h : X7_packet x1 x2 S = some (r, S1)) : CX l G 7 2 yX7_packet cX7_packet 3 (some .int) [.ref (G.1 0), .int x1, .int x2] S (rvI r) S1 := by
  refine cx_of hl (by decide) rfl (by decide) (Nat.le_of_ble_eq_true rfl) (fun F hFl hFG hF hN hR hret => ?_)
  subst hFl hFG
  show X F 0 0 [(0, .ref (gA F 0)), (1, .int x1), (2, .int x2)] [] S
  have hxt : ∀ (e : Nat) (S : St) (u pc : Nat) (ls : List (Nat × Value)), u ≤ 2 → (.inr e = r ∧ S = S1) → XT F u pc e ls S := fun e S2 u pc ls hu hq => by obtain ⟨rfl, rfl⟩ := hq; exact hret.2.2.1 u pc e ls hu rfl
  have hthr : ∀ {e : Nat} {S : St} {u pc ik is j : Nat} {tx : String} {ls : List (Nat × Value)} {st : List Value}, u + 1 ≤ 2 → e < 3 → (st.map fun v => v.category).sum ≤ 8 → (.inr e = r ∧ S = S1) → Thr cX7_packet pc e ik is j tx ∨ ThrW cX7_packet pc e ik is j tx → X F u pc ls st S := fun {e S2 u pc ik is j tx ls st} hu he hs hq hT => by obtain ⟨rfl, rfl⟩ := hq; exact hret.2.2.2 u pc e ik is j tx ls st hu he hs rfl hT
  have hret : ∀ (v : Int32) (S : St) (u pc : Nat) (ls : List (Nat × Value)), u ≤ 2 → (.inl v = r ∧ S = S1) → decode cX7_packet pc = .ok (.ireturn, 1) → X F u pc ls [.int v] S := fun v S2 u pc ls hu hq hd => by obtain ⟨rfl, rfl⟩ := hq; exact hret.1 u pc ls v hu rfl rfl hd
  have hk : r = r ∧ S1 = S1 := ⟨rfl, rfl⟩
  unfold X7_packet at h
  refine x_aload_n hF dX7_packet_0 rfl rfl ?_
  refine x_iload_n hF dX7_packet_1 rfl rfl ?_
  rcases obx_some h with ⟨r1, S2, hcall, h⟩ | ⟨r1, hcall, h⟩
  · refine x_xVv hF hN hR (cxX7_requirePacket hF.tr hcall) mwX7_requirePacket miX7_requirePacket sh0 ck6 (by decide) tw_727 ⟨by decide, by decide⟩ rfl rfl (Nat.le_of_ble_eq_true rfl) dX7_packet_2 ?_
    refine x_iload_n hF dX7_packet_5 rfl rfl ?_
    by_cases hc3 : x2 = (0 : Int32)
    · have h := oi_pos hc3 h
      refine x_tsIn (tgt := 32) (off := 26) hF dX7_packet_6 hc3 (by decide) (by decide) (by decide) (by decide) ?_
      refine x_aload_n hF dX7_packet_32 rfl rfl ?_
      refine x_getr hF sh0 0 rfl ck6 (by decide) (by decide) tw_292 rfl dX7_packet_33 ?_
      refine x_getr hF sh1 1 rfl ck3 (by decide) (by decide) tw_123 rfl dX7_packet_36 ?_
      refine x_iload_n hF dX7_packet_39 rfl rfl ?_
      obtain ⟨hg, h⟩ := og_some h
      refine x_iald hF sh2 (by decide) hg rfl dX7_packet_40 ?_
      obtain ⟨rfl, rfl⟩ := sm h
      exact hret _ _ _ _ _ (by decide) hk dX7_packet_41
    have h := oi_neg hc3 h
    by_cases hc4 : x2 = (1 : Int32)
    · have h := oi_pos hc4 h
      refine x_tsIn (tgt := 42) (off := 36) hF dX7_packet_6 hc4 (by decide) (by decide) (by decide) (by decide) ?_
      refine x_aload_n hF dX7_packet_42 rfl rfl ?_
      refine x_getr hF sh0 0 rfl ck6 (by decide) (by decide) tw_292 rfl dX7_packet_43 ?_
      refine x_getr hF sh1 2 rfl ck3 (by decide) (by decide) tw_126 rfl dX7_packet_46 ?_
      refine x_iload_n hF dX7_packet_49 rfl rfl ?_
      obtain ⟨hg, h⟩ := og_some h
      refine x_iald hF sh3 (by decide) hg rfl dX7_packet_50 ?_
      obtain ⟨rfl, rfl⟩ := sm h
      exact hret _ _ _ _ _ (by decide) hk dX7_packet_51
    have h := oi_neg hc4 h
    by_cases hc5 : x2 = (2 : Int32)
    · have h := oi_pos hc5 h
      refine x_tsIn (tgt := 52) (off := 46) hF dX7_packet_6 hc5 (by decide) (by decide) (by decide) (by decide) ?_
      refine x_aload_n hF dX7_packet_52 rfl rfl ?_
      refine x_getr hF sh0 0 rfl ck6 (by decide) (by decide) tw_292 rfl dX7_packet_53 ?_
      refine x_getr hF sh1 3 rfl ck3 (by decide) (by decide) tw_129 rfl dX7_packet_56 ?_
      refine x_iload_n hF dX7_packet_59 rfl rfl ?_
      obtain ⟨hg, h⟩ := og_some h
      refine x_iald hF sh4 (by decide) hg rfl dX7_packet_60 ?_
      obtain ⟨rfl, rfl⟩ := sm h
      exact hret _ _ _ _ _ (by decide) hk dX7_packet_61
    have h := oi_neg hc5 h
    refine x_tsOut (tgt := 62) hF dX7_packet_6 (by have e0 := i32ne 0 (by decide) hc3; have e1 := i32ne 1 (by decide) hc4; have e2 := i32ne 2 (by decide) hc5; omega) (by decide) ?_
    obtain ⟨rfl, rfl⟩ := sm h
    exact hthr (e := 1) (j := 4) (by decide) (by decide) (Nat.le_of_ble_eq_true rfl) hk (Or.inl ⟨tw_665, tw_84, rfl, dX7_packet_62, dX7_packet_65, dX7_packet_66, dX7_packet_68, dX7_packet_71⟩)
  · subst h
    exact x_xVt hF hN hR (cxX7_requirePacket hF.tr hcall) mwX7_requirePacket miX7_requirePacket sh0 ck6 (by decide) tw_727 ⟨by decide, by decide⟩ rfl rfl (Nat.le_of_ble_eq_true rfl) dX7_packet_2 (hxt _ _ _ _ _ (by decide) hk)
noncomputable def X7_isAllowed (x0 : Int32) (x1 : Int32) (S : St) : Option (Int32 × St) :=
  oi (x0 < 0) (some ((0 : Int32), S)) (oi ((14 : Int32) ≤ x0) (some ((0 : Int32), S)) (og (inb x0 14) (oi (x1 < (lowF (ix x0))) (some ((0 : Int32), S)) (og (inb x0 14) (oi ((higF (ix x0)) < x1) (some ((0 : Int32), S)) (some ((1 : Int32), S)))))))
set_option maxHeartbeats 4000000 in
set_option maxRecDepth 20000 in
theorem ctX7_isAllowed {l : Launch} {G : Ga} {x0 : Int32} {x1 : Int32} (hl : l.stackTraces = false) {S : St} {r : Int32} {S1 : St} (h : X7_isAllowed x0 x1 S = some (r, S1)) : CT l G 0 yX7_isAllowed cX7_isAllowed 2 (some .boolean) [.int x0, .int x1] S (some (.int r)) S1 := by
  refine ct_of hl (by decide) (Nat.le_of_ble_eq_true rfl) (fun F hFl hFG hF hN hR hret => ?_)
  subst hFl hFG
  show X F 0 0 [(0, .int x0), (1, .int x1)] [] S
  have hret : ∀ (v : Int32) (S : St) (pc : Nat) (ls : List (Nat × Value)), isB v → (v = r ∧ S = S1) → decode cX7_isAllowed pc = .ok (.ireturn, 1) → X F 0 pc ls [.int v] S := fun v S2 pc ls hb hq hd => by obtain ⟨rfl, rfl⟩ := hq; exact hret.2.1 pc ls v rfl hb rfl hd
  have hk : r = r ∧ S1 = S1 := ⟨rfl, rfl⟩
  unfold X7_isAllowed at h
  refine x_iload_n hF dX7_isAllowed_0 rfl rfl ?_
  refine x_if_lt (tgt := 32) hF dX7_isAllowed_1 (by decide) (fun hc => ?_) (fun hc => ?_)
  · have h := oi_pos hc h
    refine x_iconst (v := (0 : Int32)) hF dX7_isAllowed_32 (by decide) ?_
    obtain ⟨rfl, rfl⟩ := sm h
    exact hret _ _ _ _ (by decide) hk dX7_isAllowed_33
  · have h := oi_neg hc h
    refine x_iload_n hF dX7_isAllowed_4 rfl rfl ?_
    refine x_bipush (v := (14 : Int32)) hF dX7_isAllowed_5 (by decide) ?_
    refine x_icmp_ge (tgt := 32) hF dX7_isAllowed_7 (by decide) (fun hc => ?_) (fun hc => ?_)
    · have h := oi_pos hc h
      refine x_iconst (v := (0 : Int32)) hF dX7_isAllowed_32 (by decide) ?_
      obtain ⟨rfl, rfl⟩ := sm h
      exact hret _ _ _ _ (by decide) hk dX7_isAllowed_33
    · have h := oi_neg hc h
      refine x_iload_n hF dX7_isAllowed_10 rfl rfl ?_
      refine x_gets (v := .ref (gS F 0)) hF (List.mem_of_getElem? (i := 0) rfl) tw_758 dX7_isAllowed_11 ?_
      refine x_iload_n hF dX7_isAllowed_14 rfl rfl ?_
      obtain ⟨hg, h⟩ := og_some h
      refine x_ialdS hF (List.mem_of_getElem? (i := 0) rfl) hg dX7_isAllowed_15 ?_
      refine x_icmp_lt (tgt := 32) hF dX7_isAllowed_16 (by decide) (fun hc => ?_) (fun hc => ?_)
      · have h := oi_pos hc h
        refine x_iconst (v := (0 : Int32)) hF dX7_isAllowed_32 (by decide) ?_
        obtain ⟨rfl, rfl⟩ := sm h
        exact hret _ _ _ _ (by decide) hk dX7_isAllowed_33
      · have h := oi_neg hc h
        refine x_iload_n hF dX7_isAllowed_19 rfl rfl ?_
        refine x_gets (v := .ref (gS F 1)) hF (List.mem_of_getElem? (i := 1) rfl) tw_760 dX7_isAllowed_20 ?_
        refine x_iload_n hF dX7_isAllowed_23 rfl rfl ?_
        obtain ⟨hg, h⟩ := og_some h
        refine x_ialdS hF (List.mem_of_getElem? (i := 1) rfl) hg dX7_isAllowed_24 ?_
        refine x_icmp_gt (tgt := 32) hF dX7_isAllowed_25 (by decide) (fun hc => ?_) (fun hc => ?_)
        · have h := oi_pos hc h
          refine x_iconst (v := (0 : Int32)) hF dX7_isAllowed_32 (by decide) ?_
          obtain ⟨rfl, rfl⟩ := sm h
          exact hret _ _ _ _ (by decide) hk dX7_isAllowed_33
        · have h := oi_neg hc h
          refine x_iconst (v := (1 : Int32)) hF dX7_isAllowed_28 (by decide) ?_
          refine x_goto (tgt := 33) hF dX7_isAllowed_29 (by decide) ?_
          obtain ⟨rfl, rfl⟩ := sm h
          exact hret _ _ _ _ (by decide) hk dX7_isAllowed_33
noncomputable def X7_change (x1 : Int32) (x2 : Int32) (S : St) : Option ((Int32 ⊕ Nat) × St) :=
  ob (X7_isAllowed x1 x2 S) (fun r1 S2 => oi (r1 = 0) (some (.inr 1, S2)) (ob (X1_save 1 S2) (fun r3 S4 => og (inb x1 14) (og (inb x1 14) (ol (si S4 5 (ix x1) x2) (fun T5 => some (.inl (gi S4 5 (ix x1)), T5)))))))
set_option maxHeartbeats 4000000 in
set_option maxRecDepth 20000 in
theorem cxX7_change {l : Launch} {G : Ga} {x1 : Int32} {x2 : Int32} (hl : l.stackTraces = false) {S : St} {r : (Int32 ⊕ Nat)} {S1 : St} (h : X7_change x1 x2 S = some (r, S1)) : CX l G 6 1 yX7_change cX7_change 4 (some .int) [.ref (G.1 0), .int x1, .int x2] S (rvI r) S1 := by
  refine cx_of hl (by decide) rfl (by decide) (Nat.le_of_ble_eq_true rfl) (fun F hFl hFG hF hN hR hret => ?_)
  subst hFl hFG
  show X F 0 0 [(0, .ref (gA F 0)), (1, .int x1), (2, .int x2)] [] S
  have hxt : ∀ (e : Nat) (S : St) (u pc : Nat) (ls : List (Nat × Value)), u ≤ 1 → (.inr e = r ∧ S = S1) → XT F u pc e ls S := fun e S2 u pc ls hu hq => by obtain ⟨rfl, rfl⟩ := hq; exact hret.2.2.1 u pc e ls hu rfl
  have hthr : ∀ {e : Nat} {S : St} {u pc ik is j : Nat} {tx : String} {ls : List (Nat × Value)} {st : List Value}, u + 1 ≤ 1 → e < 3 → (st.map fun v => v.category).sum ≤ 8 → (.inr e = r ∧ S = S1) → Thr cX7_change pc e ik is j tx ∨ ThrW cX7_change pc e ik is j tx → X F u pc ls st S := fun {e S2 u pc ik is j tx ls st} hu he hs hq hT => by obtain ⟨rfl, rfl⟩ := hq; exact hret.2.2.2 u pc e ik is j tx ls st hu he hs rfl hT
  have hret : ∀ (v : Int32) (S : St) (u pc : Nat) (ls : List (Nat × Value)), u ≤ 1 → (.inl v = r ∧ S = S1) → decode cX7_change pc = .ok (.ireturn, 1) → X F u pc ls [.int v] S := fun v S2 u pc ls hu hq hd => by obtain ⟨rfl, rfl⟩ := hq; exact hret.1 u pc ls v hu rfl rfl hd
  have hk : r = r ∧ S1 = S1 := ⟨rfl, rfl⟩
  unfold X7_change at h
  refine x_iload_n hF dX7_change_0 rfl rfl ?_
  refine x_iload_n hF dX7_change_1 rfl rfl ?_
  obtain ⟨r1, S2, hcall, h⟩ := ob_some h
  refine x_cSi hF hN hR (ctX7_isAllowed hF.tr hcall) mwX7_isAllowed tw_756 tw_755 ⟨by decide, by decide⟩ rfl rfl (Nat.le_of_ble_eq_true rfl) dX7_change_2 ?_
  refine x_if_ne (tgt := 19) hF dX7_change_5 (by decide) (fun hc => ?_) (fun hc => ?_)
  · have h := oi_neg hc h
    refine x_aload_n hF dX7_change_19 rfl rfl ?_
    refine x_getr hF sh0 1 rfl ck6 (by decide) (by decide) tw_293 rfl dX7_change_20 ?_
    refine x_aload_n hF dX7_change_23 rfl rfl ?_
    refine x_getr hF sh0 0 rfl ck6 (by decide) (by decide) tw_292 rfl dX7_change_24 ?_
    obtain ⟨r3, S4, hcall, h⟩ := ob_some h
    refine x_cVv hF hN hR (ctX1_save (by decide) hF.tr hcall) mwX1_save miX1_save sh6 ck0 (by decide) tw_701 ⟨by decide, by decide⟩ rfl rfl (Nat.le_of_ble_eq_true rfl) dX7_change_27 ?_
    refine x_aload_n hF dX7_change_30 rfl rfl ?_
    refine x_getr hF sh0 0 rfl ck6 (by decide) (by decide) tw_292 rfl dX7_change_31 ?_
    refine x_getr hF sh1 4 rfl ck3 (by decide) (by decide) tw_132 rfl dX7_change_34 ?_
    refine x_iload_n hF dX7_change_37 rfl rfl ?_
    obtain ⟨hg, h⟩ := og_some h
    refine x_iald hF sh5 (by decide) hg rfl dX7_change_38 ?_
    refine x_istore_n [(3, _), (0, _), (1, _), (2, _)] hF hN dX7_change_39 rfl (by decide) rfl ?_
    refine x_aload_n hF dX7_change_40 rfl rfl ?_
    refine x_getr hF sh0 0 rfl ck6 (by decide) (by decide) tw_292 rfl dX7_change_41 ?_
    refine x_getr hF sh1 4 rfl ck3 (by decide) (by decide) tw_132 rfl dX7_change_44 ?_
    refine x_iload_n hF dX7_change_47 rfl rfl ?_
    refine x_iload_n hF dX7_change_48 rfl rfl ?_
    obtain ⟨hg, h⟩ := og_some h
    obtain ⟨T5, eT5, h⟩ := ol_some h
    refine x_iast hF sh5 (by decide) hg rfl eT5 dX7_change_49 ?_
    refine x_iload_n hF dX7_change_50 rfl rfl ?_
    obtain ⟨rfl, rfl⟩ := sm h
    exact hret _ _ _ _ _ (by decide) hk dX7_change_51
  · have h := oi_pos hc h
    obtain ⟨rfl, rfl⟩ := sm h
    exact hthr (e := 1) (j := 5) (by decide) (by decide) (Nat.le_of_ble_eq_true rfl) hk (Or.inr ⟨tw_665, tw_84, rfl, dX7_change_8, dX7_change_11, dX7_change_12, dX7_change_15, dX7_change_18⟩)
noncomputable def X7_setCapacity (x1 : Int32) (S : St) : Option ((Int32 ⊕ Nat) × St) :=
  obx (X7_change (0 : Int32) x1 S) (fun r1 S2 => some (.inl r1, S2))
set_option maxHeartbeats 4000000 in
set_option maxRecDepth 20000 in
theorem cxX7_setCapacity {l : Launch} {G : Ga} {x1 : Int32} (hl : l.stackTraces = false) {S : St} {r : (Int32 ⊕ Nat)} {S1 : St} (h : X7_setCapacity x1 S = some (r, S1)) : CX l G 7 1 yX7_setCapacity cX7_setCapacity 2 (some .int) [.ref (G.1 0), .int x1] S (rvI r) S1 := by
  refine cx_of hl (by decide) rfl (by decide) (Nat.le_of_ble_eq_true rfl) (fun F hFl hFG hF hN hR hret => ?_)
  subst hFl hFG
  show X F 0 0 [(0, .ref (gA F 0)), (1, .int x1)] [] S
  have hxt : ∀ (e : Nat) (S : St) (u pc : Nat) (ls : List (Nat × Value)), u ≤ 1 → (.inr e = r ∧ S = S1) → XT F u pc e ls S := fun e S2 u pc ls hu hq => by obtain ⟨rfl, rfl⟩ := hq; exact hret.2.2.1 u pc e ls hu rfl
  have hthr : ∀ {e : Nat} {S : St} {u pc ik is j : Nat} {tx : String} {ls : List (Nat × Value)} {st : List Value}, u + 1 ≤ 1 → e < 3 → (st.map fun v => v.category).sum ≤ 8 → (.inr e = r ∧ S = S1) → Thr cX7_setCapacity pc e ik is j tx ∨ ThrW cX7_setCapacity pc e ik is j tx → X F u pc ls st S := fun {e S2 u pc ik is j tx ls st} hu he hs hq hT => by obtain ⟨rfl, rfl⟩ := hq; exact hret.2.2.2 u pc e ik is j tx ls st hu he hs rfl hT
  have hret : ∀ (v : Int32) (S : St) (u pc : Nat) (ls : List (Nat × Value)), u ≤ 1 → (.inl v = r ∧ S = S1) → decode cX7_setCapacity pc = .ok (.ireturn, 1) → X F u pc ls [.int v] S := fun v S2 u pc ls hu hq hd => by obtain ⟨rfl, rfl⟩ := hq; exact hret.1 u pc ls v hu rfl rfl hd
  have hk : r = r ∧ S1 = S1 := ⟨rfl, rfl⟩
  unfold X7_setCapacity at h
  refine x_aload_n hF dX7_setCapacity_0 rfl rfl ?_
  refine x_iconst (v := (0 : Int32)) hF dX7_setCapacity_1 (by decide) ?_
  refine x_iload_n hF dX7_setCapacity_2 rfl rfl ?_
  rcases obx_some h with ⟨r1, S2, hcall, h⟩ | ⟨r1, hcall, h⟩
  · refine x_xVi hF hN hR (cxX7_change hF.tr hcall) mwX7_change miX7_change sh0 ck6 (by decide) tw_751 ⟨by decide, by decide⟩ rfl rfl (Nat.le_of_ble_eq_true rfl) dX7_setCapacity_3 ?_
    obtain ⟨rfl, rfl⟩ := sm h
    exact hret _ _ _ _ _ (by decide) hk dX7_setCapacity_6
  · subst h
    exact x_xVt hF hN hR (cxX7_change hF.tr hcall) mwX7_change miX7_change sh0 ck6 (by decide) tw_751 ⟨by decide, by decide⟩ rfl rfl (Nat.le_of_ble_eq_true rfl) dX7_setCapacity_3 (hxt _ _ _ _ _ (by decide) hk)
noncomputable def X7_setRate (x1 : Int32) (S : St) : Option ((Int32 ⊕ Nat) × St) :=
  obx (X7_change (1 : Int32) x1 S) (fun r1 S2 => some (.inl r1, S2))
set_option maxHeartbeats 4000000 in
set_option maxRecDepth 20000 in
theorem cxX7_setRate {l : Launch} {G : Ga} {x1 : Int32} (hl : l.stackTraces = false) {S : St} {r : (Int32 ⊕ Nat)} {S1 : St} (h : X7_setRate x1 S = some (r, S1)) : CX l G 7 1 yX7_setRate cX7_setRate 2 (some .int) [.ref (G.1 0), .int x1] S (rvI r) S1 := by
  refine cx_of hl (by decide) rfl (by decide) (Nat.le_of_ble_eq_true rfl) (fun F hFl hFG hF hN hR hret => ?_)
  subst hFl hFG
  show X F 0 0 [(0, .ref (gA F 0)), (1, .int x1)] [] S
  have hxt : ∀ (e : Nat) (S : St) (u pc : Nat) (ls : List (Nat × Value)), u ≤ 1 → (.inr e = r ∧ S = S1) → XT F u pc e ls S := fun e S2 u pc ls hu hq => by obtain ⟨rfl, rfl⟩ := hq; exact hret.2.2.1 u pc e ls hu rfl
  have hthr : ∀ {e : Nat} {S : St} {u pc ik is j : Nat} {tx : String} {ls : List (Nat × Value)} {st : List Value}, u + 1 ≤ 1 → e < 3 → (st.map fun v => v.category).sum ≤ 8 → (.inr e = r ∧ S = S1) → Thr cX7_setRate pc e ik is j tx ∨ ThrW cX7_setRate pc e ik is j tx → X F u pc ls st S := fun {e S2 u pc ik is j tx ls st} hu he hs hq hT => by obtain ⟨rfl, rfl⟩ := hq; exact hret.2.2.2 u pc e ik is j tx ls st hu he hs rfl hT
  have hret : ∀ (v : Int32) (S : St) (u pc : Nat) (ls : List (Nat × Value)), u ≤ 1 → (.inl v = r ∧ S = S1) → decode cX7_setRate pc = .ok (.ireturn, 1) → X F u pc ls [.int v] S := fun v S2 u pc ls hu hq hd => by obtain ⟨rfl, rfl⟩ := hq; exact hret.1 u pc ls v hu rfl rfl hd
  have hk : r = r ∧ S1 = S1 := ⟨rfl, rfl⟩
  unfold X7_setRate at h
  refine x_aload_n hF dX7_setRate_0 rfl rfl ?_
  refine x_iconst (v := (1 : Int32)) hF dX7_setRate_1 (by decide) ?_
  refine x_iload_n hF dX7_setRate_2 rfl rfl ?_
  rcases obx_some h with ⟨r1, S2, hcall, h⟩ | ⟨r1, hcall, h⟩
  · refine x_xVi hF hN hR (cxX7_change hF.tr hcall) mwX7_change miX7_change sh0 ck6 (by decide) tw_751 ⟨by decide, by decide⟩ rfl rfl (Nat.le_of_ble_eq_true rfl) dX7_setRate_3 ?_
    obtain ⟨rfl, rfl⟩ := sm h
    exact hret _ _ _ _ _ (by decide) hk dX7_setRate_6
  · subst h
    exact x_xVt hF hN hR (cxX7_change hF.tr hcall) mwX7_change miX7_change sh0 ck6 (by decide) tw_751 ⟨by decide, by decide⟩ rfl rfl (Nat.le_of_ble_eq_true rfl) dX7_setRate_3 (hxt _ _ _ _ _ (by decide) hk)
noncomputable def X7_setPolicy (x1 : Int32) (S : St) : Option ((Int32 ⊕ Nat) × St) :=
  obx (X7_change (2 : Int32) x1 S) (fun r1 S2 => some (.inl r1, S2))
set_option maxHeartbeats 4000000 in
set_option maxRecDepth 20000 in
theorem cxX7_setPolicy {l : Launch} {G : Ga} {x1 : Int32} (hl : l.stackTraces = false) {S : St} {r : (Int32 ⊕ Nat)} {S1 : St} (h : X7_setPolicy x1 S = some (r, S1)) : CX l G 7 1 yX7_setPolicy cX7_setPolicy 2 (some .int) [.ref (G.1 0), .int x1] S (rvI r) S1 := by
  refine cx_of hl (by decide) rfl (by decide) (Nat.le_of_ble_eq_true rfl) (fun F hFl hFG hF hN hR hret => ?_)
  subst hFl hFG
  show X F 0 0 [(0, .ref (gA F 0)), (1, .int x1)] [] S
  have hxt : ∀ (e : Nat) (S : St) (u pc : Nat) (ls : List (Nat × Value)), u ≤ 1 → (.inr e = r ∧ S = S1) → XT F u pc e ls S := fun e S2 u pc ls hu hq => by obtain ⟨rfl, rfl⟩ := hq; exact hret.2.2.1 u pc e ls hu rfl
  have hthr : ∀ {e : Nat} {S : St} {u pc ik is j : Nat} {tx : String} {ls : List (Nat × Value)} {st : List Value}, u + 1 ≤ 1 → e < 3 → (st.map fun v => v.category).sum ≤ 8 → (.inr e = r ∧ S = S1) → Thr cX7_setPolicy pc e ik is j tx ∨ ThrW cX7_setPolicy pc e ik is j tx → X F u pc ls st S := fun {e S2 u pc ik is j tx ls st} hu he hs hq hT => by obtain ⟨rfl, rfl⟩ := hq; exact hret.2.2.2 u pc e ik is j tx ls st hu he hs rfl hT
  have hret : ∀ (v : Int32) (S : St) (u pc : Nat) (ls : List (Nat × Value)), u ≤ 1 → (.inl v = r ∧ S = S1) → decode cX7_setPolicy pc = .ok (.ireturn, 1) → X F u pc ls [.int v] S := fun v S2 u pc ls hu hq hd => by obtain ⟨rfl, rfl⟩ := hq; exact hret.1 u pc ls v hu rfl rfl hd
  have hk : r = r ∧ S1 = S1 := ⟨rfl, rfl⟩
  unfold X7_setPolicy at h
  refine x_aload_n hF dX7_setPolicy_0 rfl rfl ?_
  refine x_iconst (v := (2 : Int32)) hF dX7_setPolicy_1 (by decide) ?_
  refine x_iload_n hF dX7_setPolicy_2 rfl rfl ?_
  rcases obx_some h with ⟨r1, S2, hcall, h⟩ | ⟨r1, hcall, h⟩
  · refine x_xVi hF hN hR (cxX7_change hF.tr hcall) mwX7_change miX7_change sh0 ck6 (by decide) tw_751 ⟨by decide, by decide⟩ rfl rfl (Nat.le_of_ble_eq_true rfl) dX7_setPolicy_3 ?_
    obtain ⟨rfl, rfl⟩ := sm h
    exact hret _ _ _ _ _ (by decide) hk dX7_setPolicy_6
  · subst h
    exact x_xVt hF hN hR (cxX7_change hF.tr hcall) mwX7_change miX7_change sh0 ck6 (by decide) tw_751 ⟨by decide, by decide⟩ rfl rfl (Nat.le_of_ble_eq_true rfl) dX7_setPolicy_3 (hxt _ _ _ _ _ (by decide) hk)
noncomputable def X7_setScheduler (x1 : Int32) (S : St) : Option ((Int32 ⊕ Nat) × St) :=
  obx (X7_change (3 : Int32) x1 S) (fun r1 S2 => some (.inl r1, S2))
set_option maxHeartbeats 4000000 in
set_option maxRecDepth 20000 in
theorem cxX7_setScheduler {l : Launch} {G : Ga} {x1 : Int32} (hl : l.stackTraces = false) {S : St} {r : (Int32 ⊕ Nat)} {S1 : St} (h : X7_setScheduler x1 S = some (r, S1)) : CX l G 7 1 yX7_setScheduler cX7_setScheduler 2 (some .int) [.ref (G.1 0), .int x1] S (rvI r) S1 := by
  refine cx_of hl (by decide) rfl (by decide) (Nat.le_of_ble_eq_true rfl) (fun F hFl hFG hF hN hR hret => ?_)
  subst hFl hFG
  show X F 0 0 [(0, .ref (gA F 0)), (1, .int x1)] [] S
  have hxt : ∀ (e : Nat) (S : St) (u pc : Nat) (ls : List (Nat × Value)), u ≤ 1 → (.inr e = r ∧ S = S1) → XT F u pc e ls S := fun e S2 u pc ls hu hq => by obtain ⟨rfl, rfl⟩ := hq; exact hret.2.2.1 u pc e ls hu rfl
  have hthr : ∀ {e : Nat} {S : St} {u pc ik is j : Nat} {tx : String} {ls : List (Nat × Value)} {st : List Value}, u + 1 ≤ 1 → e < 3 → (st.map fun v => v.category).sum ≤ 8 → (.inr e = r ∧ S = S1) → Thr cX7_setScheduler pc e ik is j tx ∨ ThrW cX7_setScheduler pc e ik is j tx → X F u pc ls st S := fun {e S2 u pc ik is j tx ls st} hu he hs hq hT => by obtain ⟨rfl, rfl⟩ := hq; exact hret.2.2.2 u pc e ik is j tx ls st hu he hs rfl hT
  have hret : ∀ (v : Int32) (S : St) (u pc : Nat) (ls : List (Nat × Value)), u ≤ 1 → (.inl v = r ∧ S = S1) → decode cX7_setScheduler pc = .ok (.ireturn, 1) → X F u pc ls [.int v] S := fun v S2 u pc ls hu hq hd => by obtain ⟨rfl, rfl⟩ := hq; exact hret.1 u pc ls v hu rfl rfl hd
  have hk : r = r ∧ S1 = S1 := ⟨rfl, rfl⟩
  unfold X7_setScheduler at h
  refine x_aload_n hF dX7_setScheduler_0 rfl rfl ?_
  refine x_iconst (v := (3 : Int32)) hF dX7_setScheduler_1 (by decide) ?_
  refine x_iload_n hF dX7_setScheduler_2 rfl rfl ?_
  rcases obx_some h with ⟨r1, S2, hcall, h⟩ | ⟨r1, hcall, h⟩
  · refine x_xVi hF hN hR (cxX7_change hF.tr hcall) mwX7_change miX7_change sh0 ck6 (by decide) tw_751 ⟨by decide, by decide⟩ rfl rfl (Nat.le_of_ble_eq_true rfl) dX7_setScheduler_3 ?_
    obtain ⟨rfl, rfl⟩ := sm h
    exact hret _ _ _ _ _ (by decide) hk dX7_setScheduler_6
  · subst h
    exact x_xVt hF hN hR (cxX7_change hF.tr hcall) mwX7_change miX7_change sh0 ck6 (by decide) tw_751 ⟨by decide, by decide⟩ rfl rfl (Nat.le_of_ble_eq_true rfl) dX7_setScheduler_3 (hxt _ _ _ _ _ (by decide) hk)
noncomputable def X7_setFactor (x1 : Int32) (S : St) : Option ((Int32 ⊕ Nat) × St) :=
  obx (X7_change (4 : Int32) x1 S) (fun r1 S2 => some (.inl r1, S2))
set_option maxHeartbeats 4000000 in
set_option maxRecDepth 20000 in
theorem cxX7_setFactor {l : Launch} {G : Ga} {x1 : Int32} (hl : l.stackTraces = false) {S : St} {r : (Int32 ⊕ Nat)} {S1 : St} (h : X7_setFactor x1 S = some (r, S1)) : CX l G 7 1 yX7_setFactor cX7_setFactor 2 (some .int) [.ref (G.1 0), .int x1] S (rvI r) S1 := by
  refine cx_of hl (by decide) rfl (by decide) (Nat.le_of_ble_eq_true rfl) (fun F hFl hFG hF hN hR hret => ?_)
  subst hFl hFG
  show X F 0 0 [(0, .ref (gA F 0)), (1, .int x1)] [] S
  have hxt : ∀ (e : Nat) (S : St) (u pc : Nat) (ls : List (Nat × Value)), u ≤ 1 → (.inr e = r ∧ S = S1) → XT F u pc e ls S := fun e S2 u pc ls hu hq => by obtain ⟨rfl, rfl⟩ := hq; exact hret.2.2.1 u pc e ls hu rfl
  have hthr : ∀ {e : Nat} {S : St} {u pc ik is j : Nat} {tx : String} {ls : List (Nat × Value)} {st : List Value}, u + 1 ≤ 1 → e < 3 → (st.map fun v => v.category).sum ≤ 8 → (.inr e = r ∧ S = S1) → Thr cX7_setFactor pc e ik is j tx ∨ ThrW cX7_setFactor pc e ik is j tx → X F u pc ls st S := fun {e S2 u pc ik is j tx ls st} hu he hs hq hT => by obtain ⟨rfl, rfl⟩ := hq; exact hret.2.2.2 u pc e ik is j tx ls st hu he hs rfl hT
  have hret : ∀ (v : Int32) (S : St) (u pc : Nat) (ls : List (Nat × Value)), u ≤ 1 → (.inl v = r ∧ S = S1) → decode cX7_setFactor pc = .ok (.ireturn, 1) → X F u pc ls [.int v] S := fun v S2 u pc ls hu hq hd => by obtain ⟨rfl, rfl⟩ := hq; exact hret.1 u pc ls v hu rfl rfl hd
  have hk : r = r ∧ S1 = S1 := ⟨rfl, rfl⟩
  unfold X7_setFactor at h
  refine x_aload_n hF dX7_setFactor_0 rfl rfl ?_
  refine x_iconst (v := (4 : Int32)) hF dX7_setFactor_1 (by decide) ?_
  refine x_iload_n hF dX7_setFactor_2 rfl rfl ?_
  rcases obx_some h with ⟨r1, S2, hcall, h⟩ | ⟨r1, hcall, h⟩
  · refine x_xVi hF hN hR (cxX7_change hF.tr hcall) mwX7_change miX7_change sh0 ck6 (by decide) tw_751 ⟨by decide, by decide⟩ rfl rfl (Nat.le_of_ble_eq_true rfl) dX7_setFactor_3 ?_
    obtain ⟨rfl, rfl⟩ := sm h
    exact hret _ _ _ _ _ (by decide) hk dX7_setFactor_6
  · subst h
    exact x_xVt hF hN hR (cxX7_change hF.tr hcall) mwX7_change miX7_change sh0 ck6 (by decide) tw_751 ⟨by decide, by decide⟩ rfl rfl (Nat.le_of_ble_eq_true rfl) dX7_setFactor_3 (hxt _ _ _ _ _ (by decide) hk)
noncomputable def X7_setThreshold (x1 : Int32) (S : St) : Option ((Int32 ⊕ Nat) × St) :=
  obx (X7_change (5 : Int32) x1 S) (fun r1 S2 => some (.inl r1, S2))
set_option maxHeartbeats 4000000 in
set_option maxRecDepth 20000 in
theorem cxX7_setThreshold {l : Launch} {G : Ga} {x1 : Int32} (hl : l.stackTraces = false) {S : St} {r : (Int32 ⊕ Nat)} {S1 : St} (h : X7_setThreshold x1 S = some (r, S1)) : CX l G 7 1 yX7_setThreshold cX7_setThreshold 2 (some .int) [.ref (G.1 0), .int x1] S (rvI r) S1 := by
  refine cx_of hl (by decide) rfl (by decide) (Nat.le_of_ble_eq_true rfl) (fun F hFl hFG hF hN hR hret => ?_)
  subst hFl hFG
  show X F 0 0 [(0, .ref (gA F 0)), (1, .int x1)] [] S
  have hxt : ∀ (e : Nat) (S : St) (u pc : Nat) (ls : List (Nat × Value)), u ≤ 1 → (.inr e = r ∧ S = S1) → XT F u pc e ls S := fun e S2 u pc ls hu hq => by obtain ⟨rfl, rfl⟩ := hq; exact hret.2.2.1 u pc e ls hu rfl
  have hthr : ∀ {e : Nat} {S : St} {u pc ik is j : Nat} {tx : String} {ls : List (Nat × Value)} {st : List Value}, u + 1 ≤ 1 → e < 3 → (st.map fun v => v.category).sum ≤ 8 → (.inr e = r ∧ S = S1) → Thr cX7_setThreshold pc e ik is j tx ∨ ThrW cX7_setThreshold pc e ik is j tx → X F u pc ls st S := fun {e S2 u pc ik is j tx ls st} hu he hs hq hT => by obtain ⟨rfl, rfl⟩ := hq; exact hret.2.2.2 u pc e ik is j tx ls st hu he hs rfl hT
  have hret : ∀ (v : Int32) (S : St) (u pc : Nat) (ls : List (Nat × Value)), u ≤ 1 → (.inl v = r ∧ S = S1) → decode cX7_setThreshold pc = .ok (.ireturn, 1) → X F u pc ls [.int v] S := fun v S2 u pc ls hu hq hd => by obtain ⟨rfl, rfl⟩ := hq; exact hret.1 u pc ls v hu rfl rfl hd
  have hk : r = r ∧ S1 = S1 := ⟨rfl, rfl⟩
  unfold X7_setThreshold at h
  refine x_aload_n hF dX7_setThreshold_0 rfl rfl ?_
  refine x_iconst (v := (5 : Int32)) hF dX7_setThreshold_1 (by decide) ?_
  refine x_iload_n hF dX7_setThreshold_2 rfl rfl ?_
  rcases obx_some h with ⟨r1, S2, hcall, h⟩ | ⟨r1, hcall, h⟩
  · refine x_xVi hF hN hR (cxX7_change hF.tr hcall) mwX7_change miX7_change sh0 ck6 (by decide) tw_751 ⟨by decide, by decide⟩ rfl rfl (Nat.le_of_ble_eq_true rfl) dX7_setThreshold_3 ?_
    obtain ⟨rfl, rfl⟩ := sm h
    exact hret _ _ _ _ _ (by decide) hk dX7_setThreshold_6
  · subst h
    exact x_xVt hF hN hR (cxX7_change hF.tr hcall) mwX7_change miX7_change sh0 ck6 (by decide) tw_751 ⟨by decide, by decide⟩ rfl rfl (Nat.le_of_ble_eq_true rfl) dX7_setThreshold_3 (hxt _ _ _ _ _ (by decide) hk)
noncomputable def X7_setInterval (x1 : Int32) (S : St) : Option ((Int32 ⊕ Nat) × St) :=
  obx (X7_change (6 : Int32) x1 S) (fun r1 S2 => some (.inl r1, S2))
set_option maxHeartbeats 4000000 in
set_option maxRecDepth 20000 in
theorem cxX7_setInterval {l : Launch} {G : Ga} {x1 : Int32} (hl : l.stackTraces = false) {S : St} {r : (Int32 ⊕ Nat)} {S1 : St} (h : X7_setInterval x1 S = some (r, S1)) : CX l G 7 1 yX7_setInterval cX7_setInterval 2 (some .int) [.ref (G.1 0), .int x1] S (rvI r) S1 := by
  refine cx_of hl (by decide) rfl (by decide) (Nat.le_of_ble_eq_true rfl) (fun F hFl hFG hF hN hR hret => ?_)
  subst hFl hFG
  show X F 0 0 [(0, .ref (gA F 0)), (1, .int x1)] [] S
  have hxt : ∀ (e : Nat) (S : St) (u pc : Nat) (ls : List (Nat × Value)), u ≤ 1 → (.inr e = r ∧ S = S1) → XT F u pc e ls S := fun e S2 u pc ls hu hq => by obtain ⟨rfl, rfl⟩ := hq; exact hret.2.2.1 u pc e ls hu rfl
  have hthr : ∀ {e : Nat} {S : St} {u pc ik is j : Nat} {tx : String} {ls : List (Nat × Value)} {st : List Value}, u + 1 ≤ 1 → e < 3 → (st.map fun v => v.category).sum ≤ 8 → (.inr e = r ∧ S = S1) → Thr cX7_setInterval pc e ik is j tx ∨ ThrW cX7_setInterval pc e ik is j tx → X F u pc ls st S := fun {e S2 u pc ik is j tx ls st} hu he hs hq hT => by obtain ⟨rfl, rfl⟩ := hq; exact hret.2.2.2 u pc e ik is j tx ls st hu he hs rfl hT
  have hret : ∀ (v : Int32) (S : St) (u pc : Nat) (ls : List (Nat × Value)), u ≤ 1 → (.inl v = r ∧ S = S1) → decode cX7_setInterval pc = .ok (.ireturn, 1) → X F u pc ls [.int v] S := fun v S2 u pc ls hu hq hd => by obtain ⟨rfl, rfl⟩ := hq; exact hret.1 u pc ls v hu rfl rfl hd
  have hk : r = r ∧ S1 = S1 := ⟨rfl, rfl⟩
  unfold X7_setInterval at h
  refine x_aload_n hF dX7_setInterval_0 rfl rfl ?_
  refine x_bipush (v := (6 : Int32)) hF dX7_setInterval_1 (by decide) ?_
  refine x_iload_n hF dX7_setInterval_3 rfl rfl ?_
  rcases obx_some h with ⟨r1, S2, hcall, h⟩ | ⟨r1, hcall, h⟩
  · refine x_xVi hF hN hR (cxX7_change hF.tr hcall) mwX7_change miX7_change sh0 ck6 (by decide) tw_751 ⟨by decide, by decide⟩ rfl rfl (Nat.le_of_ble_eq_true rfl) dX7_setInterval_4 ?_
    obtain ⟨rfl, rfl⟩ := sm h
    exact hret _ _ _ _ _ (by decide) hk dX7_setInterval_7
  · subst h
    exact x_xVt hF hN hR (cxX7_change hF.tr hcall) mwX7_change miX7_change sh0 ck6 (by decide) tw_751 ⟨by decide, by decide⟩ rfl rfl (Nat.le_of_ble_eq_true rfl) dX7_setInterval_4 (hxt _ _ _ _ _ (by decide) hk)
noncomputable def X7_setMeasure (x1 : Int32) (S : St) : Option ((Int32 ⊕ Nat) × St) :=
  obx (X7_change (7 : Int32) x1 S) (fun r1 S2 => some (.inl r1, S2))
set_option maxHeartbeats 4000000 in
set_option maxRecDepth 20000 in
theorem cxX7_setMeasure {l : Launch} {G : Ga} {x1 : Int32} (hl : l.stackTraces = false) {S : St} {r : (Int32 ⊕ Nat)} {S1 : St} (h : X7_setMeasure x1 S = some (r, S1)) : CX l G 7 1 yX7_setMeasure cX7_setMeasure 2 (some .int) [.ref (G.1 0), .int x1] S (rvI r) S1 := by
  refine cx_of hl (by decide) rfl (by decide) (Nat.le_of_ble_eq_true rfl) (fun F hFl hFG hF hN hR hret => ?_)
  subst hFl hFG
  show X F 0 0 [(0, .ref (gA F 0)), (1, .int x1)] [] S
  have hxt : ∀ (e : Nat) (S : St) (u pc : Nat) (ls : List (Nat × Value)), u ≤ 1 → (.inr e = r ∧ S = S1) → XT F u pc e ls S := fun e S2 u pc ls hu hq => by obtain ⟨rfl, rfl⟩ := hq; exact hret.2.2.1 u pc e ls hu rfl
  have hthr : ∀ {e : Nat} {S : St} {u pc ik is j : Nat} {tx : String} {ls : List (Nat × Value)} {st : List Value}, u + 1 ≤ 1 → e < 3 → (st.map fun v => v.category).sum ≤ 8 → (.inr e = r ∧ S = S1) → Thr cX7_setMeasure pc e ik is j tx ∨ ThrW cX7_setMeasure pc e ik is j tx → X F u pc ls st S := fun {e S2 u pc ik is j tx ls st} hu he hs hq hT => by obtain ⟨rfl, rfl⟩ := hq; exact hret.2.2.2 u pc e ik is j tx ls st hu he hs rfl hT
  have hret : ∀ (v : Int32) (S : St) (u pc : Nat) (ls : List (Nat × Value)), u ≤ 1 → (.inl v = r ∧ S = S1) → decode cX7_setMeasure pc = .ok (.ireturn, 1) → X F u pc ls [.int v] S := fun v S2 u pc ls hu hq hd => by obtain ⟨rfl, rfl⟩ := hq; exact hret.1 u pc ls v hu rfl rfl hd
  have hk : r = r ∧ S1 = S1 := ⟨rfl, rfl⟩
  unfold X7_setMeasure at h
  refine x_aload_n hF dX7_setMeasure_0 rfl rfl ?_
  refine x_bipush (v := (7 : Int32)) hF dX7_setMeasure_1 (by decide) ?_
  refine x_iload_n hF dX7_setMeasure_3 rfl rfl ?_
  rcases obx_some h with ⟨r1, S2, hcall, h⟩ | ⟨r1, hcall, h⟩
  · refine x_xVi hF hN hR (cxX7_change hF.tr hcall) mwX7_change miX7_change sh0 ck6 (by decide) tw_751 ⟨by decide, by decide⟩ rfl rfl (Nat.le_of_ble_eq_true rfl) dX7_setMeasure_4 ?_
    obtain ⟨rfl, rfl⟩ := sm h
    exact hret _ _ _ _ _ (by decide) hk dX7_setMeasure_7
  · subst h
    exact x_xVt hF hN hR (cxX7_change hF.tr hcall) mwX7_change miX7_change sh0 ck6 (by decide) tw_751 ⟨by decide, by decide⟩ rfl rfl (Nat.le_of_ble_eq_true rfl) dX7_setMeasure_4 (hxt _ _ _ _ _ (by decide) hk)
noncomputable def X7_setPriority (x1 : Int32) (x2 : Int32) (S : St) : Option ((Int32 ⊕ Nat) × St) :=
  obx (X7_requireFlow x1 S) (fun r1 S2 => obx (X7_change ((8 : Int32) + x1) x2 S2) (fun r3 S4 => some (.inl r3, S4)))
set_option maxHeartbeats 4000000 in
set_option maxRecDepth 20000 in
theorem cxX7_setPriority {l : Launch} {G : Ga} {x1 : Int32} {x2 : Int32} (hl : l.stackTraces = false) {S : St} {r : (Int32 ⊕ Nat)} {S1 : St} (h : X7_setPriority x1 x2 S = some (r, S1)) : CX l G 7 2 yX7_setPriority cX7_setPriority 3 (some .int) [.ref (G.1 0), .int x1, .int x2] S (rvI r) S1 := by
  refine cx_of hl (by decide) rfl (by decide) (Nat.le_of_ble_eq_true rfl) (fun F hFl hFG hF hN hR hret => ?_)
  subst hFl hFG
  show X F 0 0 [(0, .ref (gA F 0)), (1, .int x1), (2, .int x2)] [] S
  have hxt : ∀ (e : Nat) (S : St) (u pc : Nat) (ls : List (Nat × Value)), u ≤ 2 → (.inr e = r ∧ S = S1) → XT F u pc e ls S := fun e S2 u pc ls hu hq => by obtain ⟨rfl, rfl⟩ := hq; exact hret.2.2.1 u pc e ls hu rfl
  have hthr : ∀ {e : Nat} {S : St} {u pc ik is j : Nat} {tx : String} {ls : List (Nat × Value)} {st : List Value}, u + 1 ≤ 2 → e < 3 → (st.map fun v => v.category).sum ≤ 8 → (.inr e = r ∧ S = S1) → Thr cX7_setPriority pc e ik is j tx ∨ ThrW cX7_setPriority pc e ik is j tx → X F u pc ls st S := fun {e S2 u pc ik is j tx ls st} hu he hs hq hT => by obtain ⟨rfl, rfl⟩ := hq; exact hret.2.2.2 u pc e ik is j tx ls st hu he hs rfl hT
  have hret : ∀ (v : Int32) (S : St) (u pc : Nat) (ls : List (Nat × Value)), u ≤ 2 → (.inl v = r ∧ S = S1) → decode cX7_setPriority pc = .ok (.ireturn, 1) → X F u pc ls [.int v] S := fun v S2 u pc ls hu hq hd => by obtain ⟨rfl, rfl⟩ := hq; exact hret.1 u pc ls v hu rfl rfl hd
  have hk : r = r ∧ S1 = S1 := ⟨rfl, rfl⟩
  unfold X7_setPriority at h
  refine x_iload_n hF dX7_setPriority_0 rfl rfl ?_
  rcases obx_some h with ⟨r1, S2, hcall, h⟩ | ⟨r1, hcall, h⟩
  · refine x_xSv hF hN hR (cxX7_requireFlow hF.tr hcall) mwX7_requireFlow tw_589 tw_588 ⟨by decide, by decide⟩ rfl rfl (Nat.le_of_ble_eq_true rfl) dX7_setPriority_1 ?_
    refine x_aload_n hF dX7_setPriority_4 rfl rfl ?_
    refine x_bipush (v := (8 : Int32)) hF dX7_setPriority_5 (by decide) ?_
    refine x_iload_n hF dX7_setPriority_7 rfl rfl ?_
    refine x_iadd hF dX7_setPriority_8 ?_
    refine x_iload_n hF dX7_setPriority_9 rfl rfl ?_
    rcases obx_some h with ⟨r3, S4, hcall, h⟩ | ⟨r3, hcall, h⟩
    · refine x_xVi hF hN hR (cxX7_change hF.tr hcall) mwX7_change miX7_change sh0 ck6 (by decide) tw_751 ⟨by decide, by decide⟩ rfl rfl (Nat.le_of_ble_eq_true rfl) dX7_setPriority_10 ?_
      obtain ⟨rfl, rfl⟩ := sm h
      exact hret _ _ _ _ _ (by decide) hk dX7_setPriority_13
    · subst h
      exact x_xVt hF hN hR (cxX7_change hF.tr hcall) mwX7_change miX7_change sh0 ck6 (by decide) tw_751 ⟨by decide, by decide⟩ rfl rfl (Nat.le_of_ble_eq_true rfl) dX7_setPriority_10 (hxt _ _ _ _ _ (by decide) hk)
  · subst h
    exact x_xSt hF hN hR (cxX7_requireFlow hF.tr hcall) mwX7_requireFlow tw_589 tw_588 ⟨by decide, by decide⟩ rfl rfl (Nat.le_of_ble_eq_true rfl) dX7_setPriority_1 (hxt _ _ _ _ _ (by decide) hk)
noncomputable def X2_empty (k : Nat) (S : St) : Option (Unit × St) :=
  ol (si S k 0 (0 : Int32)) (fun T1 => ol (si T1 k 3 (0 : Int32)) (fun T2 => ol (si T2 k 4 (-1 : Int32)) (fun T3 => some ((), T3))))
set_option maxHeartbeats 4000000 in
set_option maxRecDepth 20000 in
theorem ctX2_empty {l : Launch} {G : Ga} {k : Nat} (ik : isLine k) (hl : l.stackTraces = false) {S : St} {r : Unit} {S1 : St} (h : X2_empty k S = some (r, S1)) : CT l G 0 yX2_empty cX2_empty 1 none [.ref (G.1 k)] S none S1 := by
  refine ct_of hl (by decide) (Nat.le_of_ble_eq_true rfl) (fun F hFl hFG hF hN hR hret => ?_)
  subst hFl hFG
  show X F 0 0 [(0, .ref (gA F k))] [] S
  have hret : ∀ (v : Unit) (S : St) (pc : Nat) (ls : List (Nat × Value)), (v = r ∧ S = S1) → decode cX2_empty pc = .ok (.return_, 1) → X F 0 pc ls [] S := fun v S2 pc ls hq hd => by obtain ⟨rfl, rfl⟩ := hq; exact hret.2.2.2.2.1 pc ls rfl rfl hd
  have hk : r = r ∧ S1 = S1 := ⟨rfl, rfl⟩
  unfold X2_empty at h
  refine x_aload_n hF dX2_empty_0 rfl rfl ?_
  refine x_iconst (v := (0 : Int32)) hF dX2_empty_1 (by decide) ?_
  obtain ⟨T1, eT1, h⟩ := ol_some h
  refine x_puti hF (shLine_0 ik) 0 rfl ck1 (ltLine_0 ik) (by decide) tw_213 rfl rfl rfl rfl rfl eT1 dX2_empty_2 ?_
  refine x_aload_n hF dX2_empty_5 rfl rfl ?_
  refine x_iconst (v := (0 : Int32)) hF dX2_empty_6 (by decide) ?_
  obtain ⟨T2, eT2, h⟩ := ol_some h
  refine x_puti hF (shLine_0 ik) 3 rfl ck1 (ltLine_0 ik) (by decide) tw_219 rfl rfl rfl rfl rfl eT2 dX2_empty_7 ?_
  refine x_aload_n hF dX2_empty_10 rfl rfl ?_
  refine x_iconst (v := (-1 : Int32)) hF dX2_empty_11 (by decide) ?_
  obtain ⟨T3, eT3, h⟩ := ol_some h
  refine x_puti hF (shLine_0 ik) 4 rfl ck1 (ltLine_0 ik) (by decide) tw_221 rfl rfl rfl rfl rfl eT3 dX2_empty_12 ?_
  obtain ⟨rfl, rfl⟩ := sm h
  exact hret _ _ _ _ hk dX2_empty_15
noncomputable def X2_join (k : Nat) (x1 : Int32) (x2 : Int32) (S : St) : Option (Unit × St) :=
  oi ((40 : Int32) ≤ (gi S k 0)) (some ((), S)) (og (inb (gi S k 0) 40) (ol (si S (k + 1) (ix (gi S k 0)) x1) (fun T1 => og (inb x1 40) (ol (si T1 (k + 2) (ix x1) x2) (fun T2 => ol (si T2 k 0 ((gi T2 k 0) + (1 : Int32))) (fun T3 => ol (si T3 k 3 ((gi T3 k 3) + x2)) (fun T4 => some ((), T4))))))))
set_option maxHeartbeats 4000000 in
set_option maxRecDepth 20000 in
theorem ctX2_join {l : Launch} {G : Ga} {k : Nat} (ik : isLine k) {x1 : Int32} {x2 : Int32} (hl : l.stackTraces = false) {S : St} {r : Unit} {S1 : St} (h : X2_join k x1 x2 S = some (r, S1)) : CT l G 0 yX2_join cX2_join 3 none [.ref (G.1 k), .int x1, .int x2] S none S1 := by
  refine ct_of hl (by decide) (Nat.le_of_ble_eq_true rfl) (fun F hFl hFG hF hN hR hret => ?_)
  subst hFl hFG
  show X F 0 0 [(0, .ref (gA F k)), (1, .int x1), (2, .int x2)] [] S
  have hret : ∀ (v : Unit) (S : St) (pc : Nat) (ls : List (Nat × Value)), (v = r ∧ S = S1) → decode cX2_join pc = .ok (.return_, 1) → X F 0 pc ls [] S := fun v S2 pc ls hq hd => by obtain ⟨rfl, rfl⟩ := hq; exact hret.2.2.2.2.1 pc ls rfl rfl hd
  have hk : r = r ∧ S1 = S1 := ⟨rfl, rfl⟩
  unfold X2_join at h
  refine x_aload_n hF dX2_join_0 rfl rfl ?_
  refine x_geti hF (shLine_0 ik) 0 rfl ck1 (ltLine_0 ik) (by decide) tw_213 rfl dX2_join_1 ?_
  refine x_bipush (v := (40 : Int32)) hF dX2_join_4 (by decide) ?_
  refine x_icmp_ge (tgt := 46) hF dX2_join_6 (by decide) (fun hc => ?_) (fun hc => ?_)
  · have h := oi_pos hc h
    obtain ⟨rfl, rfl⟩ := sm h
    exact hret _ _ _ _ hk dX2_join_46
  · have h := oi_neg hc h
    refine x_aload_n hF dX2_join_9 rfl rfl ?_
    refine x_getr hF (shLine_0 ik) 1 rfl ck1 (ltLine_0 ik) (by decide) tw_215 rfl dX2_join_10 ?_
    refine x_aload_n hF dX2_join_13 rfl rfl ?_
    refine x_geti hF (shLine_0 ik) 0 rfl ck1 (ltLine_0 ik) (by decide) tw_213 rfl dX2_join_14 ?_
    refine x_iload_n hF dX2_join_17 rfl rfl ?_
    obtain ⟨hg, h⟩ := og_some h
    obtain ⟨T1, eT1, h⟩ := ol_some h
    refine x_iast hF (shLine_1 ik) (ltLine_1 ik) hg rfl eT1 dX2_join_18 ?_
    refine x_aload_n hF dX2_join_19 rfl rfl ?_
    refine x_getr hF (shLine_0 ik) 2 rfl ck1 (ltLine_0 ik) (by decide) tw_217 rfl dX2_join_20 ?_
    refine x_iload_n hF dX2_join_23 rfl rfl ?_
    refine x_iload_n hF dX2_join_24 rfl rfl ?_
    obtain ⟨hg, h⟩ := og_some h
    obtain ⟨T2, eT2, h⟩ := ol_some h
    refine x_iast hF (shLine_2 ik) (ltLine_2 ik) hg rfl eT2 dX2_join_25 ?_
    refine x_aload_n hF dX2_join_26 rfl rfl ?_
    refine x_dup hF dX2_join_27 rfl ?_
    refine x_geti hF (shLine_0 ik) 0 rfl ck1 (ltLine_0 ik) (by decide) tw_213 rfl dX2_join_28 ?_
    refine x_iconst (v := (1 : Int32)) hF dX2_join_31 (by decide) ?_
    refine x_iadd hF dX2_join_32 ?_
    obtain ⟨T3, eT3, h⟩ := ol_some h
    refine x_puti hF (shLine_0 ik) 0 rfl ck1 (ltLine_0 ik) (by decide) tw_213 rfl rfl rfl rfl rfl eT3 dX2_join_33 ?_
    refine x_aload_n hF dX2_join_36 rfl rfl ?_
    refine x_dup hF dX2_join_37 rfl ?_
    refine x_geti hF (shLine_0 ik) 3 rfl ck1 (ltLine_0 ik) (by decide) tw_219 rfl dX2_join_38 ?_
    refine x_iload_n hF dX2_join_41 rfl rfl ?_
    refine x_iadd hF dX2_join_42 ?_
    obtain ⟨T4, eT4, h⟩ := ol_some h
    refine x_puti hF (shLine_0 ik) 3 rfl ck1 (ltLine_0 ik) (by decide) tw_219 rfl rfl rfl rfl rfl eT4 dX2_join_43 ?_
    obtain ⟨rfl, rfl⟩ := sm h
    exact hret _ _ _ _ hk dX2_join_46
noncomputable def X3_begin (k : Nat) (x1 : Int32) (x2 : Int32) (S : St) : Option (Unit × St) :=
  ol (si S k 0 (1 : Int32)) (fun T1 => ol (si T1 k 1 x1) (fun T2 => ol (si T2 k 5 x2) (fun T3 => ol (si T3 k 3 (0 : Int32)) (fun T4 => ol (si T4 k 6 (0 : Int32)) (fun T5 => some ((), T5))))))
set_option maxHeartbeats 4000000 in
set_option maxRecDepth 20000 in
theorem ctX3_begin {l : Launch} {G : Ga} {k : Nat} (ik : isOutcome k) {x1 : Int32} {x2 : Int32} (hl : l.stackTraces = false) {S : St} {r : Unit} {S1 : St} (h : X3_begin k x1 x2 S = some (r, S1)) : CT l G 0 yX3_begin cX3_begin 3 none [.ref (G.1 k), .int x1, .int x2] S none S1 := by
  refine ct_of hl (by decide) (Nat.le_of_ble_eq_true rfl) (fun F hFl hFG hF hN hR hret => ?_)
  subst hFl hFG
  show X F 0 0 [(0, .ref (gA F k)), (1, .int x1), (2, .int x2)] [] S
  have hret : ∀ (v : Unit) (S : St) (pc : Nat) (ls : List (Nat × Value)), (v = r ∧ S = S1) → decode cX3_begin pc = .ok (.return_, 1) → X F 0 pc ls [] S := fun v S2 pc ls hq hd => by obtain ⟨rfl, rfl⟩ := hq; exact hret.2.2.2.2.1 pc ls rfl rfl hd
  have hk : r = r ∧ S1 = S1 := ⟨rfl, rfl⟩
  unfold X3_begin at h
  refine x_aload_n hF dX3_begin_0 rfl rfl ?_
  refine x_iconst (v := (1 : Int32)) hF dX3_begin_1 (by decide) ?_
  have hg : isB (1 : Int32) := by decide
  obtain ⟨T1, eT1, h⟩ := ol_some h
  refine x_puti hF (shOutcome_0 ik) 0 rfl ck2 (ltOutcome_0 ik) (by decide) tw_177 rfl rfl rfl (isB_n hg) (isB_f hg) eT1 dX3_begin_2 ?_
  refine x_aload_n hF dX3_begin_5 rfl rfl ?_
  refine x_iload_n hF dX3_begin_6 rfl rfl ?_
  obtain ⟨T2, eT2, h⟩ := ol_some h
  refine x_puti hF (shOutcome_0 ik) 1 rfl ck2 (ltOutcome_0 ik) (by decide) tw_178 rfl rfl rfl rfl rfl eT2 dX3_begin_7 ?_
  refine x_aload_n hF dX3_begin_10 rfl rfl ?_
  refine x_iload_n hF dX3_begin_11 rfl rfl ?_
  obtain ⟨T3, eT3, h⟩ := ol_some h
  refine x_puti hF (shOutcome_0 ik) 5 rfl ck2 (ltOutcome_0 ik) (by decide) tw_184 rfl rfl rfl rfl rfl eT3 dX3_begin_12 ?_
  refine x_aload_n hF dX3_begin_15 rfl rfl ?_
  refine x_iconst (v := (0 : Int32)) hF dX3_begin_16 (by decide) ?_
  obtain ⟨T4, eT4, h⟩ := ol_some h
  refine x_puti hF (shOutcome_0 ik) 3 rfl ck2 (ltOutcome_0 ik) (by decide) tw_181 rfl rfl rfl rfl rfl eT4 dX3_begin_17 ?_
  refine x_aload_n hF dX3_begin_20 rfl rfl ?_
  refine x_iconst (v := (0 : Int32)) hF dX3_begin_21 (by decide) ?_
  obtain ⟨T5, eT5, h⟩ := ol_some h
  refine x_puti hF (shOutcome_0 ik) 6 rfl ck2 (ltOutcome_0 ik) (by decide) tw_185 rfl rfl rfl rfl rfl eT5 dX3_begin_22 ?_
  obtain ⟨rfl, rfl⟩ := sm h
  exact hret _ _ _ _ hk dX3_begin_25
