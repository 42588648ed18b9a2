noncomputable def X8_setFactor (x1 : Int32) (S : St) : Option (Int32 × St) :=
  ob (X8_sets (125 : Int32) x1 S) (fun r1 S2 => some (r1, S2))
set_option maxHeartbeats 4000000 in
set_option maxRecDepth 20000 in
theorem ctX8_setFactor {l : Launch} {G : Ga} {x1 : Int32} (hl : l.stackTraces = false) {S : St} {r : Int32} {S1 : St} (h : X8_setFactor x1 S = some (r, S1)) : CT l G 3 yX8_setFactor cX8_setFactor 2 (some .int) [.ref (G.1 75), .int x1] S (some (.int r)) S1 := by
  refine ct_of hl (by decide) (Nat.le_of_ble_eq_true rfl) (fun F hFl hFG hF hN hR hret => ?_)
  subst hFl hFG
  show X F 0 0 [(0, .ref (gA F 75)), (1, .int x1)] [] S
  have hret : ∀ (v : Int32) (S : St) (pc : Nat) (ls : List (Nat × Value)), (v = r ∧ S = S1) → decode cX8_setFactor pc = .ok (.ireturn, 1) → X F 0 pc ls [.int v] S := fun v S2 pc ls hq hd => by obtain ⟨rfl, rfl⟩ := hq; exact hret.1 pc ls v rfl rfl hd
  have hk : r = r ∧ S1 = S1 := ⟨rfl, rfl⟩
  unfold X8_setFactor at h
  refine x_aload_n hF dX8_setFactor_0 rfl rfl ?_
  refine x_bipush (v := (125 : Int32)) hF dX8_setFactor_1 (by decide) ?_
  refine x_iload_n hF dX8_setFactor_3 rfl rfl ?_
  obtain ⟨r1, S2, hcall, h⟩ := ob_some h
  refine x_cVi hF hN hR (ctX8_sets hF.tr hcall) mwX8_sets miX8_sets sh75 ck7 (by decide) tw_1190 ⟨by decide, by decide⟩ rfl rfl (Nat.le_of_ble_eq_true rfl) dX8_setFactor_4 ?_
  obtain ⟨rfl, rfl⟩ := sm h
  exact hret _ _ _ _ hk dX8_setFactor_7
noncomputable def X8_setThreshold (x1 : Int32) (S : St) : Option (Int32 × St) :=
  ob (X8_sets (126 : Int32) x1 S) (fun r1 S2 => some (r1, S2))
set_option maxHeartbeats 4000000 in
set_option maxRecDepth 20000 in
theorem ctX8_setThreshold {l : Launch} {G : Ga} {x1 : Int32} (hl : l.stackTraces = false) {S : St} {r : Int32} {S1 : St} (h : X8_setThreshold x1 S = some (r, S1)) : CT l G 3 yX8_setThreshold cX8_setThreshold 2 (some .int) [.ref (G.1 75), .int x1] S (some (.int r)) S1 := by
  refine ct_of hl (by decide) (Nat.le_of_ble_eq_true rfl) (fun F hFl hFG hF hN hR hret => ?_)
  subst hFl hFG
  show X F 0 0 [(0, .ref (gA F 75)), (1, .int x1)] [] S
  have hret : ∀ (v : Int32) (S : St) (pc : Nat) (ls : List (Nat × Value)), (v = r ∧ S = S1) → decode cX8_setThreshold pc = .ok (.ireturn, 1) → X F 0 pc ls [.int v] S := fun v S2 pc ls hq hd => by obtain ⟨rfl, rfl⟩ := hq; exact hret.1 pc ls v rfl rfl hd
  have hk : r = r ∧ S1 = S1 := ⟨rfl, rfl⟩
  unfold X8_setThreshold at h
  refine x_aload_n hF dX8_setThreshold_0 rfl rfl ?_
  refine x_bipush (v := (126 : Int32)) hF dX8_setThreshold_1 (by decide) ?_
  refine x_iload_n hF dX8_setThreshold_3 rfl rfl ?_
  obtain ⟨r1, S2, hcall, h⟩ := ob_some h
  refine x_cVi hF hN hR (ctX8_sets hF.tr hcall) mwX8_sets miX8_sets sh75 ck7 (by decide) tw_1190 ⟨by decide, by decide⟩ rfl rfl (Nat.le_of_ble_eq_true rfl) dX8_setThreshold_4 ?_
  obtain ⟨rfl, rfl⟩ := sm h
  exact hret _ _ _ _ hk dX8_setThreshold_7
noncomputable def X8_setInterval (x1 : Int32) (S : St) : Option (Int32 × St) :=
  ob (X8_sets (127 : Int32) x1 S) (fun r1 S2 => some (r1, S2))
set_option maxHeartbeats 4000000 in
set_option maxRecDepth 20000 in
theorem ctX8_setInterval {l : Launch} {G : Ga} {x1 : Int32} (hl : l.stackTraces = false) {S : St} {r : Int32} {S1 : St} (h : X8_setInterval x1 S = some (r, S1)) : CT l G 3 yX8_setInterval cX8_setInterval 2 (some .int) [.ref (G.1 75), .int x1] S (some (.int r)) S1 := by
  refine ct_of hl (by decide) (Nat.le_of_ble_eq_true rfl) (fun F hFl hFG hF hN hR hret => ?_)
  subst hFl hFG
  show X F 0 0 [(0, .ref (gA F 75)), (1, .int x1)] [] S
  have hret : ∀ (v : Int32) (S : St) (pc : Nat) (ls : List (Nat × Value)), (v = r ∧ S = S1) → decode cX8_setInterval pc = .ok (.ireturn, 1) → X F 0 pc ls [.int v] S := fun v S2 pc ls hq hd => by obtain ⟨rfl, rfl⟩ := hq; exact hret.1 pc ls v rfl rfl hd
  have hk : r = r ∧ S1 = S1 := ⟨rfl, rfl⟩
  unfold X8_setInterval at h
  refine x_aload_n hF dX8_setInterval_0 rfl rfl ?_
  refine x_bipush (v := (127 : Int32)) hF dX8_setInterval_1 (by decide) ?_
  refine x_iload_n hF dX8_setInterval_3 rfl rfl ?_
  obtain ⟨r1, S2, hcall, h⟩ := ob_some h
  refine x_cVi hF hN hR (ctX8_sets hF.tr hcall) mwX8_sets miX8_sets sh75 ck7 (by decide) tw_1190 ⟨by decide, by decide⟩ rfl rfl (Nat.le_of_ble_eq_true rfl) dX8_setInterval_4 ?_
  obtain ⟨rfl, rfl⟩ := sm h
  exact hret _ _ _ _ hk dX8_setInterval_7
noncomputable def X8_setMeasure (x1 : Int32) (S : St) : Option (Int32 × St) :=
  ob (X8_sets (128 : Int32) x1 S) (fun r1 S2 => some (r1, S2))
set_option maxHeartbeats 4000000 in
set_option maxRecDepth 20000 in
theorem ctX8_setMeasure {l : Launch} {G : Ga} {x1 : Int32} (hl : l.stackTraces = false) {S : St} {r : Int32} {S1 : St} (h : X8_setMeasure x1 S = some (r, S1)) : CT l G 3 yX8_setMeasure cX8_setMeasure 2 (some .int) [.ref (G.1 75), .int x1] S (some (.int r)) S1 := by
  refine ct_of hl (by decide) (Nat.le_of_ble_eq_true rfl) (fun F hFl hFG hF hN hR hret => ?_)
  subst hFl hFG
  show X F 0 0 [(0, .ref (gA F 75)), (1, .int x1)] [] S
  have hret : ∀ (v : Int32) (S : St) (pc : Nat) (ls : List (Nat × Value)), (v = r ∧ S = S1) → decode cX8_setMeasure pc = .ok (.ireturn, 1) → X F 0 pc ls [.int v] S := fun v S2 pc ls hq hd => by obtain ⟨rfl, rfl⟩ := hq; exact hret.1 pc ls v rfl rfl hd
  have hk : r = r ∧ S1 = S1 := ⟨rfl, rfl⟩
  unfold X8_setMeasure at h
  refine x_aload_n hF dX8_setMeasure_0 rfl rfl ?_
  refine x_sipush (v := (128 : Int32)) hF dX8_setMeasure_1 (by decide) ?_
  refine x_iload_n hF dX8_setMeasure_4 rfl rfl ?_
  obtain ⟨r1, S2, hcall, h⟩ := ob_some h
  refine x_cVi hF hN hR (ctX8_sets hF.tr hcall) mwX8_sets miX8_sets sh75 ck7 (by decide) tw_1190 ⟨by decide, by decide⟩ rfl rfl (Nat.le_of_ble_eq_true rfl) dX8_setMeasure_5 ?_
  obtain ⟨rfl, rfl⟩ := sm h
  exact hret _ _ _ _ hk dX8_setMeasure_8
noncomputable def X8_setPriority_27 (x1 : Int32) (x2 : Int32) (z1 : Int32) (S : St) : Option (Int32 × St) :=
  ob (X8_refuses z1 S) (fun r5 S6 => oi (r5 = 0) (ob (X8_keeps  S6) (fun r7 S8 => ob (X8_becomes ((129 : Int32) + x1) x2 S8) (fun r9 S10 => some (r9, S10)))) (some ((0 : Int32), S6)))
set_option maxHeartbeats 4000000 in
set_option maxRecDepth 20000 in
theorem xX8_setPriority_27 {F : Cx} (hF : Ok F cX8_setPriority RX8) (hN : nLF F 3) (hR : RmF F 2 0) {x1 : Int32} {x2 : Int32} {z1 : Int32} {K : Int32 → St → Prop} (hret : ∀ (v : Int32) (S : St) (pc : Nat) (ls : List (Nat × Value)), K v S → decode cX8_setPriority pc = .ok (.ireturn, 1) → X F 0 pc ls [.int v] S) {S : St} {r : Int32} {S1 : St} (h : X8_setPriority_27 x1 x2 z1 S = some (r, S1)) (hk : K r S1) : X F 0 27 [(0, .ref (gA F 75)), (1, .int x1), (2, .int x2)] [.int z1, .ref (gA F 75)] S := by
  unfold X8_setPriority_27 at h
  obtain ⟨r5, S6, hcall, h⟩ := ob_some h
  refine x_cVi hF hN hR (ctX8_refuses hF.tr hcall) mwX8_refuses miX8_refuses sh75 ck7 (by decide) tw_1154 ⟨by decide, by decide⟩ rfl rfl (Nat.le_of_ble_eq_true rfl) dX8_setPriority_27 ?_
  refine x_if_eq (tgt := 35) hF dX8_setPriority_30 (by decide) (fun hc => ?_) (fun hc => ?_)
  · have h := oi_pos hc h
    refine x_aload_n hF dX8_setPriority_35 rfl rfl ?_
    obtain ⟨r7, S8, hcall, h⟩ := ob_some h
    refine x_cVv hF hN hR (ctX8_keeps hF.tr hcall) mwX8_keeps miX8_keeps sh75 ck7 (by decide) tw_1158 ⟨by decide, by decide⟩ rfl rfl (Nat.le_of_ble_eq_true rfl) dX8_setPriority_36 ?_
    refine x_aload_n hF dX8_setPriority_39 rfl rfl ?_
    refine x_sipush (v := (129 : Int32)) hF dX8_setPriority_40 (by decide) ?_
    refine x_iload_n hF dX8_setPriority_43 rfl rfl ?_
    refine x_iadd hF dX8_setPriority_44 ?_
    refine x_iload_n hF dX8_setPriority_45 rfl rfl ?_
    obtain ⟨r9, S10, hcall, h⟩ := ob_some h
    refine x_cVi hF hN hR (ctX8_becomes hF.tr hcall) mwX8_becomes miX8_becomes sh75 ck7 (by decide) tw_1203 ⟨by decide, by decide⟩ rfl rfl (Nat.le_of_ble_eq_true rfl) dX8_setPriority_46 ?_
    obtain ⟨rfl, rfl⟩ := sm h
    exact hret _ _ _ _ hk dX8_setPriority_49
  · have h := oi_neg hc h
    refine x_iconst (v := (0 : Int32)) hF dX8_setPriority_33 (by decide) ?_
    obtain ⟨rfl, rfl⟩ := sm h
    exact hret _ _ _ _ hk dX8_setPriority_34
noncomputable def X8_setPriority (x1 : Int32) (x2 : Int32) (S : St) : Option (Int32 × St) :=
  ob (X8_isFlow x1 S) (fun r1 S2 => oi (r1 = 0) (X8_setPriority_27 x1 x2 (1 : Int32) S2) (ob (X8_in x2 (0 : Int32) (9 : Int32) S2) (fun r3 S4 => oi (r3 = 0) (X8_setPriority_27 x1 x2 (2 : Int32) S4) (X8_setPriority_27 x1 x2 (0 : Int32) S4))))
set_option maxHeartbeats 4000000 in
set_option maxRecDepth 20000 in
theorem ctX8_setPriority {l : Launch} {G : Ga} {x1 : Int32} {x2 : Int32} (hl : l.stackTraces = false) {S : St} {r : Int32} {S1 : St} (h : X8_setPriority x1 x2 S = some (r, S1)) : CT l G 2 yX8_setPriority cX8_setPriority 3 (some .int) [.ref (G.1 75), .int x1, .int x2] S (some (.int r)) S1 := by
  refine ct_of hl (by decide) (Nat.le_of_ble_eq_true rfl) (fun F hFl hFG hF hN hR hret => ?_)
  subst hFl hFG
  show X F 0 0 [(0, .ref (gA F 75)), (1, .int x1), (2, .int x2)] [] S
  have hret : ∀ (v : Int32) (S : St) (pc : Nat) (ls : List (Nat × Value)), (v = r ∧ S = S1) → decode cX8_setPriority pc = .ok (.ireturn, 1) → X F 0 pc ls [.int v] S := fun v S2 pc ls hq hd => by obtain ⟨rfl, rfl⟩ := hq; exact hret.1 pc ls v rfl rfl hd
  have hk : r = r ∧ S1 = S1 := ⟨rfl, rfl⟩
  unfold X8_setPriority at h
  refine x_aload_n hF dX8_setPriority_0 rfl rfl ?_
  refine x_iload_n hF dX8_setPriority_1 rfl rfl ?_
  obtain ⟨r1, S2, hcall, h⟩ := ob_some h
  refine x_cSi hF hN hR (ctX8_isFlow hF.tr hcall) mwX8_isFlow tw_1149 tw_1148 ⟨by decide, by decide⟩ rfl rfl (Nat.le_of_ble_eq_true rfl) dX8_setPriority_2 ?_
  refine x_if_ne (tgt := 12) hF dX8_setPriority_5 (by decide) (fun hc => ?_) (fun hc => ?_)
  · have h := oi_neg hc h
    refine x_iload_n hF dX8_setPriority_12 rfl rfl ?_
    refine x_iconst (v := (0 : Int32)) hF dX8_setPriority_13 (by decide) ?_
    refine x_bipush (v := (9 : Int32)) hF dX8_setPriority_14 (by decide) ?_
    obtain ⟨r3, S4, hcall, h⟩ := ob_some h
    refine x_cSi hF hN hR (ctX8_in hF.tr hcall) mwX8_in tw_1152 tw_1151 ⟨by decide, by decide⟩ rfl rfl (Nat.le_of_ble_eq_true rfl) dX8_setPriority_16 ?_
    refine x_if_eq (tgt := 26) hF dX8_setPriority_19 (by decide) (fun hc => ?_) (fun hc => ?_)
    · have h := oi_pos hc h
      refine x_iconst (v := (2 : Int32)) hF dX8_setPriority_26 (by decide) ?_
      exact x_sub (xX8_setPriority_27 hF hN hR (K := fun v9 S9 => v9 = r ∧ S9 = S1) hret h hk) ⟨rfl, rfl, rfl, trivial⟩
    · have h := oi_neg hc h
      refine x_iconst (v := (0 : Int32)) hF dX8_setPriority_22 (by decide) ?_
      refine x_goto (tgt := 27) hF dX8_setPriority_23 (by decide) ?_
      exact x_sub (xX8_setPriority_27 hF hN hR (K := fun v9 S9 => v9 = r ∧ S9 = S1) hret h hk) ⟨rfl, rfl, rfl, trivial⟩
  · have h := oi_pos hc h
    refine x_iconst (v := (1 : Int32)) hF dX8_setPriority_8 (by decide) ?_
    refine x_goto (tgt := 27) hF dX8_setPriority_9 (by decide) ?_
    exact x_sub (xX8_setPriority_27 hF hN hR (K := fun v9 S9 => v9 = r ∧ S9 = S1) hret h hk) ⟨rfl, rfl, rfl, trivial⟩
noncomputable def X8_isWhole (x1 : Int32) (S : St) : Option (Int32 × St) :=
  og (inb x1 40) (ob (X8_of x1 (2 : Int32) S) (fun r1 S2 => oi ((gi S 82 (ix x1)) = r1) (some ((1 : Int32), S2)) (some ((0 : Int32), S2))))
set_option maxHeartbeats 4000000 in
set_option maxRecDepth 20000 in
theorem ctX8_isWhole {l : Launch} {G : Ga} {x1 : Int32} (hl : l.stackTraces = false) {S : St} {r : Int32} {S1 : St} (h : X8_isWhole x1 S = some (r, S1)) : CT l G 1 yX8_isWhole cX8_isWhole 2 (some .boolean) [.ref (G.1 75), .int x1] S (some (.int r)) S1 := by
  refine ct_of hl (by decide) (Nat.le_of_ble_eq_true rfl) (fun F hFl hFG hF hN hR hret => ?_)
  subst hFl hFG
  show X F 0 0 [(0, .ref (gA F 75)), (1, .int x1)] [] S
  have hret : ∀ (v : Int32) (S : St) (pc : Nat) (ls : List (Nat × Value)), isB v → (v = r ∧ S = S1) → decode cX8_isWhole pc = .ok (.ireturn, 1) → X F 0 pc ls [.int v] S := fun v S2 pc ls hb hq hd => by obtain ⟨rfl, rfl⟩ := hq; exact hret.2.1 pc ls v rfl hb rfl hd
  have hk : r = r ∧ S1 = S1 := ⟨rfl, rfl⟩
  unfold X8_isWhole at h
  refine x_aload_n hF dX8_isWhole_0 rfl rfl ?_
  refine x_getr hF sh75 11 rfl ck7 (by decide) (by decide) tw_1053 rfl dX8_isWhole_1 ?_
  refine x_iload_n hF dX8_isWhole_4 rfl rfl ?_
  obtain ⟨hg, h⟩ := og_some h
  refine x_iald hF sh82 (by decide) hg rfl dX8_isWhole_5 ?_
  refine x_aload_n hF dX8_isWhole_6 rfl rfl ?_
  refine x_iload_n hF dX8_isWhole_7 rfl rfl ?_
  refine x_iconst (v := (2 : Int32)) hF dX8_isWhole_8 (by decide) ?_
  obtain ⟨r1, S2, hcall, h⟩ := ob_some h
  refine x_cVi hF hN hR (ctX8_of hF.tr hcall) mwX8_of miX8_of sh75 ck7 (by decide) tw_1166 ⟨by decide, by decide⟩ rfl rfl (Nat.le_of_ble_eq_true rfl) dX8_isWhole_9 ?_
  refine x_icmp_ne (tgt := 19) hF dX8_isWhole_12 (by decide) (fun hc => ?_) (fun hc => ?_)
  · have h := oi_neg hc h
    refine x_iconst (v := (0 : Int32)) hF dX8_isWhole_19 (by decide) ?_
    obtain ⟨rfl, rfl⟩ := sm h
    exact hret _ _ _ _ (by decide) hk dX8_isWhole_20
  · have h := oi_pos hc h
    refine x_iconst (v := (1 : Int32)) hF dX8_isWhole_15 (by decide) ?_
    refine x_goto (tgt := 20) hF dX8_isWhole_16 (by decide) ?_
    obtain ⟨rfl, rfl⟩ := sm h
    exact hret _ _ _ _ (by decide) hk dX8_isWhole_20
noncomputable def X8_leaves_32 (x2 : Int32) (S : St) : Option (((Int32) ⊕ Unit) × St) :=
  oi ((gi S 75 10) ≤ x2) (some (.inr (), S)) (og (inb (x2 + (1 : Int32)) 41) (og (inb x2 41) (ol (si S 81 (ix x2) (gi S 81 (ix (x2 + (1 : Int32))))) (fun T3 => some (.inl (x2 + (1 : Int32)), T3)))))
set_option maxHeartbeats 4000000 in
set_option maxRecDepth 20000 in
theorem xX8_leaves_32 {F : Cx} (hF : Ok F cX8_leaves RX8) (hN : nLF F 3) (hR : RmF F 0 0) {x2 : Int32} {K : ((Int32) ⊕ Unit) → St → Prop} (hag : ∀ (a : Int32) (S : St), K (.inl a) S → X F 0 32 [(0, .ref (gA F 75)), (2, .int a)] [] S) (hex60 : ∀ (q : Unit) (S : St), K (.inr q) S → X F 0 60 [] [] S) {S : St} {r : (Int32) ⊕ Unit} {S1 : St} (h : X8_leaves_32 x2 S = some (r, S1)) (hk : K r S1) : X F 0 32 [(0, .ref (gA F 75)), (2, .int x2)] [] S := by
  unfold X8_leaves_32 at h
  refine x_iload_n hF dX8_leaves_32 rfl rfl ?_
  refine x_aload_n hF dX8_leaves_33 rfl rfl ?_
  refine x_geti hF sh75 10 rfl ck7 (by decide) (by decide) tw_1052 rfl dX8_leaves_34 ?_
  refine x_icmp_ge (tgt := 60) hF dX8_leaves_37 (by decide) (fun hc => ?_) (fun hc => ?_)
  · have h := oi_pos hc h
    obtain ⟨rfl, rfl⟩ := sm h
    exact x_sub (hex60 _ _ hk) trivial
  · have h := oi_neg hc h
    refine x_aload_n hF dX8_leaves_40 rfl rfl ?_
    refine x_getr hF sh75 9 rfl ck7 (by decide) (by decide) tw_1051 rfl dX8_leaves_41 ?_
    refine x_iload_n hF dX8_leaves_44 rfl rfl ?_
    refine x_aload_n hF dX8_leaves_45 rfl rfl ?_
    refine x_getr hF sh75 9 rfl ck7 (by decide) (by decide) tw_1051 rfl dX8_leaves_46 ?_
    refine x_iload_n hF dX8_leaves_49 rfl rfl ?_
    refine x_iconst (v := (1 : Int32)) hF dX8_leaves_50 (by decide) ?_
    refine x_iadd hF dX8_leaves_51 ?_
    obtain ⟨hg, h⟩ := og_some h
    refine x_iald hF sh81 (by decide) hg rfl dX8_leaves_52 ?_
    obtain ⟨hg, h⟩ := og_some h
    obtain ⟨T3, eT3, h⟩ := ol_some h
    refine x_iast hF sh81 (by decide) hg rfl eT3 dX8_leaves_53 ?_
    refine x_iinc [(2, _), (0, _)] (v := (1 : Int32)) hF hN dX8_leaves_54 rfl (by decide) (by decide) rfl ?_
    refine x_goto (tgt := 32) hF dX8_leaves_57 (by decide) ?_
    obtain ⟨rfl, rfl⟩ := sm h
    exact x_sub (hag _ _ hk) ⟨rfl, rfl, trivial⟩
noncomputable def X8_leaves_32L (a : Int32) (S : St) : Option (Unit × St) :=
  lp (fun (a : Int32) (S : St) => X8_leaves_32 a S) a S
theorem xX8_leaves_32L {F : Cx} (hF : Ok F cX8_leaves RX8) (hN : nLF F 3) (hR : RmF F 0 0) {K : Unit → St → Prop} (hex60 : ∀ (q : Unit) (S : St), K (q) S → X F 0 60 [] [] S) {a : Int32} {S : St} {b : Unit} {S1 : St} (h : X8_leaves_32L  a S = some (b, S1)) (hk : K b S1) : X F 0 32 [(0, .ref (gA F 75)), (2, .int a)] [] S := by
  unfold X8_leaves_32L at h
  exact lp_rule (Xh := fun (a : Int32) (S : St) => X F 0 32 [(0, .ref (gA F 75)), (2, .int a)] [] S) (K := K) (fun a S r S1 h hk => xX8_leaves_32 hF hN hR (K := fun r S => match r with | .inl a => X F 0 32 [(0, .ref (gA F 75)), (2, .int a)] [] S | .inr b => K b S) (fun _ _ h => h) (fun q S h => hex60 q S h) h (by cases r <;> exact hk)) h hk
noncomputable def X8_leaves (x1 : Int32) (S : St) : Option (Unit × St) :=
  og (inb x1 41) (og (inb (gi S 81 (ix x1)) 40) (ol (si S 75 12 ((gi S 75 12) - (gi S 82 (ix (gi S 81 (ix x1)))))) (fun T1 => ol (si T1 75 10 ((gi T1 75 10) - (1 : Int32))) (fun T2 => ob (X8_leaves_32L x1 T2) (fun b4 S5 => some ((), S5))))))
set_option maxHeartbeats 4000000 in
set_option maxRecDepth 20000 in
theorem ctX8_leaves {l : Launch} {G : Ga} {x1 : Int32} (hl : l.stackTraces = false) {S : St} {r : Unit} {S1 : St} (h : X8_leaves x1 S = some (r, S1)) : CT l G 0 yX8_leaves cX8_leaves 3 none [.ref (G.1 75), .int x1] S none S1 := by
  refine ct_of hl (by decide) (Nat.le_of_ble_eq_true rfl) (fun F hFl hFG hF hN hR hret => ?_)
  subst hFl hFG
  show X F 0 0 [(0, .ref (gA F 75)), (1, .int x1)] [] S
  have hret : ∀ (v : Unit) (S : St) (pc : Nat) (ls : List (Nat × Value)), (v = r ∧ S = S1) → decode cX8_leaves pc = .ok (.return_, 1) → X F 0 pc ls [] S := fun v S2 pc ls hq hd => by obtain ⟨rfl, rfl⟩ := hq; exact hret.2.2.2.2.1 pc ls rfl rfl hd
  have hk : r = r ∧ S1 = S1 := ⟨rfl, rfl⟩
  unfold X8_leaves at h
  refine x_aload_n hF dX8_leaves_0 rfl rfl ?_
  refine x_dup hF dX8_leaves_1 rfl ?_
  refine x_geti hF sh75 12 rfl ck7 (by decide) (by decide) tw_1054 rfl dX8_leaves_2 ?_
  refine x_aload_n hF dX8_leaves_5 rfl rfl ?_
  refine x_getr hF sh75 11 rfl ck7 (by decide) (by decide) tw_1053 rfl dX8_leaves_6 ?_
  refine x_aload_n hF dX8_leaves_9 rfl rfl ?_
  refine x_getr hF sh75 9 rfl ck7 (by decide) (by decide) tw_1051 rfl dX8_leaves_10 ?_
  refine x_iload_n hF dX8_leaves_13 rfl rfl ?_
  obtain ⟨hg, h⟩ := og_some h
  refine x_iald hF sh81 (by decide) hg rfl dX8_leaves_14 ?_
  obtain ⟨hg, h⟩ := og_some h
  refine x_iald hF sh82 (by decide) hg rfl dX8_leaves_15 ?_
  refine x_isub hF dX8_leaves_16 ?_
  obtain ⟨T1, eT1, h⟩ := ol_some h
  refine x_puti hF sh75 12 rfl ck7 (by decide) (by decide) tw_1054 rfl rfl rfl rfl rfl eT1 dX8_leaves_17 ?_
  refine x_aload_n hF dX8_leaves_20 rfl rfl ?_
  refine x_dup hF dX8_leaves_21 rfl ?_
  refine x_geti hF sh75 10 rfl ck7 (by decide) (by decide) tw_1052 rfl dX8_leaves_22 ?_
  refine x_iconst (v := (1 : Int32)) hF dX8_leaves_25 (by decide) ?_
  refine x_isub hF dX8_leaves_26 ?_
  obtain ⟨T2, eT2, h⟩ := ol_some h
  refine x_puti hF sh75 10 rfl ck7 (by decide) (by decide) tw_1052 rfl rfl rfl rfl rfl eT2 dX8_leaves_27 ?_
  refine x_iload_n hF dX8_leaves_30 rfl rfl ?_
  refine x_istore_n [(2, _), (0, _), (1, _)] hF hN dX8_leaves_31 rfl (by decide) rfl ?_
  obtain ⟨b4, S5, hlb4, h⟩ := ob_some h
  refine x_sub (xX8_leaves_32L hF hN hR (K := fun bb SS => bb = b4 ∧ SS = S5) ?_ hlb4 ⟨rfl, rfl⟩) ⟨rfl, rfl, trivial⟩
  rintro _ _ ⟨_, rfl⟩
  obtain ⟨rfl, rfl⟩ := sm h
  exact hret _ _ _ _ hk dX8_leaves_60
noncomputable def X8_drops (x1 : Int32) (S : St) : Option (Unit × St) :=
  og (inb x1 40) (ol (si S 78 (ix x1) (-2 : Int32)) (fun T1 => og (inb (gi T1 75 6) 40) (ol (si T1 79 (ix (gi T1 75 6)) x1) (fun T2 => ol (si T2 75 6 ((gi T2 75 6) + (1 : Int32))) (fun T3 => some ((), T3))))))
set_option maxHeartbeats 4000000 in
set_option maxRecDepth 20000 in
theorem ctX8_drops {l : Launch} {G : Ga} {x1 : Int32} (hl : l.stackTraces = false) {S : St} {r : Unit} {S1 : St} (h : X8_drops x1 S = some (r, S1)) : CT l G 0 yX8_drops cX8_drops 2 none [.ref (G.1 75), .int x1] S none S1 := by
  refine ct_of hl (by decide) (Nat.le_of_ble_eq_true rfl) (fun F hFl hFG hF hN hR hret => ?_)
  subst hFl hFG
  show X F 0 0 [(0, .ref (gA F 75)), (1, .int x1)] [] S
  have hret : ∀ (v : Unit) (S : St) (pc : Nat) (ls : List (Nat × Value)), (v = r ∧ S = S1) → decode cX8_drops pc = .ok (.return_, 1) → X F 0 pc ls [] S := fun v S2 pc ls hq hd => by obtain ⟨rfl, rfl⟩ := hq; exact hret.2.2.2.2.1 pc ls rfl rfl hd
  have hk : r = r ∧ S1 = S1 := ⟨rfl, rfl⟩
  unfold X8_drops at h
  refine x_aload_n hF dX8_drops_0 rfl rfl ?_
  refine x_getr hF sh75 4 rfl ck7 (by decide) (by decide) tw_1046 rfl dX8_drops_1 ?_
  refine x_iload_n hF dX8_drops_4 rfl rfl ?_
  refine x_bipush (v := (-2 : Int32)) hF dX8_drops_5 (by decide) ?_
  obtain ⟨hg, h⟩ := og_some h
  obtain ⟨T1, eT1, h⟩ := ol_some h
  refine x_iast hF sh78 (by decide) hg rfl eT1 dX8_drops_7 ?_
  refine x_aload_n hF dX8_drops_8 rfl rfl ?_
  refine x_getr hF sh75 5 rfl ck7 (by decide) (by decide) tw_1047 rfl dX8_drops_9 ?_
  refine x_aload_n hF dX8_drops_12 rfl rfl ?_
  refine x_geti hF sh75 6 rfl ck7 (by decide) (by decide) tw_1048 rfl dX8_drops_13 ?_
  refine x_iload_n hF dX8_drops_16 rfl rfl ?_
  obtain ⟨hg, h⟩ := og_some h
  obtain ⟨T2, eT2, h⟩ := ol_some h
  refine x_iast hF sh79 (by decide) hg rfl eT2 dX8_drops_17 ?_
  refine x_aload_n hF dX8_drops_18 rfl rfl ?_
  refine x_dup hF dX8_drops_19 rfl ?_
  refine x_geti hF sh75 6 rfl ck7 (by decide) (by decide) tw_1048 rfl dX8_drops_20 ?_
  refine x_iconst (v := (1 : Int32)) hF dX8_drops_23 (by decide) ?_
  refine x_iadd hF dX8_drops_24 ?_
  obtain ⟨T3, eT3, h⟩ := ol_some h
  refine x_puti hF sh75 6 rfl ck7 (by decide) (by decide) tw_1048 rfl rfl rfl rfl rfl eT3 dX8_drops_25 ?_
  obtain ⟨rfl, rfl⟩ := sm h
  exact hret _ _ _ _ hk dX8_drops_28
noncomputable def X8_dropsAt (x1 : Int32) (S : St) : Option (Unit × St) :=
  og (inb x1 41) (ob (X8_leaves x1 S) (fun r1 S2 => ob (X8_drops (gi S 81 (ix x1)) S2) (fun r3 S4 => some ((), S4))))
set_option maxHeartbeats 4000000 in
set_option maxRecDepth 20000 in
theorem ctX8_dropsAt {l : Launch} {G : Ga} {x1 : Int32} (hl : l.stackTraces = false) {S : St} {r : Unit} {S1 : St} (h : X8_dropsAt x1 S = some (r, S1)) : CT l G 1 yX8_dropsAt cX8_dropsAt 3 none [.ref (G.1 75), .int x1] S none S1 := by
  refine ct_of hl (by decide) (Nat.le_of_ble_eq_true rfl) (fun F hFl hFG hF hN hR hret => ?_)
  subst hFl hFG
  show X F 0 0 [(0, .ref (gA F 75)), (1, .int x1)] [] S
  have hret : ∀ (v : Unit) (S : St) (pc : Nat) (ls : List (Nat × Value)), (v = r ∧ S = S1) → decode cX8_dropsAt pc = .ok (.return_, 1) → X F 0 pc ls [] S := fun v S2 pc ls hq hd => by obtain ⟨rfl, rfl⟩ := hq; exact hret.2.2.2.2.1 pc ls rfl rfl hd
  have hk : r = r ∧ S1 = S1 := ⟨rfl, rfl⟩
  unfold X8_dropsAt at h
  refine x_aload_n hF dX8_dropsAt_0 rfl rfl ?_
  refine x_getr hF sh75 9 rfl ck7 (by decide) (by decide) tw_1051 rfl dX8_dropsAt_1 ?_
  refine x_iload_n hF dX8_dropsAt_4 rfl rfl ?_
  obtain ⟨hg, h⟩ := og_some h
  refine x_iald hF sh81 (by decide) hg rfl dX8_dropsAt_5 ?_
  refine x_istore_n [(2, _), (0, _), (1, _)] hF hN dX8_dropsAt_6 rfl (by decide) rfl ?_
  refine x_aload_n hF dX8_dropsAt_7 rfl rfl ?_
  refine x_iload_n hF dX8_dropsAt_8 rfl rfl ?_
  obtain ⟨r1, S2, hcall, h⟩ := ob_some h
  refine x_cVv hF hN hR (ctX8_leaves hF.tr hcall) mwX8_leaves miX8_leaves sh75 ck7 (by decide) tw_1279 ⟨by decide, by decide⟩ rfl rfl (Nat.le_of_ble_eq_true rfl) dX8_dropsAt_9 ?_
  refine x_aload_n hF dX8_dropsAt_12 rfl rfl ?_
  refine x_iload_n hF dX8_dropsAt_13 rfl rfl ?_
  obtain ⟨r3, S4, hcall, h⟩ := ob_some h
  refine x_cVv hF hN hR (ctX8_drops hF.tr hcall) mwX8_drops miX8_drops sh75 ck7 (by decide) tw_1283 ⟨by decide, by decide⟩ rfl rfl (Nat.le_of_ble_eq_true rfl) dX8_dropsAt_14 ?_
  obtain ⟨rfl, rfl⟩ := sm h
  exact hret _ _ _ _ hk dX8_dropsAt_17
noncomputable def X8_firstWhole_2 (x1 : Int32) (S : St) : Option (((Int32) ⊕ (Int32 ⊕ Unit)) × St) :=
  oi ((gi S 75 10) ≤ x1) (some (.inr (.inr ()), S)) (og (inb x1 41) (ob (X8_isWhole (gi S 81 (ix x1)) S) (fun r1 S2 => oi (r1 = 0) (some (.inl (x1 + (1 : Int32)), S2)) (some (.inr (.inl x1), S2)))))
set_option maxHeartbeats 4000000 in
set_option maxRecDepth 20000 in
theorem xX8_firstWhole_2 {F : Cx} (hF : Ok F cX8_firstWhole RX8) (hN : nLF F 2) (hR : RmF F 2 0) {x1 : Int32} {K : ((Int32) ⊕ (Int32 ⊕ Unit)) → St → Prop} (hag : ∀ (a : Int32) (S : St), K (.inl a) S → X F 0 2 [(0, .ref (gA F 75)), (1, .int a)] [] S) (hex23 : ∀ (q : Int32) (S : St), K (.inr (.inl q)) S → X F 0 23 [(1, .int q)] [] S) (hex31 : ∀ (q : Unit) (S : St), K (.inr (.inr q)) S → X F 0 31 [] [] S) {S : St} {r : (Int32) ⊕ (Int32 ⊕ Unit)} {S1 : St} (h : X8_firstWhole_2 x1 S = some (r, S1)) (hk : K r S1) : X F 0 2 [(0, .ref (gA F 75)), (1, .int x1)] [] S := by
  unfold X8_firstWhole_2 at h
  refine x_iload_n hF dX8_firstWhole_2 rfl rfl ?_
  refine x_aload_n hF dX8_firstWhole_3 rfl rfl ?_
  refine x_geti hF sh75 10 rfl ck7 (by decide) (by decide) tw_1052 rfl dX8_firstWhole_4 ?_
  refine x_icmp_ge (tgt := 31) hF dX8_firstWhole_7 (by decide) (fun hc => ?_) (fun hc => ?_)
  · have h := oi_pos hc h
    obtain ⟨rfl, rfl⟩ := sm h
    exact x_sub (hex31 _ _ hk) trivial
  · have h := oi_neg hc h
    refine x_aload_n hF dX8_firstWhole_10 rfl rfl ?_
    refine x_aload_n hF dX8_firstWhole_11 rfl rfl ?_
    refine x_getr hF sh75 9 rfl ck7 (by decide) (by decide) tw_1051 rfl dX8_firstWhole_12 ?_
    refine x_iload_n hF dX8_firstWhole_15 rfl rfl ?_
    obtain ⟨hg, h⟩ := og_some h
    refine x_iald hF sh81 (by decide) hg rfl dX8_firstWhole_16 ?_
    obtain ⟨r1, S2, hcall, h⟩ := ob_some h
    refine x_cVi hF hN hR (ctX8_isWhole hF.tr hcall) mwX8_isWhole miX8_isWhole sh75 ck7 (by decide) tw_1263 ⟨by decide, by decide⟩ rfl rfl (Nat.le_of_ble_eq_true rfl) dX8_firstWhole_17 ?_
    refine x_if_eq (tgt := 25) hF dX8_firstWhole_20 (by decide) (fun hc => ?_) (fun hc => ?_)
    · have h := oi_pos hc h
      refine x_iinc [(1, _), (0, _)] (v := (1 : Int32)) hF hN dX8_firstWhole_25 rfl (by decide) (by decide) rfl ?_
      refine x_goto (tgt := 2) hF dX8_firstWhole_28 (by decide) ?_
      obtain ⟨rfl, rfl⟩ := sm h
      exact x_sub (hag _ _ hk) ⟨rfl, rfl, trivial⟩
    · have h := oi_neg hc h
      obtain ⟨rfl, rfl⟩ := sm h
      exact x_sub (hex23 _ _ hk) ⟨rfl, trivial⟩
noncomputable def X8_firstWhole_2L (a : Int32) (S : St) : Option ((Int32 ⊕ Unit) × St) :=
  lp (fun (a : Int32) (S : St) => X8_firstWhole_2 a S) a S
theorem xX8_firstWhole_2L {F : Cx} (hF : Ok F cX8_firstWhole RX8) (hN : nLF F 2) (hR : RmF F 2 0) {K : (Int32 ⊕ Unit) → St → Prop} (hex23 : ∀ (q : Int32) (S : St), K ((.inl q)) S → X F 0 23 [(1, .int q)] [] S) (hex31 : ∀ (q : Unit) (S : St), K ((.inr q)) S → X F 0 31 [] [] S) {a : Int32} {S : St} {b : Int32 ⊕ Unit} {S1 : St} (h : X8_firstWhole_2L  a S = some (b, S1)) (hk : K b S1) : X F 0 2 [(0, .ref (gA F 75)), (1, .int a)] [] S := by
  unfold X8_firstWhole_2L at h
  exact lp_rule (Xh := fun (a : Int32) (S : St) => X F 0 2 [(0, .ref (gA F 75)), (1, .int a)] [] S) (K := K) (fun a S r S1 h hk => xX8_firstWhole_2 hF hN hR (K := fun r S => match r with | .inl a => X F 0 2 [(0, .ref (gA F 75)), (1, .int a)] [] S | .inr b => K b S) (fun _ _ h => h) (fun q S h => hex23 q S h) (fun q S h => hex31 q S h) h (by cases r <;> exact hk)) h hk
noncomputable def X8_firstWhole (S : St) : Option (Int32 × St) :=
  ob (X8_firstWhole_2L (0 : Int32) S) (fun b3 S4 => match b3 with | .inl q5 => some (q5, S4) | .inr q6 => some ((-1 : Int32), S4))
set_option maxHeartbeats 4000000 in
set_option maxRecDepth 20000 in
theorem ctX8_firstWhole {l : Launch} {G : Ga} (hl : l.stackTraces = false) {S : St} {r : Int32} {S1 : St} (h : X8_firstWhole  S = some (r, S1)) : CT l G 2 yX8_firstWhole cX8_firstWhole 2 (some .int) [.ref (G.1 75)] S (some (.int r)) S1 := by
  refine ct_of hl (by decide) (Nat.le_of_ble_eq_true rfl) (fun F hFl hFG hF hN hR hret => ?_)
  subst hFl hFG
  show X F 0 0 [(0, .ref (gA F 75))] [] S
  have hret : ∀ (v : Int32) (S : St) (pc : Nat) (ls : List (Nat × Value)), (v = r ∧ S = S1) → decode cX8_firstWhole pc = .ok (.ireturn, 1) → X F 0 pc ls [.int v] S := fun v S2 pc ls hq hd => by obtain ⟨rfl, rfl⟩ := hq; exact hret.1 pc ls v rfl rfl hd
  have hk : r = r ∧ S1 = S1 := ⟨rfl, rfl⟩
  unfold X8_firstWhole at h
  refine x_iconst (v := (0 : Int32)) hF dX8_firstWhole_0 (by decide) ?_
  refine x_istore_n [(1, _), (0, _)] hF hN dX8_firstWhole_1 rfl (by decide) rfl ?_
  obtain ⟨b3, S4, hlb3, h⟩ := ob_some h
  refine x_sub (xX8_firstWhole_2L hF hN hR (K := fun bb SS => bb = b3 ∧ SS = S4) ?_ ?_ hlb3 ⟨rfl, rfl⟩) ⟨rfl, rfl, trivial⟩
  · rintro _ _ ⟨rfl, rfl⟩
    dsimp only at h
    refine x_iload_n hF dX8_firstWhole_23 rfl rfl ?_
    obtain ⟨rfl, rfl⟩ := sm h
    exact hret _ _ _ _ hk dX8_firstWhole_24
  · rintro _ _ ⟨rfl, rfl⟩
    dsimp only at h
    refine x_iconst (v := (-1 : Int32)) hF dX8_firstWhole_31 (by decide) ?_
    obtain ⟨rfl, rfl⟩ := sm h
    exact hret _ _ _ _ hk dX8_firstWhole_32
noncomputable def X8_lastWhole_4 (x1 : Int32) (x2 : Int32) (x3 : Int32) (S : St) : Option (((Int32 × Int32) ⊕ Int32) × St) :=
  oi ((gi S 75 10) ≤ x3) (some (.inr x2, S)) (og (inb x3 41) (ob (X8_isWhole (gi S 81 (ix x3)) S) (fun r1 S2 => oi (r1 = 0) (some (.inl (x2, (x3 + (1 : Int32))), S2)) (og (inb x3 41) (ob (X8_of (gi S2 81 (ix x3)) (1 : Int32) S2) (fun r3 S4 => oi (r3 = x1) (some (.inl (x3, (x3 + (1 : Int32))), S4)) (some (.inl (x2, (x3 + (1 : Int32))), S4))))))))
set_option maxHeartbeats 4000000 in
set_option maxRecDepth 20000 in
theorem xX8_lastWhole_4 {F : Cx} (hF : Ok F cX8_lastWhole RX8) (hN : nLF F 4) (hR : RmF F 2 0) {x1 : Int32} {x2 : Int32} {x3 : Int32} {K : ((Int32 × Int32) ⊕ Int32) → St → Prop} (hag : ∀ (a : Int32 × Int32) (S : St), K (.inl a) S → X F 0 4 [(0, .ref (gA F 75)), (1, .int x1), (2, .int a.1), (3, .int a.2)] [] S) (hex52 : ∀ (q : Int32) (S : St), K (.inr q) S → X F 0 52 [(2, .int q)] [] S) {S : St} {r : (Int32 × Int32) ⊕ Int32} {S1 : St} (h : X8_lastWhole_4 x1 x2 x3 S = some (r, S1)) (hk : K r S1) : X F 0 4 [(0, .ref (gA F 75)), (1, .int x1), (2, .int x2), (3, .int x3)] [] S := by
  unfold X8_lastWhole_4 at h
  refine x_iload_n hF dX8_lastWhole_4 rfl rfl ?_
  refine x_aload_n hF dX8_lastWhole_5 rfl rfl ?_
  refine x_geti hF sh75 10 rfl ck7 (by decide) (by decide) tw_1052 rfl dX8_lastWhole_6 ?_
  refine x_icmp_ge (tgt := 52) hF dX8_lastWhole_9 (by decide) (fun hc => ?_) (fun hc => ?_)
  · have h := oi_pos hc h
    obtain ⟨rfl, rfl⟩ := sm h
    exact x_sub (hex52 _ _ hk) ⟨rfl, trivial⟩
  · have h := oi_neg hc h
    refine x_aload_n hF dX8_lastWhole_12 rfl rfl ?_
    refine x_aload_n hF dX8_lastWhole_13 rfl rfl ?_
    refine x_getr hF sh75 9 rfl ck7 (by decide) (by decide) tw_1051 rfl dX8_lastWhole_14 ?_
    refine x_iload_n hF dX8_lastWhole_17 rfl rfl ?_
    obtain ⟨hg, h⟩ := og_some h
    refine x_iald hF sh81 (by decide) hg rfl dX8_lastWhole_18 ?_
    obtain ⟨r1, S2, hcall, h⟩ := ob_some h
    refine x_cVi hF hN hR (ctX8_isWhole hF.tr hcall) mwX8_isWhole miX8_isWhole sh75 ck7 (by decide) tw_1263 ⟨by decide, by decide⟩ rfl rfl (Nat.le_of_ble_eq_true rfl) dX8_lastWhole_19 ?_
    refine x_if_eq (tgt := 44) hF dX8_lastWhole_22 (by decide) (fun hc => ?_) (fun hc => ?_)
    · have h := oi_pos hc h
      refine x_iload_n hF dX8_lastWhole_44 rfl rfl ?_
      refine x_istore_n [(2, _), (0, _), (1, _), (3, _)] hF hN dX8_lastWhole_45 rfl (by decide) rfl ?_
      refine x_iinc [(3, _), (2, _), (0, _), (1, _)] (v := (1 : Int32)) hF hN dX8_lastWhole_46 rfl (by decide) (by decide) rfl ?_
      refine x_goto (tgt := 4) hF dX8_lastWhole_49 (by decide) ?_
      obtain ⟨rfl, rfl⟩ := sm h
      exact x_sub (hag _ _ hk) ⟨rfl, rfl, rfl, rfl, trivial⟩
    · have h := oi_neg hc h
      refine x_aload_n hF dX8_lastWhole_25 rfl rfl ?_
      refine x_aload_n hF dX8_lastWhole_26 rfl rfl ?_
      refine x_getr hF sh75 9 rfl ck7 (by decide) (by decide) tw_1051 rfl dX8_lastWhole_27 ?_
      refine x_iload_n hF dX8_lastWhole_30 rfl rfl ?_
      obtain ⟨hg, h⟩ := og_some h
      refine x_iald hF sh81 (by decide) hg rfl dX8_lastWhole_31 ?_
      refine x_iconst (v := (1 : Int32)) hF dX8_lastWhole_32 (by decide) ?_
      obtain ⟨r3, S4, hcall, h⟩ := ob_some h
      refine x_cVi hF hN hR (ctX8_of hF.tr hcall) mwX8_of miX8_of sh75 ck7 (by decide) tw_1166 ⟨by decide, by decide⟩ rfl rfl (Nat.le_of_ble_eq_true rfl) dX8_lastWhole_33 ?_
      refine x_iload_n hF dX8_lastWhole_36 rfl rfl ?_
      refine x_icmp_ne (tgt := 44) hF dX8_lastWhole_37 (by decide) (fun hc => ?_) (fun hc => ?_)
      · have h := oi_neg hc h
        refine x_iload_n hF dX8_lastWhole_44 rfl rfl ?_
        refine x_istore_n [(2, _), (0, _), (1, _), (3, _)] hF hN dX8_lastWhole_45 rfl (by decide) rfl ?_
        refine x_iinc [(3, _), (2, _), (0, _), (1, _)] (v := (1 : Int32)) hF hN dX8_lastWhole_46 rfl (by decide) (by decide) rfl ?_
        refine x_goto (tgt := 4) hF dX8_lastWhole_49 (by decide) ?_
        obtain ⟨rfl, rfl⟩ := sm h
        exact x_sub (hag _ _ hk) ⟨rfl, rfl, rfl, rfl, trivial⟩
      · have h := oi_pos hc h
        refine x_iload_n hF dX8_lastWhole_40 rfl rfl ?_
        refine x_goto (tgt := 45) hF dX8_lastWhole_41 (by decide) ?_
        refine x_istore_n [(2, _), (0, _), (1, _), (3, _)] hF hN dX8_lastWhole_45 rfl (by decide) rfl ?_
        refine x_iinc [(3, _), (2, _), (0, _), (1, _)] (v := (1 : Int32)) hF hN dX8_lastWhole_46 rfl (by decide) (by decide) rfl ?_
        refine x_goto (tgt := 4) hF dX8_lastWhole_49 (by decide) ?_
        obtain ⟨rfl, rfl⟩ := sm h
        exact x_sub (hag _ _ hk) ⟨rfl, rfl, rfl, rfl, trivial⟩
noncomputable def X8_lastWhole_4L (x1 : Int32) (a : Int32 × Int32) (S : St) : Option (Int32 × St) :=
  lp (fun (a : Int32 × Int32) (S : St) => X8_lastWhole_4 x1 a.1 a.2 S) a S
theorem xX8_lastWhole_4L {F : Cx} (hF : Ok F cX8_lastWhole RX8) (hN : nLF F 4) (hR : RmF F 2 0) {x1 : Int32} {K : Int32 → St → Prop} (hex52 : ∀ (q : Int32) (S : St), K (q) S → X F 0 52 [(2, .int q)] [] S) {a : Int32 × Int32} {S : St} {b : Int32} {S1 : St} (h : X8_lastWhole_4L x1 a S = some (b, S1)) (hk : K b S1) : X F 0 4 [(0, .ref (gA F 75)), (1, .int x1), (2, .int a.1), (3, .int a.2)] [] S := by
  unfold X8_lastWhole_4L at h
  exact lp_rule (Xh := fun (a : Int32 × Int32) (S : St) => X F 0 4 [(0, .ref (gA F 75)), (1, .int x1), (2, .int a.1), (3, .int a.2)] [] S) (K := K) (fun a S r S1 h hk => xX8_lastWhole_4 hF hN hR (K := fun r S => match r with | .inl a => X F 0 4 [(0, .ref (gA F 75)), (1, .int x1), (2, .int a.1), (3, .int a.2)] [] S | .inr b => K b S) (fun _ _ h => h) (fun q S h => hex52 q S h) h (by cases r <;> exact hk)) h hk
noncomputable def X8_lastWhole (x1 : Int32) (S : St) : Option (Int32 × St) :=
  ob (X8_lastWhole_4L x1 ((-1 : Int32), (0 : Int32)) S) (fun b5 S6 => some (b5, S6))
set_option maxHeartbeats 4000000 in
set_option maxRecDepth 20000 in
theorem ctX8_lastWhole {l : Launch} {G : Ga} {x1 : Int32} (hl : l.stackTraces = false) {S : St} {r : Int32} {S1 : St} (h : X8_lastWhole x1 S = some (r, S1)) : CT l G 2 yX8_lastWhole cX8_lastWhole 4 (some .int) [.ref (G.1 75), .int x1] S (some (.int r)) S1 := by
  refine ct_of hl (by decide) (Nat.le_of_ble_eq_true rfl) (fun F hFl hFG hF hN hR hret => ?_)
  subst hFl hFG
  show X F 0 0 [(0, .ref (gA F 75)), (1, .int x1)] [] S
  have hret : ∀ (v : Int32) (S : St) (pc : Nat) (ls : List (Nat × Value)), (v = r ∧ S = S1) → decode cX8_lastWhole pc = .ok (.ireturn, 1) → X F 0 pc ls [.int v] S := fun v S2 pc ls hq hd => by obtain ⟨rfl, rfl⟩ := hq; exact hret.1 pc ls v rfl rfl hd
  have hk : r = r ∧ S1 = S1 := ⟨rfl, rfl⟩
  unfold X8_lastWhole at h
  refine x_iconst (v := (-1 : Int32)) hF dX8_lastWhole_0 (by decide) ?_
  refine x_istore_n [(2, _), (0, _), (1, _)] hF hN dX8_lastWhole_1 rfl (by decide) rfl ?_
  refine x_iconst (v := (0 : Int32)) hF dX8_lastWhole_2 (by decide) ?_
  refine x_istore_n [(3, _), (2, _), (0, _), (1, _)] hF hN dX8_lastWhole_3 rfl (by decide) rfl ?_
  obtain ⟨b5, S6, hlb5, h⟩ := ob_some h
  refine x_sub (xX8_lastWhole_4L hF hN hR (K := fun bb SS => bb = b5 ∧ SS = S6) ?_ hlb5 ⟨rfl, rfl⟩) ⟨rfl, rfl, rfl, rfl, trivial⟩
  rintro _ _ ⟨rfl, rfl⟩
  refine x_iload_n hF dX8_lastWhole_52 rfl rfl ?_
  obtain ⟨rfl, rfl⟩ := sm h
  exact hret _ _ _ _ hk dX8_lastWhole_53
noncomputable def X8_longest_40 (x1 : Int32) (x2 : Int32) (x3 : Int32) (x4 : Int32) (x5 : Int32) (x6 : Int32) (S : St) : Option (((Int32 × Int32) ⊕ Int32) × St) :=
  oi ((gi S 75 10) ≤ x6) (some (.inr x5, S)) (og (inb x6 41) (ob (X8_isWhole (gi S 81 (ix x6)) S) (fun r3 S4 => oi (r3 = 0) (some (.inl ((x5 + (0 : Int32)), (x6 + (1 : Int32))), S4)) (og (inb x6 41) (ob (X8_of (gi S4 81 (ix x6)) (1 : Int32) S4) (fun r5 S6 => oi (r5 = x4) (og (inb x6 41) (ob (X8_of (gi S6 81 (ix x6)) (2 : Int32) S6) (fun r7 S8 => some (.inl ((x5 + r7), (x6 + (1 : Int32))), S8)))) (some (.inl ((x5 + (0 : Int32)), (x6 + (1 : Int32))), S6))))))))
set_option maxHeartbeats 4000000 in
set_option maxRecDepth 20000 in
theorem xX8_longest_40 {F : Cx} (hF : Ok F cX8_longest RX8) (hN : nLF F 7) (hR : RmF F 2 0) {x1 : Int32} {x2 : Int32} {x3 : Int32} {x4 : Int32} {x5 : Int32} {x6 : Int32} {K : ((Int32 × Int32) ⊕ Int32) → St → Prop} (hag : ∀ (a : Int32 × Int32) (S : St), K (.inl a) S → X F 0 40 [(0, .ref (gA F 75)), (1, .int x1), (2, .int x2), (3, .int x3), (4, .int x4), (5, .int a.1), (6, .int a.2)] [] S) (hex107 : ∀ (q : Int32) (S : St), K (.inr q) S → X F 0 107 [(0, .ref (gA F 75)), (1, .int x1), (2, .int x2), (3, .int x3), (4, .int x4), (5, .int q)] [] S) {S : St} {r : (Int32 × Int32) ⊕ Int32} {S1 : St} (h : X8_longest_40 x1 x2 x3 x4 x5 x6 S = some (r, S1)) (hk : K r S1) : X F 0 40 [(0, .ref (gA F 75)), (1, .int x1), (2, .int x2), (3, .int x3), (4, .int x4), (5, .int x5), (6, .int x6)] [] S := by
  unfold X8_longest_40 at h
  refine x_iload hF dX8_longest_40 rfl ?_
  refine x_aload_n hF dX8_longest_42 rfl rfl ?_
  refine x_geti hF sh75 10 rfl ck7 (by decide) (by decide) tw_1052 rfl dX8_longest_43 ?_
  refine x_icmp_ge (tgt := 107) hF dX8_longest_46 (by decide) (fun hc => ?_) (fun hc => ?_)
  · have h := oi_pos hc h
    obtain ⟨rfl, rfl⟩ := sm h
    exact x_sub (hex107 _ _ hk) ⟨rfl, rfl, rfl, rfl, rfl, rfl, trivial⟩
  · have h := oi_neg hc h
    refine x_iload hF dX8_longest_49 rfl ?_
    refine x_aload_n hF dX8_longest_51 rfl rfl ?_
    refine x_aload_n hF dX8_longest_52 rfl rfl ?_
    refine x_getr hF sh75 9 rfl ck7 (by decide) (by decide) tw_1051 rfl dX8_longest_53 ?_
    refine x_iload hF dX8_longest_56 rfl ?_
    obtain ⟨hg, h⟩ := og_some h
    refine x_iald hF sh81 (by decide) hg rfl dX8_longest_58 ?_
    obtain ⟨r3, S4, hcall, h⟩ := ob_some h
    refine x_cVi hF hN hR (ctX8_isWhole hF.tr hcall) mwX8_isWhole miX8_isWhole sh75 ck7 (by decide) tw_1263 ⟨by decide, by decide⟩ rfl rfl (Nat.le_of_ble_eq_true rfl) dX8_longest_59 ?_
    refine x_if_eq (tgt := 97) hF dX8_longest_62 (by decide) (fun hc => ?_) (fun hc => ?_)
    · have h := oi_pos hc h
      refine x_iconst (v := (0 : Int32)) hF dX8_longest_97 (by decide) ?_
      refine x_iadd hF dX8_longest_98 ?_
      refine x_istore [(5, _), (0, _), (1, _), (2, _), (3, _), (4, _), (6, _)] hF hN dX8_longest_99 (by decide) rfl ?_
      refine x_iinc [(6, _), (5, _), (0, _), (1, _), (2, _), (3, _), (4, _)] (v := (1 : Int32)) hF hN dX8_longest_101 rfl (by decide) (by decide) rfl ?_
      refine x_goto (tgt := 40) hF dX8_longest_104 (by decide) ?_
      obtain ⟨rfl, rfl⟩ := sm h
      exact x_sub (hag _ _ hk) ⟨rfl, rfl, rfl, rfl, rfl, rfl, rfl, trivial⟩
    · have h := oi_neg hc h
      refine x_aload_n hF dX8_longest_65 rfl rfl ?_
      refine x_aload_n hF dX8_longest_66 rfl rfl ?_
      refine x_getr hF sh75 9 rfl ck7 (by decide) (by decide) tw_1051 rfl dX8_longest_67 ?_
      refine x_iload hF dX8_longest_70 rfl ?_
      obtain ⟨hg, h⟩ := og_some h
      refine x_iald hF sh81 (by decide) hg rfl dX8_longest_72 ?_
      refine x_iconst (v := (1 : Int32)) hF dX8_longest_73 (by decide) ?_
      obtain ⟨r5, S6, hcall, h⟩ := ob_some h
      refine x_cVi hF hN hR (ctX8_of hF.tr hcall) mwX8_of miX8_of sh75 ck7 (by decide) tw_1166 ⟨by decide, by decide⟩ rfl rfl (Nat.le_of_ble_eq_true rfl) dX8_longest_74 ?_
      refine x_iload hF dX8_longest_77 rfl ?_
      refine x_icmp_ne (tgt := 97) hF dX8_longest_79 (by decide) (fun hc => ?_) (fun hc => ?_)
      · have h := oi_neg hc h
        refine x_iconst (v := (0 : Int32)) hF dX8_longest_97 (by decide) ?_
        refine x_iadd hF dX8_longest_98 ?_
        refine x_istore [(5, _), (0, _), (1, _), (2, _), (3, _), (4, _), (6, _)] hF hN dX8_longest_99 (by decide) rfl ?_
        refine x_iinc [(6, _), (5, _), (0, _), (1, _), (2, _), (3, _), (4, _)] (v := (1 : Int32)) hF hN dX8_longest_101 rfl (by decide) (by decide) rfl ?_
        refine x_goto (tgt := 40) hF dX8_longest_104 (by decide) ?_
        obtain ⟨rfl, rfl⟩ := sm h
        exact x_sub (hag _ _ hk) ⟨rfl, rfl, rfl, rfl, rfl, rfl, rfl, trivial⟩
      · have h := oi_pos hc h
        refine x_aload_n hF dX8_longest_82 rfl rfl ?_
        refine x_aload_n hF dX8_longest_83 rfl rfl ?_
        refine x_getr hF sh75 9 rfl ck7 (by decide) (by decide) tw_1051 rfl dX8_longest_84 ?_
        refine x_iload hF dX8_longest_87 rfl ?_
        obtain ⟨hg, h⟩ := og_some h
        refine x_iald hF sh81 (by decide) hg rfl dX8_longest_89 ?_
        refine x_iconst (v := (2 : Int32)) hF dX8_longest_90 (by decide) ?_
        obtain ⟨r7, S8, hcall, h⟩ := ob_some h
        refine x_cVi hF hN hR (ctX8_of hF.tr hcall) mwX8_of miX8_of sh75 ck7 (by decide) tw_1166 ⟨by decide, by decide⟩ rfl rfl (Nat.le_of_ble_eq_true rfl) dX8_longest_91 ?_
        refine x_goto (tgt := 98) hF dX8_longest_94 (by decide) ?_
        refine x_iadd hF dX8_longest_98 ?_
        refine x_istore [(5, _), (0, _), (1, _), (2, _), (3, _), (4, _), (6, _)] hF hN dX8_longest_99 (by decide) rfl ?_
        refine x_iinc [(6, _), (5, _), (0, _), (1, _), (2, _), (3, _), (4, _)] (v := (1 : Int32)) hF hN dX8_longest_101 rfl (by decide) (by decide) rfl ?_
        refine x_goto (tgt := 40) hF dX8_longest_104 (by decide) ?_
        obtain ⟨rfl, rfl⟩ := sm h
        exact x_sub (hag _ _ hk) ⟨rfl, rfl, rfl, rfl, rfl, rfl, rfl, trivial⟩
noncomputable def X8_longest_40L (x1 : Int32) (x2 : Int32) (x3 : Int32) (x4 : Int32) (a : Int32 × Int32) (S : St) : Option (Int32 × St) :=
  lp (fun (a : Int32 × Int32) (S : St) => X8_longest_40 x1 x2 x3 x4 a.1 a.2 S) a S
theorem xX8_longest_40L {F : Cx} (hF : Ok F cX8_longest RX8) (hN : nLF F 7) (hR : RmF F 2 0) {x1 : Int32} {x2 : Int32} {x3 : Int32} {x4 : Int32} {K : Int32 → St → Prop} (hex107 : ∀ (q : Int32) (S : St), K (q) S → X F 0 107 [(0, .ref (gA F 75)), (1, .int x1), (2, .int x2), (3, .int x3), (4, .int x4), (5, .int q)] [] S) {a : Int32 × Int32} {S : St} {b : Int32} {S1 : St} (h : X8_longest_40L x1 x2 x3 x4 a S = some (b, S1)) (hk : K b S1) : X F 0 40 [(0, .ref (gA F 75)), (1, .int x1), (2, .int x2), (3, .int x3), (4, .int x4), (5, .int a.1), (6, .int a.2)] [] S := by
  unfold X8_longest_40L at h
  exact lp_rule (Xh := fun (a : Int32 × Int32) (S : St) => X F 0 40 [(0, .ref (gA F 75)), (1, .int x1), (2, .int x2), (3, .int x3), (4, .int x4), (5, .int a.1), (6, .int a.2)] [] S) (K := K) (fun a S r S1 h hk => xX8_longest_40 hF hN hR (K := fun r S => match r with | .inl a => X F 0 40 [(0, .ref (gA F 75)), (1, .int x1), (2, .int x2), (3, .int x3), (4, .int x4), (5, .int a.1), (6, .int a.2)] [] S | .inr b => K b S) (fun _ _ h => h) (fun q S h => hex107 q S h) h (by cases r <;> exact hk)) h hk
noncomputable def X8_longest_119 (x1 : Int32) (x3 : Int32) (x4 : Int32) (x5 : Int32) (z0 : Int32) (S : St) : Option (((Int32 × Int32 × Int32) ⊕ Int32) × St) :=
  oi (x5 ≤ x3) (some (.inl (z0, x3, (x4 + (1 : Int32))), S)) (some (.inl (z0, x5, (x4 + (1 : Int32))), S))
set_option maxHeartbeats 4000000 in
set_option maxRecDepth 20000 in
theorem xX8_longest_119 {F : Cx} (hF : Ok F cX8_longest RX8) (hN : nLF F 7) (hR : RmF F 2 0) {x1 : Int32} {x3 : Int32} {x4 : Int32} {x5 : Int32} {z0 : Int32} {K : ((Int32 × Int32 × Int32) ⊕ Int32) → St → Prop} (hag : ∀ (a : Int32 × Int32 × Int32) (S : St), K (.inl a) S → X F 0 7 [(0, .ref (gA F 75)), (1, .int x1), (2, .int a.1), (3, .int a.2.1), (4, .int a.2.2)] [] S) (hex139 : ∀ (q : Int32) (S : St), K (.inr q) S → X F 0 139 [(2, .int q)] [] S) {S : St} {r : (Int32 × Int32 × Int32) ⊕ Int32} {S1 : St} (h : X8_longest_119 x1 x3 x4 x5 z0 S = some (r, S1)) (hk : K r S1) : X F 0 119 [(0, .ref (gA F 75)), (1, .int x1), (3, .int x3), (4, .int x4), (5, .int x5)] [.int z0] S := by
  unfold X8_longest_119 at h
  refine x_istore_n [(2, _), (0, _), (1, _), (3, _), (4, _), (5, _)] hF hN dX8_longest_119 rfl (by decide) rfl ?_
  refine x_iload hF dX8_longest_120 rfl ?_
  refine x_iload_n hF dX8_longest_122 rfl rfl ?_
  refine x_icmp_le (tgt := 131) hF dX8_longest_123 (by decide) (fun hc => ?_) (fun hc => ?_)
  · have h := oi_pos hc h
    refine x_iload_n hF dX8_longest_131 rfl rfl ?_
    refine x_istore_n [(3, _), (2, _), (0, _), (1, _), (4, _), (5, _)] hF hN dX8_longest_132 rfl (by decide) rfl ?_
    refine x_iinc [(4, _), (3, _), (2, _), (0, _), (1, _), (5, _)] (v := (1 : Int32)) hF hN dX8_longest_133 rfl (by decide) (by decide) rfl ?_
    refine x_goto (tgt := 7) hF dX8_longest_136 (by decide) ?_
    obtain ⟨rfl, rfl⟩ := sm h
    exact x_sub (hag _ _ hk) ⟨rfl, rfl, rfl, rfl, rfl, trivial⟩
  · have h := oi_neg hc h
    refine x_iload hF dX8_longest_126 rfl ?_
    refine x_goto (tgt := 132) hF dX8_longest_128 (by decide) ?_
    refine x_istore_n [(3, _), (2, _), (0, _), (1, _), (4, _), (5, _)] hF hN dX8_longest_132 rfl (by decide) rfl ?_
    refine x_iinc [(4, _), (3, _), (2, _), (0, _), (1, _), (5, _)] (v := (1 : Int32)) hF hN dX8_longest_133 rfl (by decide) (by decide) rfl ?_
    refine x_goto (tgt := 7) hF dX8_longest_136 (by decide) ?_
    obtain ⟨rfl, rfl⟩ := sm h
    exact x_sub (hag _ _ hk) ⟨rfl, rfl, rfl, rfl, rfl, trivial⟩
noncomputable def X8_longest_35 (x1 : Int32) (x2 : Int32) (x3 : Int32) (x4 : Int32) (z0 : Int32) (S : St) : Option (((Int32 × Int32 × Int32) ⊕ Int32) × St) :=
  ob (X8_longest_40L x1 x2 x3 x4 (z0, (0 : Int32)) S) (fun b9 S10 => oi (b9 ≤ x3) (X8_longest_119 x1 x3 x4 b9 x2 S10) (X8_longest_119 x1 x3 x4 b9 x4 S10))
set_option maxHeartbeats 4000000 in
set_option maxRecDepth 20000 in
theorem xX8_longest_35 {F : Cx} (hF : Ok F cX8_longest RX8) (hN : nLF F 7) (hR : RmF F 2 0) {x1 : Int32} {x2 : Int32} {x3 : Int32} {x4 : Int32} {z0 : Int32} {K : ((Int32 × Int32 × Int32) ⊕ Int32) → St → Prop} (hag : ∀ (a : Int32 × Int32 × Int32) (S : St), K (.inl a) S → X F 0 7 [(0, .ref (gA F 75)), (1, .int x1), (2, .int a.1), (3, .int a.2.1), (4, .int a.2.2)] [] S) (hex139 : ∀ (q : Int32) (S : St), K (.inr q) S → X F 0 139 [(2, .int q)] [] S) {S : St} {r : (Int32 × Int32 × Int32) ⊕ Int32} {S1 : St} (h : X8_longest_35 x1 x2 x3 x4 z0 S = some (r, S1)) (hk : K r S1) : X F 0 35 [(0, .ref (gA F 75)), (1, .int x1), (2, .int x2), (3, .int x3), (4, .int x4)] [.int z0] S := by
  unfold X8_longest_35 at h
  refine x_istore [(5, _), (0, _), (1, _), (2, _), (3, _), (4, _)] hF hN dX8_longest_35 (by decide) rfl ?_
  refine x_iconst (v := (0 : Int32)) hF dX8_longest_37 (by decide) ?_
  refine x_istore [(6, _), (5, _), (0, _), (1, _), (2, _), (3, _), (4, _)] hF hN dX8_longest_38 (by decide) rfl ?_
  obtain ⟨b9, S10, hlb9, h⟩ := ob_some h
  refine x_sub (xX8_longest_40L hF hN hR (K := fun bb SS => bb = b9 ∧ SS = S10) ?_ hlb9 ⟨rfl, rfl⟩) ⟨rfl, rfl, rfl, rfl, rfl, rfl, rfl, trivial⟩
  rintro _ _ ⟨rfl, rfl⟩
  refine x_iload hF dX8_longest_107 rfl ?_
  refine x_iload_n hF dX8_longest_109 rfl rfl ?_
  refine x_icmp_le (tgt := 118) hF dX8_longest_110 (by decide) (fun hc => ?_) (fun hc => ?_)
  · have h := oi_pos hc h
    refine x_iload_n hF dX8_longest_118 rfl rfl ?_
    exact x_sub (xX8_longest_119 hF hN hR (K := K) hag hex139 h hk) ⟨rfl, rfl, rfl, rfl, rfl, trivial⟩
  · have h := oi_neg hc h
    refine x_iload hF dX8_longest_113 rfl ?_
    refine x_goto (tgt := 119) hF dX8_longest_115 (by decide) ?_
    exact x_sub (xX8_longest_119 hF hN hR (K := K) hag hex139 h hk) ⟨rfl, rfl, rfl, rfl, rfl, trivial⟩
noncomputable def X8_longest_7 (x1 : Int32) (x2 : Int32) (x3 : Int32) (x4 : Int32) (S : St) : Option (((Int32 × Int32 × Int32) ⊕ Int32) × St) :=
  oi ((6 : Int32) ≤ x4) (some (.inr x2, S)) (ob (X8_of x1 (1 : Int32) S) (fun r1 S2 => oi (r1 = x4) (ob (X8_of x1 (2 : Int32) S2) (fun r11 S12 => X8_longest_35 x1 x2 x3 x4 r11 S12)) (X8_longest_35 x1 x2 x3 x4 (0 : Int32) S2)))
set_option maxHeartbeats 4000000 in
set_option maxRecDepth 20000 in
theorem xX8_longest_7 {F : Cx} (hF : Ok F cX8_longest RX8) (hN : nLF F 7) (hR : RmF F 2 0) {x1 : Int32} {x2 : Int32} {x3 : Int32} {x4 : Int32} {K : ((Int32 × Int32 × Int32) ⊕ Int32) → St → Prop} (hag : ∀ (a : Int32 × Int32 × Int32) (S : St), K (.inl a) S → X F 0 7 [(0, .ref (gA F 75)), (1, .int x1), (2, .int a.1), (3, .int a.2.1), (4, .int a.2.2)] [] S) (hex139 : ∀ (q : Int32) (S : St), K (.inr q) S → X F 0 139 [(2, .int q)] [] S) {S : St} {r : (Int32 × Int32 × Int32) ⊕ Int32} {S1 : St} (h : X8_longest_7 x1 x2 x3 x4 S = some (r, S1)) (hk : K r S1) : X F 0 7 [(0, .ref (gA F 75)), (1, .int x1), (2, .int x2), (3, .int x3), (4, .int x4)] [] S := by
  unfold X8_longest_7 at h
  refine x_iload hF dX8_longest_7 rfl ?_
  refine x_bipush (v := (6 : Int32)) hF dX8_longest_9 (by decide) ?_
  refine x_icmp_ge (tgt := 139) hF dX8_longest_11 (by decide) (fun hc => ?_) (fun hc => ?_)
  · have h := oi_pos hc h
    obtain ⟨rfl, rfl⟩ := sm h
    exact x_sub (hex139 _ _ hk) ⟨rfl, trivial⟩
  · have h := oi_neg hc h
    refine x_aload_n hF dX8_longest_14 rfl rfl ?_
    refine x_iload_n hF dX8_longest_15 rfl rfl ?_
    refine x_iconst (v := (1 : Int32)) hF dX8_longest_16 (by decide) ?_
    obtain ⟨r1, S2, hcall, h⟩ := ob_some h
    refine x_cVi hF hN hR (ctX8_of hF.tr hcall) mwX8_of miX8_of sh75 ck7 (by decide) tw_1166 ⟨by decide, by decide⟩ rfl rfl (Nat.le_of_ble_eq_true rfl) dX8_longest_17 ?_
    refine x_iload hF dX8_longest_20 rfl ?_
    refine x_icmp_ne (tgt := 34) hF dX8_longest_22 (by decide) (fun hc => ?_) (fun hc => ?_)
    · have h := oi_neg hc h
      refine x_iconst (v := (0 : Int32)) hF dX8_longest_34 (by decide) ?_
      exact x_sub (xX8_longest_35 hF hN hR (K := K) hag hex139 h hk) ⟨rfl, rfl, rfl, rfl, rfl, trivial⟩
    · have h := oi_pos hc h
      refine x_aload_n hF dX8_longest_25 rfl rfl ?_
      refine x_iload_n hF dX8_longest_26 rfl rfl ?_
      refine x_iconst (v := (2 : Int32)) hF dX8_longest_27 (by decide) ?_
      obtain ⟨r11, S12, hcall, h⟩ := ob_some h
      refine x_cVi hF hN hR (ctX8_of hF.tr hcall) mwX8_of miX8_of sh75 ck7 (by decide) tw_1166 ⟨by decide, by decide⟩ rfl rfl (Nat.le_of_ble_eq_true rfl) dX8_longest_28 ?_
      refine x_goto (tgt := 35) hF dX8_longest_31 (by decide) ?_
      exact x_sub (xX8_longest_35 hF hN hR (K := K) hag hex139 h hk) ⟨rfl, rfl, rfl, rfl, rfl, trivial⟩
noncomputable def X8_longest_7L (x1 : Int32) (a : Int32 × Int32 × Int32) (S : St) : Option (Int32 × St) :=
  lp (fun (a : Int32 × Int32 × Int32) (S : St) => X8_longest_7 x1 a.1 a.2.1 a.2.2 S) a S
theorem xX8_longest_7L {F : Cx} (hF : Ok F cX8_longest RX8) (hN : nLF F 7) (hR : RmF F 2 0) {x1 : Int32} {K : Int32 → St → Prop} (hex139 : ∀ (q : Int32) (S : St), K (q) S → X F 0 139 [(2, .int q)] [] S) {a : Int32 × Int32 × Int32} {S : St} {b : Int32} {S1 : St} (h : X8_longest_7L x1 a S = some (b, S1)) (hk : K b S1) : X F 0 7 [(0, .ref (gA F 75)), (1, .int x1), (2, .int a.1), (3, .int a.2.1), (4, .int a.2.2)] [] S := by
  unfold X8_longest_7L at h
  exact lp_rule (Xh := fun (a : Int32 × Int32 × Int32) (S : St) => X F 0 7 [(0, .ref (gA F 75)), (1, .int x1), (2, .int a.1), (3, .int a.2.1), (4, .int a.2.2)] [] S) (K := K) (fun a S r S1 h hk => xX8_longest_7 hF hN hR (K := fun r S => match r with | .inl a => X F 0 7 [(0, .ref (gA F 75)), (1, .int x1), (2, .int a.1), (3, .int a.2.1), (4, .int a.2.2)] [] S | .inr b => K b S) (fun _ _ h => h) (fun q S h => hex139 q S h) h (by cases r <;> exact hk)) h hk
noncomputable def X8_longest (x1 : Int32) (S : St) : Option (Int32 × St) :=
  ob (X8_longest_7L x1 ((-1 : Int32), (-1 : Int32), (0 : Int32)) S) (fun b13 S14 => some (b13, S14))
set_option maxHeartbeats 4000000 in
set_option maxRecDepth 20000 in
theorem ctX8_longest {l : Launch} {G : Ga} {x1 : Int32} (hl : l.stackTraces = false) {S : St} {r : Int32} {S1 : St} (h : X8_longest x1 S = some (r, S1)) : CT l G 2 yX8_longest cX8_longest 7 (some .int) [.ref (G.1 75), .int x1] S (some (.int r)) S1 := by
  refine ct_of hl (by decide) (Nat.le_of_ble_eq_true rfl) (fun F hFl hFG hF hN hR hret => ?_)
  subst hFl hFG
  show X F 0 0 [(0, .ref (gA F 75)), (1, .int x1)] [] S
  have hret : ∀ (v : Int32) (S : St) (pc : Nat) (ls : List (Nat × Value)), (v = r ∧ S = S1) → decode cX8_longest pc = .ok (.ireturn, 1) → X F 0 pc ls [.int v] S := fun v S2 pc ls hq hd => by obtain ⟨rfl, rfl⟩ := hq; exact hret.1 pc ls v rfl rfl hd
  have hk : r = r ∧ S1 = S1 := ⟨rfl, rfl⟩
  unfold X8_longest at h
  refine x_iconst (v := (-1 : Int32)) hF dX8_longest_0 (by decide) ?_
  refine x_istore_n [(2, _), (0, _), (1, _)] hF hN dX8_longest_1 rfl (by decide) rfl ?_
  refine x_iconst (v := (-1 : Int32)) hF dX8_longest_2 (by decide) ?_
  refine x_istore_n [(3, _), (2, _), (0, _), (1, _)] hF hN dX8_longest_3 rfl (by decide) rfl ?_
  refine x_iconst (v := (0 : Int32)) hF dX8_longest_4 (by decide) ?_
  refine x_istore [(4, _), (3, _), (2, _), (0, _), (1, _)] hF hN dX8_longest_5 (by decide) rfl ?_
  obtain ⟨b13, S14, hlb13, h⟩ := ob_some h
  refine x_sub (xX8_longest_7L hF hN hR (K := fun bb SS => bb = b13 ∧ SS = S14) ?_ hlb13 ⟨rfl, rfl⟩) ⟨rfl, rfl, rfl, rfl, rfl, trivial⟩
  rintro _ _ ⟨rfl, rfl⟩
  refine x_iload_n hF dX8_longest_139 rfl rfl ?_
  obtain ⟨rfl, rfl⟩ := sm h
  exact hret _ _ _ _ hk dX8_longest_140
noncomputable def X8_makesRoom_79 (x1 : Int32) (x2 : Int32) (S : St) : Option (((Unit) ⊕ (Unit ⊕ Unit)) × St) :=
  oi (x2 = (-1 : Int32)) (some (.inr (.inl ()), S)) (ob (X8_dropsAt x2 S) (fun r3 S4 => some (.inl (), S4)))
set_option maxHeartbeats 4000000 in
set_option maxRecDepth 20000 in
theorem xX8_makesRoom_79 {F : Cx} (hF : Ok F cX8_makesRoom RX8) (hN : nLF F 4) (hR : RmF F 3 0) {x1 : Int32} {x2 : Int32} {K : ((Unit) ⊕ (Unit ⊕ Unit)) → St → Prop} (hag : ∀ (a : Unit) (S : St), K (.inl a) S → X F 0 0 [(0, .ref (gA F 75)), (1, .int x1)] [] S) (hex84 : ∀ (q : Unit) (S : St), K (.inr (.inl q)) S → X F 0 84 [] [] S) (hex94 : ∀ (q : Unit) (S : St), K (.inr (.inr q)) S → X F 0 94 [] [] S) {S : St} {r : (Unit) ⊕ (Unit ⊕ Unit)} {S1 : St} (h : X8_makesRoom_79 x1 x2 S = some (r, S1)) (hk : K r S1) : X F 0 79 [(0, .ref (gA F 75)), (1, .int x1), (2, .int x2)] [] S := by
  unfold X8_makesRoom_79 at h
  refine x_iload_n hF dX8_makesRoom_79 rfl rfl ?_
  refine x_iconst (v := (-1 : Int32)) hF dX8_makesRoom_80 (by decide) ?_
  refine x_icmp_ne (tgt := 86) hF dX8_makesRoom_81 (by decide) (fun hc => ?_) (fun hc => ?_)
  · have h := oi_neg hc h
    refine x_aload_n hF dX8_makesRoom_86 rfl rfl ?_
    refine x_iload_n hF dX8_makesRoom_87 rfl rfl ?_
    obtain ⟨r3, S4, hcall, h⟩ := ob_some h
    refine x_cVv hF hN hR (ctX8_dropsAt hF.tr hcall) mwX8_dropsAt miX8_dropsAt sh75 ck7 (by decide) tw_1275 ⟨by decide, by decide⟩ rfl rfl (Nat.le_of_ble_eq_true rfl) dX8_makesRoom_88 ?_
    refine x_goto (tgt := 0) hF dX8_makesRoom_91 (by decide) ?_
    obtain ⟨rfl, rfl⟩ := sm h
    exact x_sub (hag _ _ hk) ⟨rfl, rfl, trivial⟩
  · have h := oi_pos hc h
    obtain ⟨rfl, rfl⟩ := sm h
    exact x_sub (hex84 _ _ hk) trivial
noncomputable def X8_makesRoom_78 (x1 : Int32) (z0 : Int32) (S : St) : Option (((Unit) ⊕ (Unit ⊕ Unit)) × St) :=
  X8_makesRoom_79 x1 z0 S
set_option maxHeartbeats 4000000 in
set_option maxRecDepth 20000 in
theorem xX8_makesRoom_78 {F : Cx} (hF : Ok F cX8_makesRoom RX8) (hN : nLF F 4) (hR : RmF F 3 0) {x1 : Int32} {z0 : Int32} {K : ((Unit) ⊕ (Unit ⊕ Unit)) → St → Prop} (hag : ∀ (a : Unit) (S : St), K (.inl a) S → X F 0 0 [(0, .ref (gA F 75)), (1, .int x1)] [] S) (hex84 : ∀ (q : Unit) (S : St), K (.inr (.inl q)) S → X F 0 84 [] [] S) (hex94 : ∀ (q : Unit) (S : St), K (.inr (.inr q)) S → X F 0 94 [] [] S) {S : St} {r : (Unit) ⊕ (Unit ⊕ Unit)} {S1 : St} (h : X8_makesRoom_78 x1 z0 S = some (r, S1)) (hk : K r S1) : X F 0 78 [(0, .ref (gA F 75)), (1, .int x1)] [.int z0] S := by
  unfold X8_makesRoom_78 at h
  refine x_istore_n [(2, _), (0, _), (1, _)] hF hN dX8_makesRoom_78 rfl (by decide) rfl ?_
  exact x_sub (xX8_makesRoom_79 hF hN hR (K := K) hag hex84 hex94 h hk) ⟨rfl, rfl, rfl, trivial⟩
noncomputable def X8_makesRoom_0 (x1 : Int32) (S : St) : Option (((Unit) ⊕ (Unit ⊕ Unit)) × St) :=
  ob (X8_of x1 (2 : Int32) S) (fun r1 S2 => oi (((gi S 75 12) + r1) ≤ (gi S2 76 121)) (some (.inr (.inr ()), S2)) (oi ((gi S2 76 123) = (1 : Int32)) (ob (X8_firstWhole  S2) (fun r11 S12 => X8_makesRoom_79 x1 r11 S12)) (oi ((gi S2 76 123) = (2 : Int32)) (ob (X8_longest x1 S2) (fun r5 S6 => ob (X8_of x1 (1 : Int32) S6) (fun r7 S8 => oi (r5 = r7) (X8_makesRoom_78 x1 (-1 : Int32) S8) (ob (X8_lastWhole r5 S8) (fun r9 S10 => X8_makesRoom_78 x1 r9 S10))))) (X8_makesRoom_79 x1 (-1 : Int32) S2))))
set_option maxHeartbeats 4000000 in
set_option maxRecDepth 20000 in
theorem xX8_makesRoom_0 {F : Cx} (hF : Ok F cX8_makesRoom RX8) (hN : nLF F 4) (hR : RmF F 3 0) {x1 : Int32} {K : ((Unit) ⊕ (Unit ⊕ Unit)) → St → Prop} (hag : ∀ (a : Unit) (S : St), K (.inl a) S → X F 0 0 [(0, .ref (gA F 75)), (1, .int x1)] [] S) (hex84 : ∀ (q : Unit) (S : St), K (.inr (.inl q)) S → X F 0 84 [] [] S) (hex94 : ∀ (q : Unit) (S : St), K (.inr (.inr q)) S → X F 0 94 [] [] S) {S : St} {r : (Unit) ⊕ (Unit ⊕ Unit)} {S1 : St} (h : X8_makesRoom_0 x1 S = some (r, S1)) (hk : K r S1) : X F 0 0 [(0, .ref (gA F 75)), (1, .int x1)] [] S := by
  unfold X8_makesRoom_0 at h
  refine x_aload_n hF dX8_makesRoom_0 rfl rfl ?_
  refine x_geti hF sh75 12 rfl ck7 (by decide) (by decide) tw_1054 rfl dX8_makesRoom_1 ?_
  refine x_aload_n hF dX8_makesRoom_4 rfl rfl ?_
  refine x_iload_n hF dX8_makesRoom_5 rfl rfl ?_
  refine x_iconst (v := (2 : Int32)) hF dX8_makesRoom_6 (by decide) ?_
  obtain ⟨r1, S2, hcall, h⟩ := ob_some h
  refine x_cVi hF hN hR (ctX8_of hF.tr hcall) mwX8_of miX8_of sh75 ck7 (by decide) tw_1166 ⟨by decide, by decide⟩ rfl rfl (Nat.le_of_ble_eq_true rfl) dX8_makesRoom_7 ?_
  refine x_iadd hF dX8_makesRoom_10 ?_
  refine x_aload_n hF dX8_makesRoom_11 rfl rfl ?_
  refine x_getr hF sh75 0 rfl ck7 (by decide) (by decide) tw_1042 rfl dX8_makesRoom_12 ?_
  refine x_bipush (v := (121 : Int32)) hF dX8_makesRoom_15 (by decide) ?_
  refine x_iald (j := 121) hF sh76 (by decide) (by decide) (by decide) dX8_makesRoom_17 ?_
  refine x_icmp_le (tgt := 94) hF dX8_makesRoom_18 (by decide) (fun hc => ?_) (fun hc => ?_)
  · have h := oi_pos hc h
    obtain ⟨rfl, rfl⟩ := sm h
    exact x_sub (hex94 _ _ hk) trivial
  · have h := oi_neg hc h
    refine x_iconst (v := (-1 : Int32)) hF dX8_makesRoom_21 (by decide) ?_
    refine x_istore_n [(2, _), (0, _), (1, _)] hF hN dX8_makesRoom_22 rfl (by decide) rfl ?_
    refine x_aload_n hF dX8_makesRoom_23 rfl rfl ?_
    refine x_getr hF sh75 0 rfl ck7 (by decide) (by decide) tw_1042 rfl dX8_makesRoom_24 ?_
    refine x_bipush (v := (123 : Int32)) hF dX8_makesRoom_27 (by decide) ?_
    refine x_iald (j := 123) hF sh76 (by decide) (by decide) (by decide) dX8_makesRoom_29 ?_
    refine x_iconst (v := (1 : Int32)) hF dX8_makesRoom_30 (by decide) ?_
    refine x_icmp_ne (tgt := 42) hF dX8_makesRoom_31 (by decide) (fun hc => ?_) (fun hc => ?_)
    · have h := oi_neg hc h
      refine x_aload_n hF dX8_makesRoom_42 rfl rfl ?_
      refine x_getr hF sh75 0 rfl ck7 (by decide) (by decide) tw_1042 rfl dX8_makesRoom_43 ?_
      refine x_bipush (v := (123 : Int32)) hF dX8_makesRoom_46 (by decide) ?_
      refine x_iald (j := 123) hF sh76 (by decide) (by decide) (by decide) dX8_makesRoom_48 ?_
      refine x_iconst (v := (2 : Int32)) hF dX8_makesRoom_49 (by decide) ?_
      refine x_icmp_ne (tgt := 79) hF dX8_makesRoom_50 (by decide) (fun hc => ?_) (fun hc => ?_)
      · have h := oi_neg hc h
        exact x_sub (xX8_makesRoom_79 hF hN hR (K := K) hag hex84 hex94 h hk) ⟨rfl, rfl, rfl, trivial⟩
      · have h := oi_pos hc h
        refine x_aload_n hF dX8_makesRoom_53 rfl rfl ?_
        refine x_iload_n hF dX8_makesRoom_54 rfl rfl ?_
        obtain ⟨r5, S6, hcall, h⟩ := ob_some h
        refine x_cVi hF hN hR (ctX8_longest hF.tr hcall) mwX8_longest miX8_longest sh75 ck7 (by decide) tw_1267 ⟨by decide, by decide⟩ rfl rfl (Nat.le_of_ble_eq_true rfl) dX8_makesRoom_55 ?_
        refine x_istore_n [(3, _), (2, _), (0, _), (1, _)] hF hN dX8_makesRoom_58 rfl (by decide) rfl ?_
        refine x_iload_n hF dX8_makesRoom_59 rfl rfl ?_
        refine x_aload_n hF dX8_makesRoom_60 rfl rfl ?_
        refine x_iload_n hF dX8_makesRoom_61 rfl rfl ?_
        refine x_iconst (v := (1 : Int32)) hF dX8_makesRoom_62 (by decide) ?_
        obtain ⟨r7, S8, hcall, h⟩ := ob_some h
        refine x_cVi hF hN hR (ctX8_of hF.tr hcall) mwX8_of miX8_of sh75 ck7 (by decide) tw_1166 ⟨by decide, by decide⟩ rfl rfl (Nat.le_of_ble_eq_true rfl) dX8_makesRoom_63 ?_
        refine x_icmp_ne (tgt := 73) hF dX8_makesRoom_66 (by decide) (fun hc => ?_) (fun hc => ?_)
        · have h := oi_neg hc h
          refine x_aload_n hF dX8_makesRoom_73 rfl rfl ?_
          refine x_iload_n hF dX8_makesRoom_74 rfl rfl ?_
          obtain ⟨r9, S10, hcall, h⟩ := ob_some h
          refine x_cVi hF hN hR (ctX8_lastWhole hF.tr hcall) mwX8_lastWhole miX8_lastWhole sh75 ck7 (by decide) tw_1271 ⟨by decide, by decide⟩ rfl rfl (Nat.le_of_ble_eq_true rfl) dX8_makesRoom_75 ?_
          exact x_sub (xX8_makesRoom_78 hF hN hR (K := K) hag hex84 hex94 h hk) ⟨rfl, rfl, trivial⟩
        · have h := oi_pos hc h
          refine x_iconst (v := (-1 : Int32)) hF dX8_makesRoom_69 (by decide) ?_
          refine x_goto (tgt := 78) hF dX8_makesRoom_70 (by decide) ?_
          exact x_sub (xX8_makesRoom_78 hF hN hR (K := K) hag hex84 hex94 h hk) ⟨rfl, rfl, trivial⟩
    · have h := oi_pos hc h
      refine x_aload_n hF dX8_makesRoom_34 rfl rfl ?_
      obtain ⟨r11, S12, hcall, h⟩ := ob_some h
      refine x_cVi hF hN hR (ctX8_firstWhole hF.tr hcall) mwX8_firstWhole miX8_firstWhole sh75 ck7 (by decide) tw_1259 ⟨by decide, by decide⟩ rfl rfl (Nat.le_of_ble_eq_true rfl) dX8_makesRoom_35 ?_
      refine x_istore_n [(2, _), (0, _), (1, _)] hF hN dX8_makesRoom_38 rfl (by decide) rfl ?_
      refine x_goto (tgt := 79) hF dX8_makesRoom_39 (by decide) ?_
      exact x_sub (xX8_makesRoom_79 hF hN hR (K := K) hag hex84 hex94 h hk) ⟨rfl, rfl, rfl, trivial⟩
noncomputable def X8_makesRoom_0L (x1 : Int32) (a : Unit) (S : St) : Option ((Unit ⊕ Unit) × St) :=
  lp (fun (a : Unit) (S : St) => X8_makesRoom_0 x1 S) a S
theorem xX8_makesRoom_0L {F : Cx} (hF : Ok F cX8_makesRoom RX8) (hN : nLF F 4) (hR : RmF F 3 0) {x1 : Int32} {K : (Unit ⊕ Unit) → St → Prop} (hex84 : ∀ (q : Unit) (S : St), K ((.inl q)) S → X F 0 84 [] [] S) (hex94 : ∀ (q : Unit) (S : St), K ((.inr q)) S → X F 0 94 [] [] S) {a : Unit} {S : St} {b : Unit ⊕ Unit} {S1 : St} (h : X8_makesRoom_0L x1 a S = some (b, S1)) (hk : K b S1) : X F 0 0 [(0, .ref (gA F 75)), (1, .int x1)] [] S := by
  unfold X8_makesRoom_0L at h
  exact lp_rule (Xh := fun (a : Unit) (S : St) => X F 0 0 [(0, .ref (gA F 75)), (1, .int x1)] [] S) (K := K) (fun a S r S1 h hk => xX8_makesRoom_0 hF hN hR (K := fun r S => match r with | .inl a => X F 0 0 [(0, .ref (gA F 75)), (1, .int x1)] [] S | .inr b => K b S) (fun _ _ h => h) (fun q S h => hex84 q S h) (fun q S h => hex94 q S h) h (by cases r <;> exact hk)) h hk
noncomputable def X8_makesRoom (x1 : Int32) (S : St) : Option (Int32 × St) :=
  ob (X8_makesRoom_0L x1 () S) (fun b13 S14 => match b13 with | .inl q15 => some ((0 : Int32), S14) | .inr q16 => some ((1 : Int32), S14))
set_option maxHeartbeats 4000000 in
set_option maxRecDepth 20000 in
theorem ctX8_makesRoom {l : Launch} {G : Ga} {x1 : Int32} (hl : l.stackTraces = false) {S : St} {r : Int32} {S1 : St} (h : X8_makesRoom x1 S = some (r, S1)) : CT l G 3 yX8_makesRoom cX8_makesRoom 4 (some .boolean) [.ref (G.1 75), .int x1] S (some (.int r)) S1 := by
  refine ct_of hl (by decide) (Nat.le_of_ble_eq_true rfl) (fun F hFl hFG hF hN hR hret => ?_)
  subst hFl hFG
  show X F 0 0 [(0, .ref (gA F 75)), (1, .int x1)] [] S
  have hret : ∀ (v : Int32) (S : St) (pc : Nat) (ls : List (Nat × Value)), isB v → (v = r ∧ S = S1) → decode cX8_makesRoom pc = .ok (.ireturn, 1) → X F 0 pc ls [.int v] S := fun v S2 pc ls hb hq hd => by obtain ⟨rfl, rfl⟩ := hq; exact hret.2.1 pc ls v rfl hb rfl hd
  have hk : r = r ∧ S1 = S1 := ⟨rfl, rfl⟩
  unfold X8_makesRoom at h
  obtain ⟨b13, S14, hlb13, h⟩ := ob_some h
  refine x_sub (xX8_makesRoom_0L hF hN hR (K := fun bb SS => bb = b13 ∧ SS = S14) ?_ ?_ hlb13 ⟨rfl, rfl⟩) ⟨rfl, rfl, trivial⟩
  · rintro _ _ ⟨rfl, rfl⟩
    dsimp only at h
    refine x_iconst (v := (0 : Int32)) hF dX8_makesRoom_84 (by decide) ?_
    obtain ⟨rfl, rfl⟩ := sm h
    exact hret _ _ _ _ (by decide) hk dX8_makesRoom_85
  · rintro _ _ ⟨rfl, rfl⟩
    dsimp only at h
    refine x_iconst (v := (1 : Int32)) hF dX8_makesRoom_94 (by decide) ?_
    obtain ⟨rfl, rfl⟩ := sm h
    exact hret _ _ _ _ (by decide) hk dX8_makesRoom_95
noncomputable def X8_isOverShare_9 (x1 : Int32) (x2 : Int32) (x3 : Int32) (S : St) : Option (((Int32 × Int32) ⊕ Int32) × St) :=
  oi ((gi S 75 10) ≤ x3) (some (.inr x2, S)) (og (inb x3 41) (ob (X8_of (gi S 81 (ix x3)) (1 : Int32) S) (fun r3 S4 => ob (X8_of x1 (1 : Int32) S4) (fun r5 S6 => oi (r3 = r5) (og (inb x3 41) (og (inb (gi S6 81 (ix x3)) 40) (some (.inl ((x2 + (gi S6 82 (ix (gi S6 81 (ix x3))))), (x3 + (1 : Int32))), S6)))) (some (.inl ((x2 + (0 : Int32)), (x3 + (1 : Int32))), S6))))))
set_option maxHeartbeats 4000000 in
set_option maxRecDepth 20000 in
theorem xX8_isOverShare_9 {F : Cx} (hF : Ok F cX8_isOverShare RX8) (hN : nLF F 4) (hR : RmF F 1 0) {x1 : Int32} {x2 : Int32} {x3 : Int32} {K : ((Int32 × Int32) ⊕ Int32) → St → Prop} (hag : ∀ (a : Int32 × Int32) (S : St), K (.inl a) S → X F 0 9 [(0, .ref (gA F 75)), (1, .int x1), (2, .int a.1), (3, .int a.2)] [] S) (hex61 : ∀ (q : Int32) (S : St), K (.inr q) S → X F 0 61 [(0, .ref (gA F 75)), (2, .int q)] [] S) {S : St} {r : (Int32 × Int32) ⊕ Int32} {S1 : St} (h : X8_isOverShare_9 x1 x2 x3 S = some (r, S1)) (hk : K r S1) : X F 0 9 [(0, .ref (gA F 75)), (1, .int x1), (2, .int x2), (3, .int x3)] [] S := by
  unfold X8_isOverShare_9 at h
  refine x_iload_n hF dX8_isOverShare_9 rfl rfl ?_
  refine x_aload_n hF dX8_isOverShare_10 rfl rfl ?_
  refine x_geti hF sh75 10 rfl ck7 (by decide) (by decide) tw_1052 rfl dX8_isOverShare_11 ?_
  refine x_icmp_ge (tgt := 61) hF dX8_isOverShare_14 (by decide) (fun hc => ?_) (fun hc => ?_)
  · have h := oi_pos hc h
    obtain ⟨rfl, rfl⟩ := sm h
    exact x_sub (hex61 _ _ hk) ⟨rfl, rfl, trivial⟩
  · have h := oi_neg hc h
    refine x_iload_n hF dX8_isOverShare_17 rfl rfl ?_
    refine x_aload_n hF dX8_isOverShare_18 rfl rfl ?_
    refine x_aload_n hF dX8_isOverShare_19 rfl rfl ?_
    refine x_getr hF sh75 9 rfl ck7 (by decide) (by decide) tw_1051 rfl dX8_isOverShare_20 ?_
    refine x_iload_n hF dX8_isOverShare_23 rfl rfl ?_
    obtain ⟨hg, h⟩ := og_some h
    refine x_iald hF sh81 (by decide) hg rfl dX8_isOverShare_24 ?_
    refine x_iconst (v := (1 : Int32)) hF dX8_isOverShare_25 (by decide) ?_
    obtain ⟨r3, S4, hcall, h⟩ := ob_some h
    refine x_cVi hF hN hR (ctX8_of hF.tr hcall) mwX8_of miX8_of sh75 ck7 (by decide) tw_1166 ⟨by decide, by decide⟩ rfl rfl (Nat.le_of_ble_eq_true rfl) dX8_isOverShare_26 ?_
    refine x_aload_n hF dX8_isOverShare_29 rfl rfl ?_
    refine x_iload_n hF dX8_isOverShare_30 rfl rfl ?_
    refine x_iconst (v := (1 : Int32)) hF dX8_isOverShare_31 (by decide) ?_
    obtain ⟨r5, S6, hcall, h⟩ := ob_some h
    refine x_cVi hF hN hR (ctX8_of hF.tr hcall) mwX8_of miX8_of sh75 ck7 (by decide) tw_1166 ⟨by decide, by decide⟩ rfl rfl (Nat.le_of_ble_eq_true rfl) dX8_isOverShare_32 ?_
    refine x_icmp_ne (tgt := 52) hF dX8_isOverShare_35 (by decide) (fun hc => ?_) (fun hc => ?_)
    · have h := oi_neg hc h
      refine x_iconst (v := (0 : Int32)) hF dX8_isOverShare_52 (by decide) ?_
      refine x_iadd hF dX8_isOverShare_53 ?_
      refine x_istore_n [(2, _), (0, _), (1, _), (3, _)] hF hN dX8_isOverShare_54 rfl (by decide) rfl ?_
      refine x_iinc [(3, _), (2, _), (0, _), (1, _)] (v := (1 : Int32)) hF hN dX8_isOverShare_55 rfl (by decide) (by decide) rfl ?_
      refine x_goto (tgt := 9) hF dX8_isOverShare_58 (by decide) ?_
      obtain ⟨rfl, rfl⟩ := sm h
      exact x_sub (hag _ _ hk) ⟨rfl, rfl, rfl, rfl, trivial⟩
    · have h := oi_pos hc h
      refine x_aload_n hF dX8_isOverShare_38 rfl rfl ?_
      refine x_getr hF sh75 11 rfl ck7 (by decide) (by decide) tw_1053 rfl dX8_isOverShare_39 ?_
      refine x_aload_n hF dX8_isOverShare_42 rfl rfl ?_
      refine x_getr hF sh75 9 rfl ck7 (by decide) (by decide) tw_1051 rfl dX8_isOverShare_43 ?_
      refine x_iload_n hF dX8_isOverShare_46 rfl rfl ?_
      obtain ⟨hg, h⟩ := og_some h
      refine x_iald hF sh81 (by decide) hg rfl dX8_isOverShare_47 ?_
      obtain ⟨hg, h⟩ := og_some h
      refine x_iald hF sh82 (by decide) hg rfl dX8_isOverShare_48 ?_
      refine x_goto (tgt := 53) hF dX8_isOverShare_49 (by decide) ?_
      refine x_iadd hF dX8_isOverShare_53 ?_
      refine x_istore_n [(2, _), (0, _), (1, _), (3, _)] hF hN dX8_isOverShare_54 rfl (by decide) rfl ?_
      refine x_iinc [(3, _), (2, _), (0, _), (1, _)] (v := (1 : Int32)) hF hN dX8_isOverShare_55 rfl (by decide) (by decide) rfl ?_
      refine x_goto (tgt := 9) hF dX8_isOverShare_58 (by decide) ?_
      obtain ⟨rfl, rfl⟩ := sm h
      exact x_sub (hag _ _ hk) ⟨rfl, rfl, rfl, rfl, trivial⟩
noncomputable def X8_isOverShare_9L (x1 : Int32) (a : Int32 × Int32) (S : St) : Option (Int32 × St) :=
  lp (fun (a : Int32 × Int32) (S : St) => X8_isOverShare_9 x1 a.1 a.2 S) a S
theorem xX8_isOverShare_9L {F : Cx} (hF : Ok F cX8_isOverShare RX8) (hN : nLF F 4) (hR : RmF F 1 0) {x1 : Int32} {K : Int32 → St → Prop} (hex61 : ∀ (q : Int32) (S : St), K (q) S → X F 0 61 [(0, .ref (gA F 75)), (2, .int q)] [] S) {a : Int32 × Int32} {S : St} {b : Int32} {S1 : St} (h : X8_isOverShare_9L x1 a S = some (b, S1)) (hk : K b S1) : X F 0 9 [(0, .ref (gA F 75)), (1, .int x1), (2, .int a.1), (3, .int a.2)] [] S := by
  unfold X8_isOverShare_9L at h
  exact lp_rule (Xh := fun (a : Int32 × Int32) (S : St) => X F 0 9 [(0, .ref (gA F 75)), (1, .int x1), (2, .int a.1), (3, .int a.2)] [] S) (K := K) (fun a S r S1 h hk => xX8_isOverShare_9 hF hN hR (K := fun r S => match r with | .inl a => X F 0 9 [(0, .ref (gA F 75)), (1, .int x1), (2, .int a.1), (3, .int a.2)] [] S | .inr b => K b S) (fun _ _ h => h) (fun q S h => hex61 q S h) h (by cases r <;> exact hk)) h hk
noncomputable def X8_isOverShare (x1 : Int32) (S : St) : Option (Int32 × St) :=
  ob (X8_of x1 (2 : Int32) S) (fun r1 S2 => ob (X8_isOverShare_9L x1 (r1, (0 : Int32)) S2) (fun b7 S8 => oi (((4 : Int32) * b7) ≤ ((gi S8 76 125) * ((gi S8 76 121) - (gi S8 75 12)))) (some ((0 : Int32), S8)) (some ((1 : Int32), S8))))
set_option maxHeartbeats 4000000 in
set_option maxRecDepth 20000 in
theorem ctX8_isOverShare {l : Launch} {G : Ga} {x1 : Int32} (hl : l.stackTraces = false) {S : St} {r : Int32} {S1 : St} (h : X8_isOverShare x1 S = some (r, S1)) : CT l G 1 yX8_isOverShare cX8_isOverShare 4 (some .boolean) [.ref (G.1 75), .int x1] S (some (.int r)) S1 := by
  refine ct_of hl (by decide) (Nat.le_of_ble_eq_true rfl) (fun F hFl hFG hF hN hR hret => ?_)
  subst hFl hFG
  show X F 0 0 [(0, .ref (gA F 75)), (1, .int x1)] [] S
  have hret : ∀ (v : Int32) (S : St) (pc : Nat) (ls : List (Nat × Value)), isB v → (v = r ∧ S = S1) → decode cX8_isOverShare pc = .ok (.ireturn, 1) → X F 0 pc ls [.int v] S := fun v S2 pc ls hb hq hd => by obtain ⟨rfl, rfl⟩ := hq; exact hret.2.1 pc ls v rfl hb rfl hd
  have hk : r = r ∧ S1 = S1 := ⟨rfl, rfl⟩
  unfold X8_isOverShare at h
  refine x_aload_n hF dX8_isOverShare_0 rfl rfl ?_
  refine x_iload_n hF dX8_isOverShare_1 rfl rfl ?_
  refine x_iconst (v := (2 : Int32)) hF dX8_isOverShare_2 (by decide) ?_
  obtain ⟨r1, S2, hcall, h⟩ := ob_some h
  refine x_cVi hF hN hR (ctX8_of hF.tr hcall) mwX8_of miX8_of sh75 ck7 (by decide) tw_1166 ⟨by decide, by decide⟩ rfl rfl (Nat.le_of_ble_eq_true rfl) dX8_isOverShare_3 ?_
  refine x_istore_n [(2, _), (0, _), (1, _)] hF hN dX8_isOverShare_6 rfl (by decide) rfl ?_
  refine x_iconst (v := (0 : Int32)) hF dX8_isOverShare_7 (by decide) ?_
  refine x_istore_n [(3, _), (2, _), (0, _), (1, _)] hF hN dX8_isOverShare_8 rfl (by decide) rfl ?_
  obtain ⟨b7, S8, hlb7, h⟩ := ob_some h
  refine x_sub (xX8_isOverShare_9L hF hN hR (K := fun bb SS => bb = b7 ∧ SS = S8) ?_ hlb7 ⟨rfl, rfl⟩) ⟨rfl, rfl, rfl, rfl, trivial⟩
  rintro _ _ ⟨rfl, rfl⟩
  refine x_iconst (v := (4 : Int32)) hF dX8_isOverShare_61 (by decide) ?_
  refine x_iload_n hF dX8_isOverShare_62 rfl rfl ?_
  refine x_imul hF dX8_isOverShare_63 ?_
  refine x_aload_n hF dX8_isOverShare_64 rfl rfl ?_
  refine x_getr hF sh75 0 rfl ck7 (by decide) (by decide) tw_1042 rfl dX8_isOverShare_65 ?_
  refine x_bipush (v := (125 : Int32)) hF dX8_isOverShare_68 (by decide) ?_
  refine x_iald (j := 125) hF sh76 (by decide) (by decide) (by decide) dX8_isOverShare_70 ?_
  refine x_aload_n hF dX8_isOverShare_71 rfl rfl ?_
  refine x_getr hF sh75 0 rfl ck7 (by decide) (by decide) tw_1042 rfl dX8_isOverShare_72 ?_
  refine x_bipush (v := (121 : Int32)) hF dX8_isOverShare_75 (by decide) ?_
  refine x_iald (j := 121) hF sh76 (by decide) (by decide) (by decide) dX8_isOverShare_77 ?_
  refine x_aload_n hF dX8_isOverShare_78 rfl rfl ?_
  refine x_geti hF sh75 12 rfl ck7 (by decide) (by decide) tw_1054 rfl dX8_isOverShare_79 ?_
  refine x_isub hF dX8_isOverShare_82 ?_
  refine x_imul hF dX8_isOverShare_83 ?_
  refine x_icmp_le (tgt := 91) hF dX8_isOverShare_84 (by decide) (fun hc => ?_) (fun hc => ?_)
  · have h := oi_pos hc h
    refine x_iconst (v := (0 : Int32)) hF dX8_isOverShare_91 (by decide) ?_
    obtain ⟨rfl, rfl⟩ := sm h
    exact hret _ _ _ _ (by decide) hk dX8_isOverShare_92
  · have h := oi_neg hc h
    refine x_iconst (v := (1 : Int32)) hF dX8_isOverShare_87 (by decide) ?_
    refine x_goto (tgt := 92) hF dX8_isOverShare_88 (by decide) ?_
    obtain ⟨rfl, rfl⟩ := sm h
    exact hret _ _ _ _ (by decide) hk dX8_isOverShare_92
noncomputable def X8_isAccepted (x1 : Int32) (S : St) : Option (Int32 × St) :=
  ob (X8_of x1 (2 : Int32) S) (fun r1 S2 => oi ((gi S2 76 121) < r1) (some ((0 : Int32), S2)) (ob (X8_makesRoom x1 S2) (fun r3 S4 => oi (r3 = 0) (some ((0 : Int32), S4)) (oi ((gi S4 76 123) = (3 : Int32)) (ob (X8_isOverShare x1 S4) (fun r6 S7 => oi (r6 = 0) (some ((1 : Int32), S7)) (some ((0 : Int32), S7)))) (oi ((gi S4 76 123) = (4 : Int32)) (oi ((gi S4 75 12) < (gi S4 76 126)) (some ((1 : Int32), S4)) (ol (si S4 75 13 ((gi S4 75 13) + (1 : Int32))) (fun T5 => og (¬ (gi T5 76 127) = 0) (oi (((gi T5 75 13) - (gi T5 75 13) / (gi T5 76 127) * (gi T5 76 127)) = 0) (some ((0 : Int32), T5)) (some ((1 : Int32), T5)))))) (some ((1 : Int32), S4)))))))
set_option maxHeartbeats 4000000 in
set_option maxRecDepth 20000 in
theorem ctX8_isAccepted {l : Launch} {G : Ga} {x1 : Int32} (hl : l.stackTraces = false) {S : St} {r : Int32} {S1 : St} (h : X8_isAccepted x1 S = some (r, S1)) : CT l G 4 yX8_isAccepted cX8_isAccepted 2 (some .boolean) [.ref (G.1 75), .int x1] S (some (.int r)) S1 := by
  refine ct_of hl (by decide) (Nat.le_of_ble_eq_true rfl) (fun F hFl hFG hF hN hR hret => ?_)
  subst hFl hFG
  show X F 0 0 [(0, .ref (gA F 75)), (1, .int x1)] [] S
  have hret : ∀ (v : Int32) (S : St) (pc : Nat) (ls : List (Nat × Value)), isB v → (v = r ∧ S = S1) → decode cX8_isAccepted pc = .ok (.ireturn, 1) → X F 0 pc ls [.int v] S := fun v S2 pc ls hb hq hd => by obtain ⟨rfl, rfl⟩ := hq; exact hret.2.1 pc ls v rfl hb rfl hd
  have hk : r = r ∧ S1 = S1 := ⟨rfl, rfl⟩
  unfold X8_isAccepted at h
  refine x_aload_n hF dX8_isAccepted_0 rfl rfl ?_
  refine x_iload_n hF dX8_isAccepted_1 rfl rfl ?_
  refine x_iconst (v := (2 : Int32)) hF dX8_isAccepted_2 (by decide) ?_
  obtain ⟨r1, S2, hcall, h⟩ := ob_some h
  refine x_cVi hF hN hR (ctX8_of hF.tr hcall) mwX8_of miX8_of sh75 ck7 (by decide) tw_1166 ⟨by decide, by decide⟩ rfl rfl (Nat.le_of_ble_eq_true rfl) dX8_isAccepted_3 ?_
  refine x_aload_n hF dX8_isAccepted_6 rfl rfl ?_
  refine x_getr hF sh75 0 rfl ck7 (by decide) (by decide) tw_1042 rfl dX8_isAccepted_7 ?_
  refine x_bipush (v := (121 : Int32)) hF dX8_isAccepted_10 (by decide) ?_
  refine x_iald (j := 121) hF sh76 (by decide) (by decide) (by decide) dX8_isAccepted_12 ?_
  refine x_icmp_gt (tgt := 24) hF dX8_isAccepted_13 (by decide) (fun hc => ?_) (fun hc => ?_)
  · have h := oi_pos hc h
    refine x_iconst (v := (0 : Int32)) hF dX8_isAccepted_24 (by decide) ?_
    obtain ⟨rfl, rfl⟩ := sm h
    exact hret _ _ _ _ (by decide) hk dX8_isAccepted_25
  · have h := oi_neg hc h
    refine x_aload_n hF dX8_isAccepted_16 rfl rfl ?_
    refine x_iload_n hF dX8_isAccepted_17 rfl rfl ?_
    obtain ⟨r3, S4, hcall, h⟩ := ob_some h
    refine x_cVi hF hN hR (ctX8_makesRoom hF.tr hcall) mwX8_makesRoom miX8_makesRoom sh75 ck7 (by decide) tw_1255 ⟨by decide, by decide⟩ rfl rfl (Nat.le_of_ble_eq_true rfl) dX8_isAccepted_18 ?_
    refine x_if_ne (tgt := 26) hF dX8_isAccepted_21 (by decide) (fun hc => ?_) (fun hc => ?_)
    · have h := oi_neg hc h
      refine x_aload_n hF dX8_isAccepted_26 rfl rfl ?_
      refine x_getr hF sh75 0 rfl ck7 (by decide) (by decide) tw_1042 rfl dX8_isAccepted_27 ?_
      refine x_bipush (v := (123 : Int32)) hF dX8_isAccepted_30 (by decide) ?_
      refine x_iald (j := 123) hF sh76 (by decide) (by decide) (by decide) dX8_isAccepted_32 ?_
      refine x_iconst (v := (3 : Int32)) hF dX8_isAccepted_33 (by decide) ?_
      refine x_icmp_ne (tgt := 51) hF dX8_isAccepted_34 (by decide) (fun hc => ?_) (fun hc => ?_)
      · have h := oi_neg hc h
        refine x_aload_n hF dX8_isAccepted_51 rfl rfl ?_
        refine x_getr hF sh75 0 rfl ck7 (by decide) (by decide) tw_1042 rfl dX8_isAccepted_52 ?_
        refine x_bipush (v := (123 : Int32)) hF dX8_isAccepted_55 (by decide) ?_
        refine x_iald (j := 123) hF sh76 (by decide) (by decide) (by decide) dX8_isAccepted_57 ?_
        refine x_iconst (v := (4 : Int32)) hF dX8_isAccepted_58 (by decide) ?_
        refine x_icmp_ne (tgt := 107) hF dX8_isAccepted_59 (by decide) (fun hc => ?_) (fun hc => ?_)
        · have h := oi_neg hc h
          refine x_iconst (v := (1 : Int32)) hF dX8_isAccepted_107 (by decide) ?_
          obtain ⟨rfl, rfl⟩ := sm h
          exact hret _ _ _ _ (by decide) hk dX8_isAccepted_108
        · have h := oi_pos hc h
          refine x_aload_n hF dX8_isAccepted_62 rfl rfl ?_
          refine x_geti hF sh75 12 rfl ck7 (by decide) (by decide) tw_1054 rfl dX8_isAccepted_63 ?_
          refine x_aload_n hF dX8_isAccepted_66 rfl rfl ?_
          refine x_getr hF sh75 0 rfl ck7 (by decide) (by decide) tw_1042 rfl dX8_isAccepted_67 ?_
          refine x_bipush (v := (126 : Int32)) hF dX8_isAccepted_70 (by decide) ?_
          refine x_iald (j := 126) hF sh76 (by decide) (by decide) (by decide) dX8_isAccepted_72 ?_
          refine x_icmp_lt (tgt := 107) hF dX8_isAccepted_73 (by decide) (fun hc => ?_) (fun hc => ?_)
          · have h := oi_pos hc h
            refine x_iconst (v := (1 : Int32)) hF dX8_isAccepted_107 (by decide) ?_
            obtain ⟨rfl, rfl⟩ := sm h
            exact hret _ _ _ _ (by decide) hk dX8_isAccepted_108
          · have h := oi_neg hc h
            refine x_aload_n hF dX8_isAccepted_76 rfl rfl ?_
            refine x_dup hF dX8_isAccepted_77 rfl ?_
            refine x_geti hF sh75 13 rfl ck7 (by decide) (by decide) tw_1055 rfl dX8_isAccepted_78 ?_
            refine x_iconst (v := (1 : Int32)) hF dX8_isAccepted_81 (by decide) ?_
            refine x_iadd hF dX8_isAccepted_82 ?_
            obtain ⟨T5, eT5, h⟩ := ol_some h
            refine x_puti hF sh75 13 rfl ck7 (by decide) (by decide) tw_1055 rfl rfl rfl rfl rfl eT5 dX8_isAccepted_83 ?_
            refine x_aload_n hF dX8_isAccepted_86 rfl rfl ?_
            refine x_geti hF sh75 13 rfl ck7 (by decide) (by decide) tw_1055 rfl dX8_isAccepted_87 ?_
            refine x_aload_n hF dX8_isAccepted_90 rfl rfl ?_
            refine x_getr hF sh75 0 rfl ck7 (by decide) (by decide) tw_1042 rfl dX8_isAccepted_91 ?_
            refine x_bipush (v := (127 : Int32)) hF dX8_isAccepted_94 (by decide) ?_
            refine x_iald (j := 127) hF sh76 (by decide) (by decide) (by decide) dX8_isAccepted_96 ?_
            obtain ⟨hg, h⟩ := og_some h
            refine x_irem hF dX8_isAccepted_97 hg ?_
            refine x_if_eq (tgt := 105) hF dX8_isAccepted_98 (by decide) (fun hc => ?_) (fun hc => ?_)
            · have h := oi_pos hc h
              refine x_iconst (v := (0 : Int32)) hF dX8_isAccepted_105 (by decide) ?_
              obtain ⟨rfl, rfl⟩ := sm h
              exact hret _ _ _ _ (by decide) hk dX8_isAccepted_106
            · have h := oi_neg hc h
              refine x_iconst (v := (1 : Int32)) hF dX8_isAccepted_101 (by decide) ?_
              refine x_goto (tgt := 106) hF dX8_isAccepted_102 (by decide) ?_
              obtain ⟨rfl, rfl⟩ := sm h
              exact hret _ _ _ _ (by decide) hk dX8_isAccepted_106
      · have h := oi_pos hc h
        refine x_aload_n hF dX8_isAccepted_37 rfl rfl ?_
        refine x_iload_n hF dX8_isAccepted_38 rfl rfl ?_
        obtain ⟨r6, S7, hcall, h⟩ := ob_some h
        refine x_cVi hF hN hR (ctX8_isOverShare hF.tr hcall) mwX8_isOverShare miX8_isOverShare sh75 ck7 (by decide) tw_1287 ⟨by decide, by decide⟩ rfl rfl (Nat.le_of_ble_eq_true rfl) dX8_isAccepted_39 ?_
        refine x_if_ne (tgt := 49) hF dX8_isAccepted_42 (by decide) (fun hc => ?_) (fun hc => ?_)
        · have h := oi_neg hc h
          refine x_iconst (v := (0 : Int32)) hF dX8_isAccepted_49 (by decide) ?_
          obtain ⟨rfl, rfl⟩ := sm h
          exact hret _ _ _ _ (by decide) hk dX8_isAccepted_50
        · have h := oi_pos hc h
          refine x_iconst (v := (1 : Int32)) hF dX8_isAccepted_45 (by decide) ?_
          refine x_goto (tgt := 50) hF dX8_isAccepted_46 (by decide) ?_
          obtain ⟨rfl, rfl⟩ := sm h
          exact hret _ _ _ _ (by decide) hk dX8_isAccepted_50
    · have h := oi_pos hc h
      refine x_iconst (v := (0 : Int32)) hF dX8_isAccepted_24 (by decide) ?_
      obtain ⟨rfl, rfl⟩ := sm h
      exact hret _ _ _ _ (by decide) hk dX8_isAccepted_25
noncomputable def X8_arrives (x1 : Int32) (S : St) : Option (Unit × St) :=
  ob (X8_isAccepted x1 S) (fun r1 S2 => oi (r1 = 0) (ob (X8_drops x1 S2) (fun r9 S10 => some ((), S10))) (ob (X8_of x1 (2 : Int32) S2) (fun r3 S4 => og (inb x1 40) (ol (si S4 82 (ix x1) r3) (fun T5 => og (inb (gi T5 75 10) 41) (ol (si T5 81 (ix (gi T5 75 10)) x1) (fun T6 => ol (si T6 75 10 ((gi T6 75 10) + (1 : Int32))) (fun T7 => og (inb x1 40) (ol (si T7 75 12 ((gi T7 75 12) + (gi T7 82 (ix x1)))) (fun T8 => some ((), T8)))))))))))
set_option maxHeartbeats 4000000 in
set_option maxRecDepth 20000 in
theorem ctX8_arrives {l : Launch} {G : Ga} {x1 : Int32} (hl : l.stackTraces = false) {S : St} {r : Unit} {S1 : St} (h : X8_arrives x1 S = some (r, S1)) : CT l G 5 yX8_arrives cX8_arrives 2 none [.ref (G.1 75), .int x1] S none S1 := by
  refine ct_of hl (by decide) (Nat.le_of_ble_eq_true rfl) (fun F hFl hFG hF hN hR hret => ?_)
  subst hFl hFG
  show X F 0 0 [(0, .ref (gA F 75)), (1, .int x1)] [] S
  have hret : ∀ (v : Unit) (S : St) (pc : Nat) (ls : List (Nat × Value)), (v = r ∧ S = S1) → decode cX8_arrives pc = .ok (.return_, 1) → X F 0 pc ls [] S := fun v S2 pc ls hq hd => by obtain ⟨rfl, rfl⟩ := hq; exact hret.2.2.2.2.1 pc ls rfl rfl hd
  have hk : r = r ∧ S1 = S1 := ⟨rfl, rfl⟩
  unfold X8_arrives at h
  refine x_aload_n hF dX8_arrives_0 rfl rfl ?_
  refine x_iload_n hF dX8_arrives_1 rfl rfl ?_
  obtain ⟨r1, S2, hcall, h⟩ := ob_some h
  refine x_cVi hF hN hR (ctX8_isAccepted hF.tr hcall) mwX8_isAccepted miX8_isAccepted sh75 ck7 (by decide) tw_1251 ⟨by decide, by decide⟩ rfl rfl (Nat.le_of_ble_eq_true rfl) dX8_arrives_2 ?_
  refine x_if_ne (tgt := 14) hF dX8_arrives_5 (by decide) (fun hc => ?_) (fun hc => ?_)
  · have h := oi_neg hc h
    refine x_aload_n hF dX8_arrives_14 rfl rfl ?_
    refine x_getr hF sh75 11 rfl ck7 (by decide) (by decide) tw_1053 rfl dX8_arrives_15 ?_
    refine x_iload_n hF dX8_arrives_18 rfl rfl ?_
    refine x_aload_n hF dX8_arrives_19 rfl rfl ?_
    refine x_iload_n hF dX8_arrives_20 rfl rfl ?_
    refine x_iconst (v := (2 : Int32)) hF dX8_arrives_21 (by decide) ?_
    obtain ⟨r3, S4, hcall, h⟩ := ob_some h
    refine x_cVi hF hN hR (ctX8_of hF.tr hcall) mwX8_of miX8_of sh75 ck7 (by decide) tw_1166 ⟨by decide, by decide⟩ rfl rfl (Nat.le_of_ble_eq_true rfl) dX8_arrives_22 ?_
    obtain ⟨hg, h⟩ := og_some h
    obtain ⟨T5, eT5, h⟩ := ol_some h
    refine x_iast hF sh82 (by decide) hg rfl eT5 dX8_arrives_25 ?_
    refine x_aload_n hF dX8_arrives_26 rfl rfl ?_
    refine x_getr hF sh75 9 rfl ck7 (by decide) (by decide) tw_1051 rfl dX8_arrives_27 ?_
    refine x_aload_n hF dX8_arrives_30 rfl rfl ?_
    refine x_geti hF sh75 10 rfl ck7 (by decide) (by decide) tw_1052 rfl dX8_arrives_31 ?_
    refine x_iload_n hF dX8_arrives_34 rfl rfl ?_
    obtain ⟨hg, h⟩ := og_some h
    obtain ⟨T6, eT6, h⟩ := ol_some h
    refine x_iast hF sh81 (by decide) hg rfl eT6 dX8_arrives_35 ?_
    refine x_aload_n hF dX8_arrives_36 rfl rfl ?_
    refine x_dup hF dX8_arrives_37 rfl ?_
    refine x_geti hF sh75 10 rfl ck7 (by decide) (by decide) tw_1052 rfl dX8_arrives_38 ?_
    refine x_iconst (v := (1 : Int32)) hF dX8_arrives_41 (by decide) ?_
    refine x_iadd hF dX8_arrives_42 ?_
    obtain ⟨T7, eT7, h⟩ := ol_some h
    refine x_puti hF sh75 10 rfl ck7 (by decide) (by decide) tw_1052 rfl rfl rfl rfl rfl eT7 dX8_arrives_43 ?_
    refine x_aload_n hF dX8_arrives_46 rfl rfl ?_
    refine x_dup hF dX8_arrives_47 rfl ?_
    refine x_geti hF sh75 12 rfl ck7 (by decide) (by decide) tw_1054 rfl dX8_arrives_48 ?_
    refine x_aload_n hF dX8_arrives_51 rfl rfl ?_
    refine x_getr hF sh75 11 rfl ck7 (by decide) (by decide) tw_1053 rfl dX8_arrives_52 ?_
    refine x_iload_n hF dX8_arrives_55 rfl rfl ?_
    obtain ⟨hg, h⟩ := og_some h
    refine x_iald hF sh82 (by decide) hg rfl dX8_arrives_56 ?_
    refine x_iadd hF dX8_arrives_57 ?_
    obtain ⟨T8, eT8, h⟩ := ol_some h
    refine x_puti hF sh75 12 rfl ck7 (by decide) (by decide) tw_1054 rfl rfl rfl rfl rfl eT8 dX8_arrives_58 ?_
    obtain ⟨rfl, rfl⟩ := sm h
    exact hret _ _ _ _ hk dX8_arrives_61
  · have h := oi_pos hc h
    refine x_aload_n hF dX8_arrives_8 rfl rfl ?_
    refine x_iload_n hF dX8_arrives_9 rfl rfl ?_
    obtain ⟨r9, S10, hcall, h⟩ := ob_some h
    refine x_cVv hF hN hR (ctX8_drops hF.tr hcall) mwX8_drops miX8_drops sh75 ck7 (by decide) tw_1283 ⟨by decide, by decide⟩ rfl rfl (Nat.le_of_ble_eq_true rfl) dX8_arrives_10 ?_
    obtain ⟨rfl, rfl⟩ := sm h
    exact hret _ _ _ _ hk dX8_arrives_13
noncomputable def X8_firstOf_2 (x1 : Int32) (x2 : Int32) (S : St) : Option (((Int32) ⊕ (Int32 ⊕ Unit)) × St) :=
  oi ((gi S 75 10) ≤ x2) (some (.inr (.inr ()), S)) (og (inb x2 41) (ob (X8_of (gi S 81 (ix x2)) (1 : Int32) S) (fun r1 S2 => oi (r1 = x1) (some (.inr (.inl x2), S2)) (some (.inl (x2 + (1 : Int32)), S2)))))
set_option maxHeartbeats 4000000 in
set_option maxRecDepth 20000 in
theorem xX8_firstOf_2 {F : Cx} (hF : Ok F cX8_firstOf RX8) (hN : nLF F 3) (hR : RmF F 1 0) {x1 : Int32} {x2 : Int32} {K : ((Int32) ⊕ (Int32 ⊕ Unit)) → St → Prop} (hag : ∀ (a : Int32) (S : St), K (.inl a) S → X F 0 2 [(0, .ref (gA F 75)), (1, .int x1), (2, .int a)] [] S) (hex25 : ∀ (q : Int32) (S : St), K (.inr (.inl q)) S → X F 0 25 [(2, .int q)] [] S) (hex33 : ∀ (q : Unit) (S : St), K (.inr (.inr q)) S → X F 0 33 [] [] S) {S : St} {r : (Int32) ⊕ (Int32 ⊕ Unit)} {S1 : St} (h : X8_firstOf_2 x1 x2 S = some (r, S1)) (hk : K r S1) : X F 0 2 [(0, .ref (gA F 75)), (1, .int x1), (2, .int x2)] [] S := by
  unfold X8_firstOf_2 at h
  refine x_iload_n hF dX8_firstOf_2 rfl rfl ?_
  refine x_aload_n hF dX8_firstOf_3 rfl rfl ?_
  refine x_geti hF sh75 10 rfl ck7 (by decide) (by decide) tw_1052 rfl dX8_firstOf_4 ?_
  refine x_icmp_ge (tgt := 33) hF dX8_firstOf_7 (by decide) (fun hc => ?_) (fun hc => ?_)
  · have h := oi_pos hc h
    obtain ⟨rfl, rfl⟩ := sm h
    exact x_sub (hex33 _ _ hk) trivial
  · have h := oi_neg hc h
    refine x_aload_n hF dX8_firstOf_10 rfl rfl ?_
    refine x_aload_n hF dX8_firstOf_11 rfl rfl ?_
    refine x_getr hF sh75 9 rfl ck7 (by decide) (by decide) tw_1051 rfl dX8_firstOf_12 ?_
    refine x_iload_n hF dX8_firstOf_15 rfl rfl ?_
    obtain ⟨hg, h⟩ := og_some h
    refine x_iald hF sh81 (by decide) hg rfl dX8_firstOf_16 ?_
    refine x_iconst (v := (1 : Int32)) hF dX8_firstOf_17 (by decide) ?_
    obtain ⟨r1, S2, hcall, h⟩ := ob_some h
    refine x_cVi hF hN hR (ctX8_of hF.tr hcall) mwX8_of miX8_of sh75 ck7 (by decide) tw_1166 ⟨by decide, by decide⟩ rfl rfl (Nat.le_of_ble_eq_true rfl) dX8_firstOf_18 ?_
    refine x_iload_n hF dX8_firstOf_21 rfl rfl ?_
    refine x_icmp_ne (tgt := 27) hF dX8_firstOf_22 (by decide) (fun hc => ?_) (fun hc => ?_)
    · have h := oi_neg hc h
      refine x_iinc [(2, _), (0, _), (1, _)] (v := (1 : Int32)) hF hN dX8_firstOf_27 rfl (by decide) (by decide) rfl ?_
      refine x_goto (tgt := 2) hF dX8_firstOf_30 (by decide) ?_
      obtain ⟨rfl, rfl⟩ := sm h
      exact x_sub (hag _ _ hk) ⟨rfl, rfl, rfl, trivial⟩
    · have h := oi_pos hc h
      obtain ⟨rfl, rfl⟩ := sm h
      exact x_sub (hex25 _ _ hk) ⟨rfl, trivial⟩
noncomputable def X8_firstOf_2L (x1 : Int32) (a : Int32) (S : St) : Option ((Int32 ⊕ Unit) × St) :=
  lp (fun (a : Int32) (S : St) => X8_firstOf_2 x1 a S) a S
theorem xX8_firstOf_2L {F : Cx} (hF : Ok F cX8_firstOf RX8) (hN : nLF F 3) (hR : RmF F 1 0) {x1 : Int32} {K : (Int32 ⊕ Unit) → St → Prop} (hex25 : ∀ (q : Int32) (S : St), K ((.inl q)) S → X F 0 25 [(2, .int q)] [] S) (hex33 : ∀ (q : Unit) (S : St), K ((.inr q)) S → X F 0 33 [] [] S) {a : Int32} {S : St} {b : Int32 ⊕ Unit} {S1 : St} (h : X8_firstOf_2L x1 a S = some (b, S1)) (hk : K b S1) : X F 0 2 [(0, .ref (gA F 75)), (1, .int x1), (2, .int a)] [] S := by
  unfold X8_firstOf_2L at h
  exact lp_rule (Xh := fun (a : Int32) (S : St) => X F 0 2 [(0, .ref (gA F 75)), (1, .int x1), (2, .int a)] [] S) (K := K) (fun a S r S1 h hk => xX8_firstOf_2 hF hN hR (K := fun r S => match r with | .inl a => X F 0 2 [(0, .ref (gA F 75)), (1, .int x1), (2, .int a)] [] S | .inr b => K b S) (fun _ _ h => h) (fun q S h => hex25 q S h) (fun q S h => hex33 q S h) h (by cases r <;> exact hk)) h hk
noncomputable def X8_firstOf (x1 : Int32) (S : St) : Option (Int32 × St) :=
  ob (X8_firstOf_2L x1 (0 : Int32) S) (fun b3 S4 => match b3 with | .inl q5 => some (q5, S4) | .inr q6 => some ((-1 : Int32), S4))
set_option maxHeartbeats 4000000 in
set_option maxRecDepth 20000 in
theorem ctX8_firstOf {l : Launch} {G : Ga} {x1 : Int32} (hl : l.stackTraces = false) {S : St} {r : Int32} {S1 : St} (h : X8_firstOf x1 S = some (r, S1)) : CT l G 1 yX8_firstOf cX8_firstOf 3 (some .int) [.ref (G.1 75), .int x1] S (some (.int r)) S1 := by
  refine ct_of hl (by decide) (Nat.le_of_ble_eq_true rfl) (fun F hFl hFG hF hN hR hret => ?_)
  subst hFl hFG
  show X F 0 0 [(0, .ref (gA F 75)), (1, .int x1)] [] S
  have hret : ∀ (v : Int32) (S : St) (pc : Nat) (ls : List (Nat × Value)), (v = r ∧ S = S1) → decode cX8_firstOf pc = .ok (.ireturn, 1) → X F 0 pc ls [.int v] S := fun v S2 pc ls hq hd => by obtain ⟨rfl, rfl⟩ := hq; exact hret.1 pc ls v rfl rfl hd
  have hk : r = r ∧ S1 = S1 := ⟨rfl, rfl⟩
  unfold X8_firstOf at h
  refine x_iconst (v := (0 : Int32)) hF dX8_firstOf_0 (by decide) ?_
  refine x_istore_n [(2, _), (0, _), (1, _)] hF hN dX8_firstOf_1 rfl (by decide) rfl ?_
  obtain ⟨b3, S4, hlb3, h⟩ := ob_some h
  refine x_sub (xX8_firstOf_2L hF hN hR (K := fun bb SS => bb = b3 ∧ SS = S4) ?_ ?_ hlb3 ⟨rfl, rfl⟩) ⟨rfl, rfl, rfl, trivial⟩
  · rintro _ _ ⟨rfl, rfl⟩
    dsimp only at h
    refine x_iload_n hF dX8_firstOf_25 rfl rfl ?_
    obtain ⟨rfl, rfl⟩ := sm h
    exact hret _ _ _ _ hk dX8_firstOf_26
  · rintro _ _ ⟨rfl, rfl⟩
    dsimp only at h
    refine x_iconst (v := (-1 : Int32)) hF dX8_firstOf_33 (by decide) ?_
    obtain ⟨rfl, rfl⟩ := sm h
    exact hret _ _ _ _ hk dX8_firstOf_34
noncomputable def X8_scheduled_120 (x1 : Int32) (S : St) : Option (Int32 × St) :=
  og (inb x1 41) (ob (X8_of (gi S 81 (ix x1)) (1 : Int32) S) (fun r1 S2 => ol (si S2 75 14 r1) (fun T3 => some (x1, T3))))
set_option maxHeartbeats 4000000 in
set_option maxRecDepth 20000 in
theorem xX8_scheduled_120 {F : Cx} (hF : Ok F cX8_scheduled RX8) (hN : nLF F 5) (hR : RmF F 2 0) {x1 : Int32} {K : Int32 → St → Prop} (hret : ∀ (v : Int32) (S : St) (pc : Nat) (ls : List (Nat × Value)), K v S → decode cX8_scheduled pc = .ok (.ireturn, 1) → X F 0 pc ls [.int v] S) {S : St} {r : Int32} {S1 : St} (h : X8_scheduled_120 x1 S = some (r, S1)) (hk : K r S1) : X F 0 120 [(0, .ref (gA F 75)), (1, .int x1)] [] S := by
  unfold X8_scheduled_120 at h
  refine x_aload_n hF dX8_scheduled_120 rfl rfl ?_
  refine x_aload_n hF dX8_scheduled_121 rfl rfl ?_
  refine x_aload_n hF dX8_scheduled_122 rfl rfl ?_
  refine x_getr hF sh75 9 rfl ck7 (by decide) (by decide) tw_1051 rfl dX8_scheduled_123 ?_
  refine x_iload_n hF dX8_scheduled_126 rfl rfl ?_
  obtain ⟨hg, h⟩ := og_some h
  refine x_iald hF sh81 (by decide) hg rfl dX8_scheduled_127 ?_
  refine x_iconst (v := (1 : Int32)) hF dX8_scheduled_128 (by decide) ?_
  obtain ⟨r1, S2, hcall, h⟩ := ob_some h
  refine x_cVi hF hN hR (ctX8_of hF.tr hcall) mwX8_of miX8_of sh75 ck7 (by decide) tw_1166 ⟨by decide, by decide⟩ rfl rfl (Nat.le_of_ble_eq_true rfl) dX8_scheduled_129 ?_
  obtain ⟨T3, eT3, h⟩ := ol_some h
  refine x_puti hF sh75 14 rfl ck7 (by decide) (by decide) tw_1056 rfl rfl rfl rfl rfl eT3 dX8_scheduled_132 ?_
  refine x_iload_n hF dX8_scheduled_135 rfl rfl ?_
  obtain ⟨rfl, rfl⟩ := sm h
  exact hret _ _ _ _ hk dX8_scheduled_136
noncomputable def X8_scheduled_95 (x2 : Int32) (S : St) : Option (((Int32) ⊕ Int32) × St) :=
  ob (X8_firstOf x2 S) (fun r4 S5 => oi (r4 = (-1 : Int32)) (some (.inl ((x2 + (1 : Int32)) - (x2 + (1 : Int32)) / (6 : Int32) * (6 : Int32)), S5)) (some (.inr x2, S5)))
set_option maxHeartbeats 4000000 in
set_option maxRecDepth 20000 in
theorem xX8_scheduled_95 {F : Cx} (hF : Ok F cX8_scheduled RX8) (hN : nLF F 5) (hR : RmF F 2 0) {x2 : Int32} {K : ((Int32) ⊕ Int32) → St → Prop} (hag : ∀ (a : Int32) (S : St), K (.inl a) S → X F 0 95 [(0, .ref (gA F 75)), (2, .int a)] [] S) (hex114 : ∀ (q : Int32) (S : St), K (.inr q) S → X F 0 114 [(0, .ref (gA F 75)), (2, .int q)] [] S) {S : St} {r : (Int32) ⊕ Int32} {S1 : St} (h : X8_scheduled_95 x2 S = some (r, S1)) (hk : K r S1) : X F 0 95 [(0, .ref (gA F 75)), (2, .int x2)] [] S := by
  unfold X8_scheduled_95 at h
  refine x_aload_n hF dX8_scheduled_95 rfl rfl ?_
  refine x_iload_n hF dX8_scheduled_96 rfl rfl ?_
  obtain ⟨r4, S5, hcall, h⟩ := ob_some h
  refine x_cVi hF hN hR (ctX8_firstOf hF.tr hcall) mwX8_firstOf miX8_firstOf sh75 ck7 (by decide) tw_1303 ⟨by decide, by decide⟩ rfl rfl (Nat.le_of_ble_eq_true rfl) dX8_scheduled_97 ?_
  refine x_iconst (v := (-1 : Int32)) hF dX8_scheduled_100 (by decide) ?_
  refine x_icmp_ne (tgt := 114) hF dX8_scheduled_101 (by decide) (fun hc => ?_) (fun hc => ?_)
  · have h := oi_neg hc h
    obtain ⟨rfl, rfl⟩ := sm h
    exact x_sub (hex114 _ _ hk) ⟨rfl, rfl, trivial⟩
  · have h := oi_pos hc h
    refine x_iload_n hF dX8_scheduled_104 rfl rfl ?_
    refine x_iconst (v := (1 : Int32)) hF dX8_scheduled_105 (by decide) ?_
    refine x_iadd hF dX8_scheduled_106 ?_
    refine x_bipush (v := (6 : Int32)) hF dX8_scheduled_107 (by decide) ?_
    refine x_irem hF dX8_scheduled_109 (by decide) ?_
    refine x_istore_n [(2, _), (0, _)] hF hN dX8_scheduled_110 rfl (by decide) rfl ?_
    refine x_goto (tgt := 95) hF dX8_scheduled_111 (by decide) ?_
    obtain ⟨rfl, rfl⟩ := sm h
    exact x_sub (hag _ _ hk) ⟨rfl, rfl, trivial⟩
noncomputable def X8_scheduled_95L (a : Int32) (S : St) : Option (Int32 × St) :=
  lp (fun (a : Int32) (S : St) => X8_scheduled_95 a S) a S
theorem xX8_scheduled_95L {F : Cx} (hF : Ok F cX8_scheduled RX8) (hN : nLF F 5) (hR : RmF F 2 0) {K : Int32 → St → Prop} (hex114 : ∀ (q : Int32) (S : St), K (q) S → X F 0 114 [(0, .ref (gA F 75)), (2, .int q)] [] S) {a : Int32} {S : St} {b : Int32} {S1 : St} (h : X8_scheduled_95L  a S = some (b, S1)) (hk : K b S1) : X F 0 95 [(0, .ref (gA F 75)), (2, .int a)] [] S := by
  unfold X8_scheduled_95L at h
  exact lp_rule (Xh := fun (a : Int32) (S : St) => X F 0 95 [(0, .ref (gA F 75)), (2, .int a)] [] S) (K := K) (fun a S r S1 h hk => xX8_scheduled_95 hF hN hR (K := fun r S => match r with | .inl a => X F 0 95 [(0, .ref (gA F 75)), (2, .int a)] [] S | .inr b => K b S) (fun _ _ h => h) (fun q S h => hex114 q S h) h (by cases r <;> exact hk)) h hk
noncomputable def X8_scheduled_18 (x1 : Int32) (x2 : Int32) (x3 : Int32) (S : St) : Option (((Int32 × Int32 × Int32) ⊕ Int32) × St) :=
  oi ((6 : Int32) ≤ x3) (some (.inr x1, S)) (ob (X8_firstOf x3 S) (fun r10 S11 => oi (r10 = (-1 : Int32)) (some (.inl (x1, x2, (x3 + (1 : Int32))), S11)) (og (inb ((129 : Int32) + x3) 135) (oi (x2 ≤ (gi S11 76 (ix ((129 : Int32) + x3)))) (some (.inl (x1, x2, (x3 + (1 : Int32))), S11)) (og (inb ((129 : Int32) + x3) 135) (some (.inl (r10, (gi S11 76 (ix ((129 : Int32) + x3))), (x3 + (1 : Int32))), S11)))))))
set_option maxHeartbeats 4000000 in
set_option maxRecDepth 20000 in
theorem xX8_scheduled_18 {F : Cx} (hF : Ok F cX8_scheduled RX8) (hN : nLF F 5) (hR : RmF F 2 0) {x1 : Int32} {x2 : Int32} {x3 : Int32} {K : ((Int32 × Int32 × Int32) ⊕ Int32) → St → Prop} (hag : ∀ (a : Int32 × Int32 × Int32) (S : St), K (.inl a) S → X F 0 18 [(0, .ref (gA F 75)), (1, .int a.1), (2, .int a.2.1), (3, .int a.2.2)] [] S) (hex71 : ∀ (q : Int32) (S : St), K (.inr q) S → X F 0 71 [(0, .ref (gA F 75)), (1, .int q)] [] S) {S : St} {r : (Int32 × Int32 × Int32) ⊕ Int32} {S1 : St} (h : X8_scheduled_18 x1 x2 x3 S = some (r, S1)) (hk : K r S1) : X F 0 18 [(0, .ref (gA F 75)), (1, .int x1), (2, .int x2), (3, .int x3)] [] S := by
  unfold X8_scheduled_18 at h
  refine x_iload_n hF dX8_scheduled_18 rfl rfl ?_
  refine x_bipush (v := (6 : Int32)) hF dX8_scheduled_19 (by decide) ?_
  refine x_icmp_ge (tgt := 71) hF dX8_scheduled_21 (by decide) (fun hc => ?_) (fun hc => ?_)
  · have h := oi_pos hc h
    obtain ⟨rfl, rfl⟩ := sm h
    exact x_sub (hex71 _ _ hk) ⟨rfl, rfl, trivial⟩
  · have h := oi_neg hc h
    refine x_aload_n hF dX8_scheduled_24 rfl rfl ?_
    refine x_iload_n hF dX8_scheduled_25 rfl rfl ?_
    obtain ⟨r10, S11, hcall, h⟩ := ob_some h
    refine x_cVi hF hN hR (ctX8_firstOf hF.tr hcall) mwX8_firstOf miX8_firstOf sh75 ck7 (by decide) tw_1303 ⟨by decide, by decide⟩ rfl rfl (Nat.le_of_ble_eq_true rfl) dX8_scheduled_26 ?_
    refine x_istore [(4, _), (0, _), (1, _), (2, _), (3, _)] hF hN dX8_scheduled_29 (by decide) rfl ?_
    refine x_iload hF dX8_scheduled_31 rfl ?_
    refine x_iconst (v := (-1 : Int32)) hF dX8_scheduled_33 (by decide) ?_
    refine x_icmp_eq (tgt := 65) hF dX8_scheduled_34 (by decide) (fun hc => ?_) (fun hc => ?_)
    · have h := oi_pos hc h
      refine x_iinc [(3, _), (4, _), (0, _), (1, _), (2, _)] (v := (1 : Int32)) hF hN dX8_scheduled_65 rfl (by decide) (by decide) rfl ?_
      refine x_goto (tgt := 18) hF dX8_scheduled_68 (by decide) ?_
      obtain ⟨rfl, rfl⟩ := sm h
      exact x_sub (hag _ _ hk) ⟨rfl, rfl, rfl, rfl, trivial⟩
    · have h := oi_neg hc h
      refine x_aload_n hF dX8_scheduled_37 rfl rfl ?_
      refine x_getr hF sh75 0 rfl ck7 (by decide) (by decide) tw_1042 rfl dX8_scheduled_38 ?_
      refine x_sipush (v := (129 : Int32)) hF dX8_scheduled_41 (by decide) ?_
      refine x_iload_n hF dX8_scheduled_44 rfl rfl ?_
      refine x_iadd hF dX8_scheduled_45 ?_
      obtain ⟨hg, h⟩ := og_some h
      refine x_iald hF sh76 (by decide) hg rfl dX8_scheduled_46 ?_
      refine x_iload_n hF dX8_scheduled_47 rfl rfl ?_
      refine x_icmp_ge (tgt := 65) hF dX8_scheduled_48 (by decide) (fun hc => ?_) (fun hc => ?_)
      · have h := oi_pos hc h
        refine x_iinc [(3, _), (4, _), (0, _), (1, _), (2, _)] (v := (1 : Int32)) hF hN dX8_scheduled_65 rfl (by decide) (by decide) rfl ?_
        refine x_goto (tgt := 18) hF dX8_scheduled_68 (by decide) ?_
        obtain ⟨rfl, rfl⟩ := sm h
        exact x_sub (hag _ _ hk) ⟨rfl, rfl, rfl, rfl, trivial⟩
      · have h := oi_neg hc h
        refine x_aload_n hF dX8_scheduled_51 rfl rfl ?_
        refine x_getr hF sh75 0 rfl ck7 (by decide) (by decide) tw_1042 rfl dX8_scheduled_52 ?_
        refine x_sipush (v := (129 : Int32)) hF dX8_scheduled_55 (by decide) ?_
        refine x_iload_n hF dX8_scheduled_58 rfl rfl ?_
        refine x_iadd hF dX8_scheduled_59 ?_
        obtain ⟨hg, h⟩ := og_some h
        refine x_iald hF sh76 (by decide) hg rfl dX8_scheduled_60 ?_
        refine x_istore_n [(2, _), (4, _), (0, _), (1, _), (3, _)] hF hN dX8_scheduled_61 rfl (by decide) rfl ?_
        refine x_iload hF dX8_scheduled_62 rfl ?_
        refine x_istore_n [(1, _), (2, _), (4, _), (0, _), (3, _)] hF hN dX8_scheduled_64 rfl (by decide) rfl ?_
        refine x_iinc [(3, _), (1, _), (2, _), (4, _), (0, _)] (v := (1 : Int32)) hF hN dX8_scheduled_65 rfl (by decide) (by decide) rfl ?_
        refine x_goto (tgt := 18) hF dX8_scheduled_68 (by decide) ?_
        obtain ⟨rfl, rfl⟩ := sm h
        exact x_sub (hag _ _ hk) ⟨rfl, rfl, rfl, rfl, trivial⟩
noncomputable def X8_scheduled_18L (a : Int32 × Int32 × Int32) (S : St) : Option (Int32 × St) :=
  lp (fun (a : Int32 × Int32 × Int32) (S : St) => X8_scheduled_18 a.1 a.2.1 a.2.2 S) a S
theorem xX8_scheduled_18L {F : Cx} (hF : Ok F cX8_scheduled RX8) (hN : nLF F 5) (hR : RmF F 2 0) {K : Int32 → St → Prop} (hex71 : ∀ (q : Int32) (S : St), K (q) S → X F 0 71 [(0, .ref (gA F 75)), (1, .int q)] [] S) {a : Int32 × Int32 × Int32} {S : St} {b : Int32} {S1 : St} (h : X8_scheduled_18L  a S = some (b, S1)) (hk : K b S1) : X F 0 18 [(0, .ref (gA F 75)), (1, .int a.1), (2, .int a.2.1), (3, .int a.2.2)] [] S := by
  unfold X8_scheduled_18L at h
  exact lp_rule (Xh := fun (a : Int32 × Int32 × Int32) (S : St) => X F 0 18 [(0, .ref (gA F 75)), (1, .int a.1), (2, .int a.2.1), (3, .int a.2.2)] [] S) (K := K) (fun a S r S1 h hk => xX8_scheduled_18 hF hN hR (K := fun r S => match r with | .inl a => X F 0 18 [(0, .ref (gA F 75)), (1, .int a.1), (2, .int a.2.1), (3, .int a.2.2)] [] S | .inr b => K b S) (fun _ _ h => h) (fun q S h => hex71 q S h) h (by cases r <;> exact hk)) h hk
noncomputable def X8_scheduled (S : St) : Option (Int32 × St) :=
  oi ((gi S 76 124) = (1 : Int32)) (ob (X8_scheduled_18L ((0 : Int32), (10 : Int32), (0 : Int32)) S) (fun b12 S13 => X8_scheduled_120 b12 S13)) (oi ((gi S 76 124) = (2 : Int32)) (ob (X8_scheduled_95L (((gi S 75 14) + (1 : Int32)) - ((gi S 75 14) + (1 : Int32)) / (6 : Int32) * (6 : Int32)) S) (fun b6 S7 => ob (X8_firstOf b6 S7) (fun r8 S9 => X8_scheduled_120 r8 S9))) (X8_scheduled_120 (0 : Int32) S))
set_option maxHeartbeats 4000000 in
set_option maxRecDepth 20000 in
theorem ctX8_scheduled {l : Launch} {G : Ga} (hl : l.stackTraces = false) {S : St} {r : Int32} {S1 : St} (h : X8_scheduled  S = some (r, S1)) : CT l G 2 yX8_scheduled cX8_scheduled 5 (some .int) [.ref (G.1 75)] S (some (.int r)) S1 := by
  refine ct_of hl (by decide) (Nat.le_of_ble_eq_true rfl) (fun F hFl hFG hF hN hR hret => ?_)
  subst hFl hFG
  show X F 0 0 [(0, .ref (gA F 75))] [] S
  have hret : ∀ (v : Int32) (S : St) (pc : Nat) (ls : List (Nat × Value)), (v = r ∧ S = S1) → decode cX8_scheduled pc = .ok (.ireturn, 1) → X F 0 pc ls [.int v] S := fun v S2 pc ls hq hd => by obtain ⟨rfl, rfl⟩ := hq; exact hret.1 pc ls v rfl rfl hd
  have hk : r = r ∧ S1 = S1 := ⟨rfl, rfl⟩
  unfold X8_scheduled at h
  refine x_iconst (v := (0 : Int32)) hF dX8_scheduled_0 (by decide) ?_
  refine x_istore_n [(1, _), (0, _)] hF hN dX8_scheduled_1 rfl (by decide) rfl ?_
  refine x_aload_n hF dX8_scheduled_2 rfl rfl ?_
  refine x_getr hF sh75 0 rfl ck7 (by decide) (by decide) tw_1042 rfl dX8_scheduled_3 ?_
  refine x_bipush (v := (124 : Int32)) hF dX8_scheduled_6 (by decide) ?_
  refine x_iald (j := 124) hF sh76 (by decide) (by decide) (by decide) dX8_scheduled_8 ?_
  refine x_iconst (v := (1 : Int32)) hF dX8_scheduled_9 (by decide) ?_
  refine x_icmp_ne (tgt := 74) hF dX8_scheduled_10 (by decide) (fun hc => ?_) (fun hc => ?_)
  · have h := oi_neg hc h
    refine x_aload_n hF dX8_scheduled_74 rfl rfl ?_
    refine x_getr hF sh75 0 rfl ck7 (by decide) (by decide) tw_1042 rfl dX8_scheduled_75 ?_
    refine x_bipush (v := (124 : Int32)) hF dX8_scheduled_78 (by decide) ?_
    refine x_iald (j := 124) hF sh76 (by decide) (by decide) (by decide) dX8_scheduled_80 ?_
    refine x_iconst (v := (2 : Int32)) hF dX8_scheduled_81 (by decide) ?_
    refine x_icmp_ne (tgt := 120) hF dX8_scheduled_82 (by decide) (fun hc => ?_) (fun hc => ?_)
    · have h := oi_neg hc h
      exact x_sub (xX8_scheduled_120 hF hN hR (K := fun v9 S9 => v9 = r ∧ S9 = S1) hret h hk) ⟨rfl, rfl, trivial⟩
    · have h := oi_pos hc h
      refine x_aload_n hF dX8_scheduled_85 rfl rfl ?_
      refine x_geti hF sh75 14 rfl ck7 (by decide) (by decide) tw_1056 rfl dX8_scheduled_86 ?_
      refine x_iconst (v := (1 : Int32)) hF dX8_scheduled_89 (by decide) ?_
      refine x_iadd hF dX8_scheduled_90 ?_
      refine x_bipush (v := (6 : Int32)) hF dX8_scheduled_91 (by decide) ?_
      refine x_irem hF dX8_scheduled_93 (by decide) ?_
      refine x_istore_n [(2, _), (1, _), (0, _)] hF hN dX8_scheduled_94 rfl (by decide) rfl ?_
      obtain ⟨b6, S7, hlb6, h⟩ := ob_some h
      refine x_sub (xX8_scheduled_95L hF hN hR (K := fun bb SS => bb = b6 ∧ SS = S7) ?_ hlb6 ⟨rfl, rfl⟩) ⟨rfl, rfl, trivial⟩
      rintro _ _ ⟨rfl, rfl⟩
      refine x_aload_n hF dX8_scheduled_114 rfl rfl ?_
      refine x_iload_n hF dX8_scheduled_115 rfl rfl ?_
      obtain ⟨r8, S9, hcall, h⟩ := ob_some h
      refine x_cVi hF hN hR (ctX8_firstOf hF.tr hcall) mwX8_firstOf miX8_firstOf sh75 ck7 (by decide) tw_1303 ⟨by decide, by decide⟩ rfl rfl (Nat.le_of_ble_eq_true rfl) dX8_scheduled_116 ?_
      refine x_istore_n [(1, _), (0, _), (2, _)] hF hN dX8_scheduled_119 rfl (by decide) rfl ?_
      exact x_sub (xX8_scheduled_120 hF hN hR (K := fun v9 S9 => v9 = r ∧ S9 = S1) hret h hk) ⟨rfl, rfl, trivial⟩
  · have h := oi_pos hc h
    refine x_bipush (v := (10 : Int32)) hF dX8_scheduled_13 (by decide) ?_
    refine x_istore_n [(2, _), (1, _), (0, _)] hF hN dX8_scheduled_15 rfl (by decide) rfl ?_
    refine x_iconst (v := (0 : Int32)) hF dX8_scheduled_16 (by decide) ?_
    refine x_istore_n [(3, _), (2, _), (1, _), (0, _)] hF hN dX8_scheduled_17 rfl (by decide) rfl ?_
    obtain ⟨b12, S13, hlb12, h⟩ := ob_some h
    refine x_sub (xX8_scheduled_18L hF hN hR (K := fun bb SS => bb = b12 ∧ SS = S13) ?_ hlb12 ⟨rfl, rfl⟩) ⟨rfl, rfl, rfl, rfl, trivial⟩
    rintro _ _ ⟨rfl, rfl⟩
    refine x_goto (tgt := 120) hF dX8_scheduled_71 (by decide) ?_
    exact x_sub (xX8_scheduled_120 hF hN hR (K := fun v9 S9 => v9 = r ∧ S9 = S1) hret h hk) ⟨rfl, rfl, trivial⟩
noncomputable def X8_chosen_2 (x1 : Int32) (S : St) : Option (((Int32) ⊕ (Int32 ⊕ Unit)) × St) :=
  oi ((gi S 75 10) ≤ x1) (some (.inr (.inr ()), S)) (og (inb x1 41) (ob (X8_isWhole (gi S 81 (ix x1)) S) (fun r1 S2 => oi (r1 = 0) (some (.inr (.inl x1), S2)) (some (.inl (x1 + (1 : Int32)), S2)))))
set_option maxHeartbeats 4000000 in
set_option maxRecDepth 20000 in
theorem xX8_chosen_2 {F : Cx} (hF : Ok F cX8_chosen RX8) (hN : nLF F 2) (hR : RmF F 3 0) {x1 : Int32} {K : ((Int32) ⊕ (Int32 ⊕ Unit)) → St → Prop} (hag : ∀ (a : Int32) (S : St), K (.inl a) S → X F 0 2 [(0, .ref (gA F 75)), (1, .int a)] [] S) (hex23 : ∀ (q : Int32) (S : St), K (.inr (.inl q)) S → X F 0 23 [(1, .int q)] [] S) (hex31 : ∀ (q : Unit) (S : St), K (.inr (.inr q)) S → X F 0 31 [(0, .ref (gA F 75))] [] S) {S : St} {r : (Int32) ⊕ (Int32 ⊕ Unit)} {S1 : St} (h : X8_chosen_2 x1 S = some (r, S1)) (hk : K r S1) : X F 0 2 [(0, .ref (gA F 75)), (1, .int x1)] [] S := by
  unfold X8_chosen_2 at h
  refine x_iload_n hF dX8_chosen_2 rfl rfl ?_
  refine x_aload_n hF dX8_chosen_3 rfl rfl ?_
  refine x_geti hF sh75 10 rfl ck7 (by decide) (by decide) tw_1052 rfl dX8_chosen_4 ?_
  refine x_icmp_ge (tgt := 31) hF dX8_chosen_7 (by decide) (fun hc => ?_) (fun hc => ?_)
  · have h := oi_pos hc h
    obtain ⟨rfl, rfl⟩ := sm h
    exact x_sub (hex31 _ _ hk) ⟨rfl, trivial⟩
  · have h := oi_neg hc h
    refine x_aload_n hF dX8_chosen_10 rfl rfl ?_
    refine x_aload_n hF dX8_chosen_11 rfl rfl ?_
    refine x_getr hF sh75 9 rfl ck7 (by decide) (by decide) tw_1051 rfl dX8_chosen_12 ?_
    refine x_iload_n hF dX8_chosen_15 rfl rfl ?_
    obtain ⟨hg, h⟩ := og_some h
    refine x_iald hF sh81 (by decide) hg rfl dX8_chosen_16 ?_
    obtain ⟨r1, S2, hcall, h⟩ := ob_some h
    refine x_cVi hF hN hR (ctX8_isWhole hF.tr hcall) mwX8_isWhole miX8_isWhole sh75 ck7 (by decide) tw_1263 ⟨by decide, by decide⟩ rfl rfl (Nat.le_of_ble_eq_true rfl) dX8_chosen_17 ?_
    refine x_if_ne (tgt := 25) hF dX8_chosen_20 (by decide) (fun hc => ?_) (fun hc => ?_)
    · have h := oi_neg hc h
      refine x_iinc [(1, _), (0, _)] (v := (1 : Int32)) hF hN dX8_chosen_25 rfl (by decide) (by decide) rfl ?_
      refine x_goto (tgt := 2) hF dX8_chosen_28 (by decide) ?_
      obtain ⟨rfl, rfl⟩ := sm h
      exact x_sub (hag _ _ hk) ⟨rfl, rfl, trivial⟩
    · have h := oi_pos hc h
      obtain ⟨rfl, rfl⟩ := sm h
      exact x_sub (hex23 _ _ hk) ⟨rfl, trivial⟩
noncomputable def X8_chosen_2L (a : Int32) (S : St) : Option ((Int32 ⊕ Unit) × St) :=
  lp (fun (a : Int32) (S : St) => X8_chosen_2 a S) a S
theorem xX8_chosen_2L {F : Cx} (hF : Ok F cX8_chosen RX8) (hN : nLF F 2) (hR : RmF F 3 0) {K : (Int32 ⊕ Unit) → St → Prop} (hex23 : ∀ (q : Int32) (S : St), K ((.inl q)) S → X F 0 23 [(1, .int q)] [] S) (hex31 : ∀ (q : Unit) (S : St), K ((.inr q)) S → X F 0 31 [(0, .ref (gA F 75))] [] S) {a : Int32} {S : St} {b : Int32 ⊕ Unit} {S1 : St} (h : X8_chosen_2L  a S = some (b, S1)) (hk : K b S1) : X F 0 2 [(0, .ref (gA F 75)), (1, .int a)] [] S := by
  unfold X8_chosen_2L at h
  exact lp_rule (Xh := fun (a : Int32) (S : St) => X F 0 2 [(0, .ref (gA F 75)), (1, .int a)] [] S) (K := K) (fun a S r S1 h hk => xX8_chosen_2 hF hN hR (K := fun r S => match r with | .inl a => X F 0 2 [(0, .ref (gA F 75)), (1, .int a)] [] S | .inr b => K b S) (fun _ _ h => h) (fun q S h => hex23 q S h) (fun q S h => hex31 q S h) h (by cases r <;> exact hk)) h hk
noncomputable def X8_chosen (S : St) : Option (Int32 × St) :=
  ob (X8_chosen_2L (0 : Int32) S) (fun b3 S4 => match b3 with | .inl q5 => some (q5, S4) | .inr q6 => ob (X8_scheduled  S4) (fun r7 S8 => some (r7, S8)))
set_option maxHeartbeats 4000000 in
set_option maxRecDepth 20000 in
theorem ctX8_chosen {l : Launch} {G : Ga} (hl : l.stackTraces = false) {S : St} {r : Int32} {S1 : St} (h : X8_chosen  S = some (r, S1)) : CT l G 3 yX8_chosen cX8_chosen 2 (some .int) [.ref (G.1 75)] S (some (.int r)) S1 := by
  refine ct_of hl (by decide) (Nat.le_of_ble_eq_true rfl) (fun F hFl hFG hF hN hR hret => ?_)
  subst hFl hFG
  show X F 0 0 [(0, .ref (gA F 75))] [] S
  have hret : ∀ (v : Int32) (S : St) (pc : Nat) (ls : List (Nat × Value)), (v = r ∧ S = S1) → decode cX8_chosen pc = .ok (.ireturn, 1) → X F 0 pc ls [.int v] S := fun v S2 pc ls hq hd => by obtain ⟨rfl, rfl⟩ := hq; exact hret.1 pc ls v rfl rfl hd
  have hk : r = r ∧ S1 = S1 := ⟨rfl, rfl⟩
  unfold X8_chosen at h
  refine x_iconst (v := (0 : Int32)) hF dX8_chosen_0 (by decide) ?_
  refine x_istore_n [(1, _), (0, _)] hF hN dX8_chosen_1 rfl (by decide) rfl ?_
  obtain ⟨b3, S4, hlb3, h⟩ := ob_some h
  refine x_sub (xX8_chosen_2L hF hN hR (K := fun bb SS => bb = b3 ∧ SS = S4) ?_ ?_ hlb3 ⟨rfl, rfl⟩) ⟨rfl, rfl, trivial⟩
  · rintro _ _ ⟨rfl, rfl⟩
    dsimp only at h
    refine x_iload_n hF dX8_chosen_23 rfl rfl ?_
    obtain ⟨rfl, rfl⟩ := sm h
    exact hret _ _ _ _ hk dX8_chosen_24
  · rintro _ _ ⟨rfl, rfl⟩
    dsimp only at h
    refine x_aload_n hF dX8_chosen_31 rfl rfl ?_
    obtain ⟨r7, S8, hcall, h⟩ := ob_some h
    refine x_cVi hF hN hR (ctX8_scheduled hF.tr hcall) mwX8_scheduled miX8_scheduled sh75 ck7 (by decide) tw_1299 ⟨by decide, by decide⟩ rfl rfl (Nat.le_of_ble_eq_true rfl) dX8_chosen_32 ?_
    obtain ⟨rfl, rfl⟩ := sm h
    exact hret _ _ _ _ hk dX8_chosen_35
noncomputable def X8_serves_54 (x1 : Int32) (x2 : Int32) (x3 : Int32) (x4 : Int32) (z0 : Int32) (S : St) : Option (((Int32) ⊕ Unit) × St) :=
  og (inb x4 40) (og (inb x4 40) (ol (si S 82 (ix x4) ((gi S 82 (ix x4)) - z0)) (fun T3 => ol (si T3 75 12 ((gi T3 75 12) - z0)) (fun T4 => og (inb x4 40) (oi ((gi T4 82 (ix x4)) = 0) (ob (X8_leaves x3 T4) (fun r5 S6 => og (inb x4 40) (ol (si S6 78 (ix x4) x1) (fun T7 => some (.inl (x2 - z0), T7))))) (some (.inl (x2 - z0), T4)))))))
set_option maxHeartbeats 4000000 in
set_option maxRecDepth 20000 in
theorem xX8_serves_54 {F : Cx} (hF : Ok F cX8_serves RX8) (hN : nLF F 6) (hR : RmF F 4 0) {x1 : Int32} {x2 : Int32} {x3 : Int32} {x4 : Int32} {z0 : Int32} {K : ((Int32) ⊕ Unit) → St → Prop} (hag : ∀ (a : Int32) (S : St), K (.inl a) S → X F 0 8 [(0, .ref (gA F 75)), (1, .int x1), (2, .int a)] [] S) (hex110 : ∀ (q : Unit) (S : St), K (.inr q) S → X F 0 110 [] [] S) {S : St} {r : (Int32) ⊕ Unit} {S1 : St} (h : X8_serves_54 x1 x2 x3 x4 z0 S = some (r, S1)) (hk : K r S1) : X F 0 54 [(0, .ref (gA F 75)), (1, .int x1), (2, .int x2), (3, .int x3), (4, .int x4)] [.int z0] S := by
  unfold X8_serves_54 at h
  refine x_istore [(5, _), (0, _), (1, _), (2, _), (3, _), (4, _)] hF hN dX8_serves_54 (by decide) rfl ?_
  refine x_aload_n hF dX8_serves_56 rfl rfl ?_
  refine x_getr hF sh75 11 rfl ck7 (by decide) (by decide) tw_1053 rfl dX8_serves_57 ?_
  refine x_iload hF dX8_serves_60 rfl ?_
  refine x_dup2 hF dX8_serves_62 rfl rfl ?_
  obtain ⟨hg, h⟩ := og_some h
  refine x_iald hF sh82 (by decide) hg rfl dX8_serves_63 ?_
  refine x_iload hF dX8_serves_64 rfl ?_
  refine x_isub hF dX8_serves_66 ?_
  obtain ⟨hg, h⟩ := og_some h
  obtain ⟨T3, eT3, h⟩ := ol_some h
  refine x_iast hF sh82 (by decide) hg rfl eT3 dX8_serves_67 ?_
  refine x_iload_n hF dX8_serves_68 rfl rfl ?_
  refine x_iload hF dX8_serves_69 rfl ?_
  refine x_isub hF dX8_serves_71 ?_
  refine x_istore_n [(2, _), (5, _), (0, _), (1, _), (3, _), (4, _)] hF hN dX8_serves_72 rfl (by decide) rfl ?_
  refine x_aload_n hF dX8_serves_73 rfl rfl ?_
  refine x_dup hF dX8_serves_74 rfl ?_
  refine x_geti hF sh75 12 rfl ck7 (by decide) (by decide) tw_1054 rfl dX8_serves_75 ?_
  refine x_iload hF dX8_serves_78 rfl ?_
  refine x_isub hF dX8_serves_80 ?_
  obtain ⟨T4, eT4, h⟩ := ol_some h
  refine x_puti hF sh75 12 rfl ck7 (by decide) (by decide) tw_1054 rfl rfl rfl rfl rfl eT4 dX8_serves_81 ?_
  refine x_aload_n hF dX8_serves_84 rfl rfl ?_
  refine x_getr hF sh75 11 rfl ck7 (by decide) (by decide) tw_1053 rfl dX8_serves_85 ?_
  refine x_iload hF dX8_serves_88 rfl ?_
  obtain ⟨hg, h⟩ := og_some h
  refine x_iald hF sh82 (by decide) hg rfl dX8_serves_90 ?_
  refine x_if_ne (tgt := 107) hF dX8_serves_91 (by decide) (fun hc => ?_) (fun hc => ?_)
  · have h := oi_neg hc h
    refine x_goto (tgt := 8) hF dX8_serves_107 (by decide) ?_
    obtain ⟨rfl, rfl⟩ := sm h
    exact x_sub (hag _ _ hk) ⟨rfl, rfl, rfl, trivial⟩
  · have h := oi_pos hc h
    refine x_aload_n hF dX8_serves_94 rfl rfl ?_
    refine x_iload_n hF dX8_serves_95 rfl rfl ?_
    obtain ⟨r5, S6, hcall, h⟩ := ob_some h
    refine x_cVv hF hN hR (ctX8_leaves hF.tr hcall) mwX8_leaves miX8_leaves sh75 ck7 (by decide) tw_1279 ⟨by decide, by decide⟩ rfl rfl (Nat.le_of_ble_eq_true rfl) dX8_serves_96 ?_
    refine x_aload_n hF dX8_serves_99 rfl rfl ?_
    refine x_getr hF sh75 4 rfl ck7 (by decide) (by decide) tw_1046 rfl dX8_serves_100 ?_
    refine x_iload hF dX8_serves_103 rfl ?_
    refine x_iload_n hF dX8_serves_105 rfl rfl ?_
    obtain ⟨hg, h⟩ := og_some h
    obtain ⟨T7, eT7, h⟩ := ol_some h
    refine x_iast hF sh78 (by decide) hg rfl eT7 dX8_serves_106 ?_
    refine x_goto (tgt := 8) hF dX8_serves_107 (by decide) ?_
    obtain ⟨rfl, rfl⟩ := sm h
    exact x_sub (hag _ _ hk) ⟨rfl, rfl, rfl, trivial⟩
noncomputable def X8_serves_8 (x1 : Int32) (x2 : Int32) (S : St) : Option (((Int32) ⊕ Unit) × St) :=
  oi (x2 ≤ 0) (some (.inr (), S)) (oi ((gi S 75 10) ≤ 0) (some (.inr (), S)) (ob (X8_chosen  S) (fun r1 S2 => og (inb r1 41) (og (inb (gi S2 81 (ix r1)) 40) (oi (x2 ≤ (gi S2 82 (ix (gi S2 81 (ix r1))))) (X8_serves_54 x1 x2 r1 (gi S2 81 (ix r1)) x2 S2) (og (inb (gi S2 81 (ix r1)) 40) (X8_serves_54 x1 x2 r1 (gi S2 81 (ix r1)) (gi S2 82 (ix (gi S2 81 (ix r1)))) S2)))))))
set_option maxHeartbeats 4000000 in
set_option maxRecDepth 20000 in
theorem xX8_serves_8 {F : Cx} (hF : Ok F cX8_serves RX8) (hN : nLF F 6) (hR : RmF F 4 0) {x1 : Int32} {x2 : Int32} {K : ((Int32) ⊕ Unit) → St → Prop} (hag : ∀ (a : Int32) (S : St), K (.inl a) S → X F 0 8 [(0, .ref (gA F 75)), (1, .int x1), (2, .int a)] [] S) (hex110 : ∀ (q : Unit) (S : St), K (.inr q) S → X F 0 110 [] [] S) {S : St} {r : (Int32) ⊕ Unit} {S1 : St} (h : X8_serves_8 x1 x2 S = some (r, S1)) (hk : K r S1) : X F 0 8 [(0, .ref (gA F 75)), (1, .int x1), (2, .int x2)] [] S := by
  unfold X8_serves_8 at h
  refine x_iload_n hF dX8_serves_8 rfl rfl ?_
  refine x_if_le (tgt := 110) hF dX8_serves_9 (by decide) (fun hc => ?_) (fun hc => ?_)
  · have h := oi_pos hc h
    obtain ⟨rfl, rfl⟩ := sm h
    exact x_sub (hex110 _ _ hk) trivial
  · have h := oi_neg hc h
    refine x_aload_n hF dX8_serves_12 rfl rfl ?_
    refine x_geti hF sh75 10 rfl ck7 (by decide) (by decide) tw_1052 rfl dX8_serves_13 ?_
    refine x_if_le (tgt := 110) hF dX8_serves_16 (by decide) (fun hc => ?_) (fun hc => ?_)
    · have h := oi_pos hc h
      obtain ⟨rfl, rfl⟩ := sm h
      exact x_sub (hex110 _ _ hk) trivial
    · have h := oi_neg hc h
      refine x_aload_n hF dX8_serves_19 rfl rfl ?_
      obtain ⟨r1, S2, hcall, h⟩ := ob_some h
      refine x_cVi hF hN hR (ctX8_chosen hF.tr hcall) mwX8_chosen miX8_chosen sh75 ck7 (by decide) tw_1295 ⟨by decide, by decide⟩ rfl rfl (Nat.le_of_ble_eq_true rfl) dX8_serves_20 ?_
      refine x_istore_n [(3, _), (0, _), (1, _), (2, _)] hF hN dX8_serves_23 rfl (by decide) rfl ?_
      refine x_aload_n hF dX8_serves_24 rfl rfl ?_
      refine x_getr hF sh75 9 rfl ck7 (by decide) (by decide) tw_1051 rfl dX8_serves_25 ?_
      refine x_iload_n hF dX8_serves_28 rfl rfl ?_
      obtain ⟨hg, h⟩ := og_some h
      refine x_iald hF sh81 (by decide) hg rfl dX8_serves_29 ?_
      refine x_istore [(4, _), (3, _), (0, _), (1, _), (2, _)] hF hN dX8_serves_30 (by decide) rfl ?_
      refine x_aload_n hF dX8_serves_32 rfl rfl ?_
      refine x_getr hF sh75 11 rfl ck7 (by decide) (by decide) tw_1053 rfl dX8_serves_33 ?_
      refine x_iload hF dX8_serves_36 rfl ?_
      obtain ⟨hg, h⟩ := og_some h
      refine x_iald hF sh82 (by decide) hg rfl dX8_serves_38 ?_
      refine x_iload_n hF dX8_serves_39 rfl rfl ?_
      refine x_icmp_ge (tgt := 53) hF dX8_serves_40 (by decide) (fun hc => ?_) (fun hc => ?_)
      · have h := oi_pos hc h
        refine x_iload_n hF dX8_serves_53 rfl rfl ?_
        exact x_sub (xX8_serves_54 hF hN hR (K := K) hag hex110 h hk) ⟨rfl, rfl, rfl, rfl, rfl, trivial⟩
      · have h := oi_neg hc h
        refine x_aload_n hF dX8_serves_43 rfl rfl ?_
        refine x_getr hF sh75 11 rfl ck7 (by decide) (by decide) tw_1053 rfl dX8_serves_44 ?_
        refine x_iload hF dX8_serves_47 rfl ?_
        obtain ⟨hg, h⟩ := og_some h
        refine x_iald hF sh82 (by decide) hg rfl dX8_serves_49 ?_
        refine x_goto (tgt := 54) hF dX8_serves_50 (by decide) ?_
        exact x_sub (xX8_serves_54 hF hN hR (K := K) hag hex110 h hk) ⟨rfl, rfl, rfl, rfl, rfl, trivial⟩
noncomputable def X8_serves_8L (x1 : Int32) (a : Int32) (S : St) : Option (Unit × St) :=
  lp (fun (a : Int32) (S : St) => X8_serves_8 x1 a S) a S
theorem xX8_serves_8L {F : Cx} (hF : Ok F cX8_serves RX8) (hN : nLF F 6) (hR : RmF F 4 0) {x1 : Int32} {K : Unit → St → Prop} (hex110 : ∀ (q : Unit) (S : St), K (q) S → X F 0 110 [] [] S) {a : Int32} {S : St} {b : Unit} {S1 : St} (h : X8_serves_8L x1 a S = some (b, S1)) (hk : K b S1) : X F 0 8 [(0, .ref (gA F 75)), (1, .int x1), (2, .int a)] [] S := by
  unfold X8_serves_8L at h
  exact lp_rule (Xh := fun (a : Int32) (S : St) => X F 0 8 [(0, .ref (gA F 75)), (1, .int x1), (2, .int a)] [] S) (K := K) (fun a S r S1 h hk => xX8_serves_8 hF hN hR (K := fun r S => match r with | .inl a => X F 0 8 [(0, .ref (gA F 75)), (1, .int x1), (2, .int a)] [] S | .inr b => K b S) (fun _ _ h => h) (fun q S h => hex110 q S h) h (by cases r <;> exact hk)) h hk
noncomputable def X8_serves (x1 : Int32) (S : St) : Option (Unit × St) :=
  ob (X8_serves_8L x1 (gi S 76 122) S) (fun b8 S9 => some ((), S9))
set_option maxHeartbeats 4000000 in
set_option maxRecDepth 20000 in
theorem ctX8_serves {l : Launch} {G : Ga} {x1 : Int32} (hl : l.stackTraces = false) {S : St} {r : Unit} {S1 : St} (h : X8_serves x1 S = some (r, S1)) : CT l G 4 yX8_serves cX8_serves 6 none [.ref (G.1 75), .int x1] S none S1 := by
  refine ct_of hl (by decide) (Nat.le_of_ble_eq_true rfl) (fun F hFl hFG hF hN hR hret => ?_)
  subst hFl hFG
  show X F 0 0 [(0, .ref (gA F 75)), (1, .int x1)] [] S
  have hret : ∀ (v : Unit) (S : St) (pc : Nat) (ls : List (Nat × Value)), (v = r ∧ S = S1) → decode cX8_serves pc = .ok (.return_, 1) → X F 0 pc ls [] S := fun v S2 pc ls hq hd => by obtain ⟨rfl, rfl⟩ := hq; exact hret.2.2.2.2.1 pc ls rfl rfl hd
  have hk : r = r ∧ S1 = S1 := ⟨rfl, rfl⟩
  unfold X8_serves at h
  refine x_aload_n hF dX8_serves_0 rfl rfl ?_
  refine x_getr hF sh75 0 rfl ck7 (by decide) (by decide) tw_1042 rfl dX8_serves_1 ?_
  refine x_bipush (v := (122 : Int32)) hF dX8_serves_4 (by decide) ?_
  refine x_iald (j := 122) hF sh76 (by decide) (by decide) (by decide) dX8_serves_6 ?_
  refine x_istore_n [(2, _), (0, _), (1, _)] hF hN dX8_serves_7 rfl (by decide) rfl ?_
  obtain ⟨b8, S9, hlb8, h⟩ := ob_some h
  refine x_sub (xX8_serves_8L hF hN hR (K := fun bb SS => bb = b8 ∧ SS = S9) ?_ hlb8 ⟨rfl, rfl⟩) ⟨rfl, rfl, rfl, trivial⟩
  rintro _ _ ⟨_, rfl⟩
  obtain ⟨rfl, rfl⟩ := sm h
  exact hret _ _ _ _ hk dX8_serves_110
noncomputable def X8_replays_34 (x1 : Int32) (x2 : Int32) (x3 : Int32) (S : St) : Option (((Int32 × Int32) ⊕ Int32) × St) :=
  oi ((gi S 76 0) ≤ x3) (some (.inr x2, S)) (og (inb x3 40) (ol (si S 78 (ix x3) (-3 : Int32)) (fun T7 => ob (X8_of x3 (1 : Int32) T7) (fun r8 S9 => oi (((x1 >>> (r8 &&& 31)) &&& (1 : Int32)) = (1 : Int32)) (some (.inl (x3, (x3 + (1 : Int32))), S9)) (some (.inl (x2, (x3 + (1 : Int32))), S9))))))
set_option maxHeartbeats 4000000 in
set_option maxRecDepth 20000 in
theorem xX8_replays_34 {F : Cx} (hF : Ok F cX8_replays RX8) (hN : nLF F 4) (hR : RmF F 6 0) {x1 : Int32} {x2 : Int32} {x3 : Int32} {K : ((Int32 × Int32) ⊕ Int32) → St → Prop} (hag : ∀ (a : Int32 × Int32) (S : St), K (.inl a) S → X F 0 34 [(0, .ref (gA F 75)), (1, .int x1), (2, .int a.1), (3, .int a.2)] [] S) (hex78 : ∀ (q : Int32) (S : St), K (.inr q) S → X F 0 78 [(0, .ref (gA F 75)), (1, .int x1), (2, .int q)] [] S) {S : St} {r : (Int32 × Int32) ⊕ Int32} {S1 : St} (h : X8_replays_34 x1 x2 x3 S = some (r, S1)) (hk : K r S1) : X F 0 34 [(0, .ref (gA F 75)), (1, .int x1), (2, .int x2), (3, .int x3)] [] S := by
  unfold X8_replays_34 at h
  refine x_iload_n hF dX8_replays_34 rfl rfl ?_
  refine x_aload_n hF dX8_replays_35 rfl rfl ?_
  refine x_getr hF sh75 0 rfl ck7 (by decide) (by decide) tw_1042 rfl dX8_replays_36 ?_
  refine x_iconst (v := (0 : Int32)) hF dX8_replays_39 (by decide) ?_
  refine x_iald (j := 0) hF sh76 (by decide) (by decide) (by decide) dX8_replays_40 ?_
  refine x_icmp_ge (tgt := 78) hF dX8_replays_41 (by decide) (fun hc => ?_) (fun hc => ?_)
  · have h := oi_pos hc h
    obtain ⟨rfl, rfl⟩ := sm h
    exact x_sub (hex78 _ _ hk) ⟨rfl, rfl, rfl, trivial⟩
  · have h := oi_neg hc h
    refine x_aload_n hF dX8_replays_44 rfl rfl ?_
    refine x_getr hF sh75 4 rfl ck7 (by decide) (by decide) tw_1046 rfl dX8_replays_45 ?_
    refine x_iload_n hF dX8_replays_48 rfl rfl ?_
    refine x_bipush (v := (-3 : Int32)) hF dX8_replays_49 (by decide) ?_
    obtain ⟨hg, h⟩ := og_some h
    obtain ⟨T7, eT7, h⟩ := ol_some h
    refine x_iast hF sh78 (by decide) hg rfl eT7 dX8_replays_51 ?_
    refine x_iload_n hF dX8_replays_52 rfl rfl ?_
    refine x_aload_n hF dX8_replays_53 rfl rfl ?_
    refine x_iload_n hF dX8_replays_54 rfl rfl ?_
    refine x_iconst (v := (1 : Int32)) hF dX8_replays_55 (by decide) ?_
    obtain ⟨r8, S9, hcall, h⟩ := ob_some h
    refine x_cVi hF hN hR (ctX8_of hF.tr hcall) mwX8_of miX8_of sh75 ck7 (by decide) tw_1166 ⟨by decide, by decide⟩ rfl rfl (Nat.le_of_ble_eq_true rfl) dX8_replays_56 ?_
    refine x_ishr hF dX8_replays_59 ?_
    refine x_iconst (v := (1 : Int32)) hF dX8_replays_60 (by decide) ?_
    refine x_iand hF dX8_replays_61 ?_
    refine x_iconst (v := (1 : Int32)) hF dX8_replays_62 (by decide) ?_
    refine x_icmp_ne (tgt := 70) hF dX8_replays_63 (by decide) (fun hc => ?_) (fun hc => ?_)
    · have h := oi_neg hc h
      refine x_iload_n hF dX8_replays_70 rfl rfl ?_
      refine x_istore_n [(2, _), (0, _), (1, _), (3, _)] hF hN dX8_replays_71 rfl (by decide) rfl ?_
      refine x_iinc [(3, _), (2, _), (0, _), (1, _)] (v := (1 : Int32)) hF hN dX8_replays_72 rfl (by decide) (by decide) rfl ?_
      refine x_goto (tgt := 34) hF dX8_replays_75 (by decide) ?_
      obtain ⟨rfl, rfl⟩ := sm h
      exact x_sub (hag _ _ hk) ⟨rfl, rfl, rfl, rfl, trivial⟩
    · have h := oi_pos hc h
      refine x_iload_n hF dX8_replays_66 rfl rfl ?_
      refine x_goto (tgt := 71) hF dX8_replays_67 (by decide) ?_
      refine x_istore_n [(2, _), (0, _), (1, _), (3, _)] hF hN dX8_replays_71 rfl (by decide) rfl ?_
      refine x_iinc [(3, _), (2, _), (0, _), (1, _)] (v := (1 : Int32)) hF hN dX8_replays_72 rfl (by decide) (by decide) rfl ?_
      refine x_goto (tgt := 34) hF dX8_replays_75 (by decide) ?_
      obtain ⟨rfl, rfl⟩ := sm h
      exact x_sub (hag _ _ hk) ⟨rfl, rfl, rfl, rfl, trivial⟩
noncomputable def X8_replays_34L (x1 : Int32) (a : Int32 × Int32) (S : St) : Option (Int32 × St) :=
  lp (fun (a : Int32 × Int32) (S : St) => X8_replays_34 x1 a.1 a.2 S) a S
theorem xX8_replays_34L {F : Cx} (hF : Ok F cX8_replays RX8) (hN : nLF F 4) (hR : RmF F 6 0) {x1 : Int32} {K : Int32 → St → Prop} (hex78 : ∀ (q : Int32) (S : St), K (q) S → X F 0 78 [(0, .ref (gA F 75)), (1, .int x1), (2, .int q)] [] S) {a : Int32 × Int32} {S : St} {b : Int32} {S1 : St} (h : X8_replays_34L x1 a S = some (b, S1)) (hk : K b S1) : X F 0 34 [(0, .ref (gA F 75)), (1, .int x1), (2, .int a.1), (3, .int a.2)] [] S := by
  unfold X8_replays_34L at h
  exact lp_rule (Xh := fun (a : Int32 × Int32) (S : St) => X F 0 34 [(0, .ref (gA F 75)), (1, .int x1), (2, .int a.1), (3, .int a.2)] [] S) (K := K) (fun a S r S1 h hk => xX8_replays_34 hF hN hR (K := fun r S => match r with | .inl a => X F 0 34 [(0, .ref (gA F 75)), (1, .int x1), (2, .int a.1), (3, .int a.2)] [] S | .inr b => K b S) (fun _ _ h => h) (fun q S h => hex78 q S h) h (by cases r <;> exact hk)) h hk
noncomputable def X8_replays_92 (x1 : Int32) (x2 : Int32) (x3 : Int32) (S : St) : Option (((Int32) ⊕ Int32) × St) :=
  oi (x2 < x3) (some (.inr x3, S)) (ob (X8_of x3 (0 : Int32) S) (fun r12 S13 => oi (r12 = (gi S13 75 8)) (ob (X8_of x3 (1 : Int32) S13) (fun r14 S15 => oi (((x1 >>> (r14 &&& 31)) &&& (1 : Int32)) = (1 : Int32)) (ob (X8_arrives x3 S15) (fun r16 S17 => some (.inl (x3 + (1 : Int32)), S17))) (some (.inl (x3 + (1 : Int32)), S15)))) (some (.inr x3, S13))))
set_option maxHeartbeats 4000000 in
set_option maxRecDepth 20000 in
theorem xX8_replays_92 {F : Cx} (hF : Ok F cX8_replays RX8) (hN : nLF F 4) (hR : RmF F 6 0) {x1 : Int32} {x2 : Int32} {x3 : Int32} {K : ((Int32) ⊕ Int32) → St → Prop} (hag : ∀ (a : Int32) (S : St), K (.inl a) S → X F 0 92 [(0, .ref (gA F 75)), (1, .int x1), (2, .int x2), (3, .int a)] [] S) (hex135 : ∀ (q : Int32) (S : St), K (.inr q) S → X F 0 135 [(0, .ref (gA F 75)), (1, .int x1), (2, .int x2), (3, .int q)] [] S) {S : St} {r : (Int32) ⊕ Int32} {S1 : St} (h : X8_replays_92 x1 x2 x3 S = some (r, S1)) (hk : K r S1) : X F 0 92 [(0, .ref (gA F 75)), (1, .int x1), (2, .int x2), (3, .int x3)] [] S := by
  unfold X8_replays_92 at h
  refine x_iload_n hF dX8_replays_92 rfl rfl ?_
  refine x_iload_n hF dX8_replays_93 rfl rfl ?_
  refine x_icmp_gt (tgt := 135) hF dX8_replays_94 (by decide) (fun hc => ?_) (fun hc => ?_)
  · have h := oi_pos hc h
    obtain ⟨rfl, rfl⟩ := sm h
    exact x_sub (hex135 _ _ hk) ⟨rfl, rfl, rfl, rfl, trivial⟩
  · have h := oi_neg hc h
    refine x_aload_n hF dX8_replays_97 rfl rfl ?_
    refine x_iload_n hF dX8_replays_98 rfl rfl ?_
    refine x_iconst (v := (0 : Int32)) hF dX8_replays_99 (by decide) ?_
    obtain ⟨r12, S13, hcall, h⟩ := ob_some h
    refine x_cVi hF hN hR (ctX8_of hF.tr hcall) mwX8_of miX8_of sh75 ck7 (by decide) tw_1166 ⟨by decide, by decide⟩ rfl rfl (Nat.le_of_ble_eq_true rfl) dX8_replays_100 ?_
    refine x_aload_n hF dX8_replays_103 rfl rfl ?_
    refine x_geti hF sh75 8 rfl ck7 (by decide) (by decide) tw_1050 rfl dX8_replays_104 ?_
    refine x_icmp_ne (tgt := 135) hF dX8_replays_107 (by decide) (fun hc => ?_) (fun hc => ?_)
    · have h := oi_neg hc h
      obtain ⟨rfl, rfl⟩ := sm h
      exact x_sub (hex135 _ _ hk) ⟨rfl, rfl, rfl, rfl, trivial⟩
    · have h := oi_pos hc h
      refine x_iload_n hF dX8_replays_110 rfl rfl ?_
      refine x_aload_n hF dX8_replays_111 rfl rfl ?_
      refine x_iload_n hF dX8_replays_112 rfl rfl ?_
      refine x_iconst (v := (1 : Int32)) hF dX8_replays_113 (by decide) ?_
      obtain ⟨r14, S15, hcall, h⟩ := ob_some h
      refine x_cVi hF hN hR (ctX8_of hF.tr hcall) mwX8_of miX8_of sh75 ck7 (by decide) tw_1166 ⟨by decide, by decide⟩ rfl rfl (Nat.le_of_ble_eq_true rfl) dX8_replays_114 ?_
      refine x_ishr hF dX8_replays_117 ?_
      refine x_iconst (v := (1 : Int32)) hF dX8_replays_118 (by decide) ?_
      refine x_iand hF dX8_replays_119 ?_
      refine x_iconst (v := (1 : Int32)) hF dX8_replays_120 (by decide) ?_
      refine x_icmp_ne (tgt := 129) hF dX8_replays_121 (by decide) (fun hc => ?_) (fun hc => ?_)
      · have h := oi_neg hc h
        refine x_iinc [(3, _), (0, _), (1, _), (2, _)] (v := (1 : Int32)) hF hN dX8_replays_129 rfl (by decide) (by decide) rfl ?_
        refine x_goto (tgt := 92) hF dX8_replays_132 (by decide) ?_
        obtain ⟨rfl, rfl⟩ := sm h
        exact x_sub (hag _ _ hk) ⟨rfl, rfl, rfl, rfl, trivial⟩
      · have h := oi_pos hc h
        refine x_aload_n hF dX8_replays_124 rfl rfl ?_
        refine x_iload_n hF dX8_replays_125 rfl rfl ?_
        obtain ⟨r16, S17, hcall, h⟩ := ob_some h
        refine x_cVv hF hN hR (ctX8_arrives hF.tr hcall) mwX8_arrives miX8_arrives sh75 ck7 (by decide) tw_1247 ⟨by decide, by decide⟩ rfl rfl (Nat.le_of_ble_eq_true rfl) dX8_replays_126 ?_
        refine x_iinc [(3, _), (0, _), (1, _), (2, _)] (v := (1 : Int32)) hF hN dX8_replays_129 rfl (by decide) (by decide) rfl ?_
        refine x_goto (tgt := 92) hF dX8_replays_132 (by decide) ?_
        obtain ⟨rfl, rfl⟩ := sm h
        exact x_sub (hag _ _ hk) ⟨rfl, rfl, rfl, rfl, trivial⟩
noncomputable def X8_replays_92L (x1 : Int32) (x2 : Int32) (a : Int32) (S : St) : Option (Int32 × St) :=
  lp (fun (a : Int32) (S : St) => X8_replays_92 x1 x2 a S) a S
theorem xX8_replays_92L {F : Cx} (hF : Ok F cX8_replays RX8) (hN : nLF F 4) (hR : RmF F 6 0) {x1 : Int32} {x2 : Int32} {K : Int32 → St → Prop} (hex135 : ∀ (q : Int32) (S : St), K (q) S → X F 0 135 [(0, .ref (gA F 75)), (1, .int x1), (2, .int x2), (3, .int q)] [] S) {a : Int32} {S : St} {b : Int32} {S1 : St} (h : X8_replays_92L x1 x2 a S = some (b, S1)) (hk : K b S1) : X F 0 92 [(0, .ref (gA F 75)), (1, .int x1), (2, .int x2), (3, .int a)] [] S := by
  unfold X8_replays_92L at h
  exact lp_rule (Xh := fun (a : Int32) (S : St) => X F 0 92 [(0, .ref (gA F 75)), (1, .int x1), (2, .int x2), (3, .int a)] [] S) (K := K) (fun a S r S1 h hk => xX8_replays_92 hF hN hR (K := fun r S => match r with | .inl a => X F 0 92 [(0, .ref (gA F 75)), (1, .int x1), (2, .int x2), (3, .int a)] [] S | .inr b => K b S) (fun _ _ h => h) (fun q S h => hex135 q S h) h (by cases r <;> exact hk)) h hk
noncomputable def X8_replays_80 (x1 : Int32) (x2 : Int32) (x3 : Int32) (S : St) : Option (((Int32) ⊕ Unit) × St) :=
  oi (x3 ≤ x2) (ob (X8_replays_92L x1 x2 x3 S) (fun b18 S19 => ob (X8_serves (gi S19 75 8) S19) (fun r20 S21 => og (inb (gi S21 75 8) 4700) (ol (si S21 80 (ix (gi S21 75 8)) (gi S21 75 12)) (fun T22 => ol (si T22 75 8 ((gi T22 75 8) + (1 : Int32))) (fun T23 => some (.inl b18, T23))))))) (oi ((gi S 75 10) ≤ 0) (some (.inr (), S)) (ob (X8_replays_92L x1 x2 x3 S) (fun b24 S25 => ob (X8_serves (gi S25 75 8) S25) (fun r26 S27 => og (inb (gi S27 75 8) 4700) (ol (si S27 80 (ix (gi S27 75 8)) (gi S27 75 12)) (fun T28 => ol (si T28 75 8 ((gi T28 75 8) + (1 : Int32))) (fun T29 => some (.inl b24, T29))))))))
set_option maxHeartbeats 4000000 in
set_option maxRecDepth 20000 in
theorem xX8_replays_80 {F : Cx} (hF : Ok F cX8_replays RX8) (hN : nLF F 4) (hR : RmF F 6 0) {x1 : Int32} {x2 : Int32} {x3 : Int32} {K : ((Int32) ⊕ Unit) → St → Prop} (hag : ∀ (a : Int32) (S : St), K (.inl a) S → X F 0 80 [(0, .ref (gA F 75)), (1, .int x1), (2, .int x2), (3, .int a)] [] S) (hex169 : ∀ (q : Unit) (S : St), K (.inr q) S → X F 0 169 [] [] S) {S : St} {r : (Int32) ⊕ Unit} {S1 : St} (h : X8_replays_80 x1 x2 x3 S = some (r, S1)) (hk : K r S1) : X F 0 80 [(0, .ref (gA F 75)), (1, .int x1), (2, .int x2), (3, .int x3)] [] S := by
  unfold X8_replays_80 at h
  refine x_iload_n hF dX8_replays_80 rfl rfl ?_
  refine x_iload_n hF dX8_replays_81 rfl rfl ?_
  refine x_icmp_le (tgt := 92) hF dX8_replays_82 (by decide) (fun hc => ?_) (fun hc => ?_)
  · have h := oi_pos hc h
    obtain ⟨b18, S19, hlb18, h⟩ := ob_some h
    refine x_sub (xX8_replays_92L hF hN hR (K := fun bb SS => bb = b18 ∧ SS = S19) ?_ hlb18 ⟨rfl, rfl⟩) ⟨rfl, rfl, rfl, rfl, trivial⟩
    rintro _ _ ⟨rfl, rfl⟩
    refine x_aload_n hF dX8_replays_135 rfl rfl ?_
    refine x_aload_n hF dX8_replays_136 rfl rfl ?_
    refine x_geti hF sh75 8 rfl ck7 (by decide) (by decide) tw_1050 rfl dX8_replays_137 ?_
    obtain ⟨r20, S21, hcall, h⟩ := ob_some h
    refine x_cVv hF hN hR (ctX8_serves hF.tr hcall) mwX8_serves miX8_serves sh75 ck7 (by decide) tw_1291 ⟨by decide, by decide⟩ rfl rfl (Nat.le_of_ble_eq_true rfl) dX8_replays_140 ?_
    refine x_aload_n hF dX8_replays_143 rfl rfl ?_
    refine x_getr hF sh75 7 rfl ck7 (by decide) (by decide) tw_1049 rfl dX8_replays_144 ?_
    refine x_aload_n hF dX8_replays_147 rfl rfl ?_
    refine x_geti hF sh75 8 rfl ck7 (by decide) (by decide) tw_1050 rfl dX8_replays_148 ?_
    refine x_aload_n hF dX8_replays_151 rfl rfl ?_
    refine x_geti hF sh75 12 rfl ck7 (by decide) (by decide) tw_1054 rfl dX8_replays_152 ?_
    obtain ⟨hg, h⟩ := og_some h
    obtain ⟨T22, eT22, h⟩ := ol_some h
    refine x_iast hF sh80 (by decide) hg rfl eT22 dX8_replays_155 ?_
    refine x_aload_n hF dX8_replays_156 rfl rfl ?_
    refine x_dup hF dX8_replays_157 rfl ?_
    refine x_geti hF sh75 8 rfl ck7 (by decide) (by decide) tw_1050 rfl dX8_replays_158 ?_
    refine x_iconst (v := (1 : Int32)) hF dX8_replays_161 (by decide) ?_
    refine x_iadd hF dX8_replays_162 ?_
    obtain ⟨T23, eT23, h⟩ := ol_some h
    refine x_puti hF sh75 8 rfl ck7 (by decide) (by decide) tw_1050 rfl rfl rfl rfl rfl eT23 dX8_replays_163 ?_
    refine x_goto (tgt := 80) hF dX8_replays_166 (by decide) ?_
    obtain ⟨rfl, rfl⟩ := sm h
    exact x_sub (hag _ _ hk) ⟨rfl, rfl, rfl, rfl, trivial⟩
  · have h := oi_neg hc h
    refine x_aload_n hF dX8_replays_85 rfl rfl ?_
    refine x_geti hF sh75 10 rfl ck7 (by decide) (by decide) tw_1052 rfl dX8_replays_86 ?_
    refine x_if_le (tgt := 169) hF dX8_replays_89 (by decide) (fun hc => ?_) (fun hc => ?_)
    · have h := oi_pos hc h
      obtain ⟨rfl, rfl⟩ := sm h
      exact x_sub (hex169 _ _ hk) trivial
    · have h := oi_neg hc h
      obtain ⟨b24, S25, hlb24, h⟩ := ob_some h
      refine x_sub (xX8_replays_92L hF hN hR (K := fun bb SS => bb = b24 ∧ SS = S25) ?_ hlb24 ⟨rfl, rfl⟩) ⟨rfl, rfl, rfl, rfl, trivial⟩
      rintro _ _ ⟨rfl, rfl⟩
      refine x_aload_n hF dX8_replays_135 rfl rfl ?_
      refine x_aload_n hF dX8_replays_136 rfl rfl ?_
      refine x_geti hF sh75 8 rfl ck7 (by decide) (by decide) tw_1050 rfl dX8_replays_137 ?_
      obtain ⟨r26, S27, hcall, h⟩ := ob_some h
      refine x_cVv hF hN hR (ctX8_serves hF.tr hcall) mwX8_serves miX8_serves sh75 ck7 (by decide) tw_1291 ⟨by decide, by decide⟩ rfl rfl (Nat.le_of_ble_eq_true rfl) dX8_replays_140 ?_
      refine x_aload_n hF dX8_replays_143 rfl rfl ?_
      refine x_getr hF sh75 7 rfl ck7 (by decide) (by decide) tw_1049 rfl dX8_replays_144 ?_
      refine x_aload_n hF dX8_replays_147 rfl rfl ?_
      refine x_geti hF sh75 8 rfl ck7 (by decide) (by decide) tw_1050 rfl dX8_replays_148 ?_
      refine x_aload_n hF dX8_replays_151 rfl rfl ?_
      refine x_geti hF sh75 12 rfl ck7 (by decide) (by decide) tw_1054 rfl dX8_replays_152 ?_
      obtain ⟨hg, h⟩ := og_some h
      obtain ⟨T28, eT28, h⟩ := ol_some h
      refine x_iast hF sh80 (by decide) hg rfl eT28 dX8_replays_155 ?_
      refine x_aload_n hF dX8_replays_156 rfl rfl ?_
      refine x_dup hF dX8_replays_157 rfl ?_
      refine x_geti hF sh75 8 rfl ck7 (by decide) (by decide) tw_1050 rfl dX8_replays_158 ?_
      refine x_iconst (v := (1 : Int32)) hF dX8_replays_161 (by decide) ?_
      refine x_iadd hF dX8_replays_162 ?_
      obtain ⟨T29, eT29, h⟩ := ol_some h
      refine x_puti hF sh75 8 rfl ck7 (by decide) (by decide) tw_1050 rfl rfl rfl rfl rfl eT29 dX8_replays_163 ?_
      refine x_goto (tgt := 80) hF dX8_replays_166 (by decide) ?_
      obtain ⟨rfl, rfl⟩ := sm h
      exact x_sub (hag _ _ hk) ⟨rfl, rfl, rfl, rfl, trivial⟩
noncomputable def X8_replays_80L (x1 : Int32) (x2 : Int32) (a : Int32) (S : St) : Option (Unit × St) :=
  lp (fun (a : Int32) (S : St) => X8_replays_80 x1 x2 a S) a S
theorem xX8_replays_80L {F : Cx} (hF : Ok F cX8_replays RX8) (hN : nLF F 4) (hR : RmF F 6 0) {x1 : Int32} {x2 : Int32} {K : Unit → St → Prop} (hex169 : ∀ (q : Unit) (S : St), K (q) S → X F 0 169 [] [] S) {a : Int32} {S : St} {b : Unit} {S1 : St} (h : X8_replays_80L x1 x2 a S = some (b, S1)) (hk : K b S1) : X F 0 80 [(0, .ref (gA F 75)), (1, .int x1), (2, .int x2), (3, .int a)] [] S := by
  unfold X8_replays_80L at h
  exact lp_rule (Xh := fun (a : Int32) (S : St) => X F 0 80 [(0, .ref (gA F 75)), (1, .int x1), (2, .int x2), (3, .int a)] [] S) (K := K) (fun a S r S1 h hk => xX8_replays_80 hF hN hR (K := fun r S => match r with | .inl a => X F 0 80 [(0, .ref (gA F 75)), (1, .int x1), (2, .int x2), (3, .int a)] [] S | .inr b => K b S) (fun _ _ h => h) (fun q S h => hex169 q S h) h (by cases r <;> exact hk)) h hk
noncomputable def X8_replays (x1 : Int32) (S : St) : Option (Unit × St) :=
  ol (si S 75 6 (0 : Int32)) (fun T1 => ol (si T1 75 10 (0 : Int32)) (fun T2 => ol (si T2 75 12 (0 : Int32)) (fun T3 => ol (si T3 75 13 (0 : Int32)) (fun T4 => ol (si T4 75 14 (5 : Int32)) (fun T5 => ol (si T5 75 8 (0 : Int32)) (fun T6 => ob (X8_replays_34L x1 ((-1 : Int32), (0 : Int32)) T6) (fun b10 S11 => ob (X8_replays_80L x1 b10 (0 : Int32) S11) (fun b30 S31 => some ((), S31)))))))))
set_option maxHeartbeats 4000000 in
set_option maxRecDepth 20000 in
theorem ctX8_replays {l : Launch} {G : Ga} {x1 : Int32} (hl : l.stackTraces = false) {S : St} {r : Unit} {S1 : St} (h : X8_replays x1 S = some (r, S1)) : CT l G 6 yX8_replays cX8_replays 4 none [.ref (G.1 75), .int x1] S none S1 := by
  refine ct_of hl (by decide) (Nat.le_of_ble_eq_true rfl) (fun F hFl hFG hF hN hR hret => ?_)
  subst hFl hFG
  show X F 0 0 [(0, .ref (gA F 75)), (1, .int x1)] [] S
  have hret : ∀ (v : Unit) (S : St) (pc : Nat) (ls : List (Nat × Value)), (v = r ∧ S = S1) → decode cX8_replays pc = .ok (.return_, 1) → X F 0 pc ls [] S := fun v S2 pc ls hq hd => by obtain ⟨rfl, rfl⟩ := hq; exact hret.2.2.2.2.1 pc ls rfl rfl hd
  have hk : r = r ∧ S1 = S1 := ⟨rfl, rfl⟩
  unfold X8_replays at h
  refine x_aload_n hF dX8_replays_0 rfl rfl ?_
  refine x_iconst (v := (0 : Int32)) hF dX8_replays_1 (by decide) ?_
  obtain ⟨T1, eT1, h⟩ := ol_some h
  refine x_puti hF sh75 6 rfl ck7 (by decide) (by decide) tw_1048 rfl rfl rfl rfl rfl eT1 dX8_replays_2 ?_
  refine x_aload_n hF dX8_replays_5 rfl rfl ?_
  refine x_iconst (v := (0 : Int32)) hF dX8_replays_6 (by decide) ?_
  obtain ⟨T2, eT2, h⟩ := ol_some h
  refine x_puti hF sh75 10 rfl ck7 (by decide) (by decide) tw_1052 rfl rfl rfl rfl rfl eT2 dX8_replays_7 ?_
  refine x_aload_n hF dX8_replays_10 rfl rfl ?_
  refine x_iconst (v := (0 : Int32)) hF dX8_replays_11 (by decide) ?_
  obtain ⟨T3, eT3, h⟩ := ol_some h
  refine x_puti hF sh75 12 rfl ck7 (by decide) (by decide) tw_1054 rfl rfl rfl rfl rfl eT3 dX8_replays_12 ?_
  refine x_aload_n hF dX8_replays_15 rfl rfl ?_
  refine x_iconst (v := (0 : Int32)) hF dX8_replays_16 (by decide) ?_
  obtain ⟨T4, eT4, h⟩ := ol_some h
  refine x_puti hF sh75 13 rfl ck7 (by decide) (by decide) tw_1055 rfl rfl rfl rfl rfl eT4 dX8_replays_17 ?_
  refine x_aload_n hF dX8_replays_20 rfl rfl ?_
  refine x_iconst (v := (5 : Int32)) hF dX8_replays_21 (by decide) ?_
  obtain ⟨T5, eT5, h⟩ := ol_some h
  refine x_puti hF sh75 14 rfl ck7 (by decide) (by decide) tw_1056 rfl rfl rfl rfl rfl eT5 dX8_replays_22 ?_
  refine x_aload_n hF dX8_replays_25 rfl rfl ?_
  refine x_iconst (v := (0 : Int32)) hF dX8_replays_26 (by decide) ?_
  obtain ⟨T6, eT6, h⟩ := ol_some h
  refine x_puti hF sh75 8 rfl ck7 (by decide) (by decide) tw_1050 rfl rfl rfl rfl rfl eT6 dX8_replays_27 ?_
  refine x_iconst (v := (-1 : Int32)) hF dX8_replays_30 (by decide) ?_
  refine x_istore_n [(2, _), (0, _), (1, _)] hF hN dX8_replays_31 rfl (by decide) rfl ?_
  refine x_iconst (v := (0 : Int32)) hF dX8_replays_32 (by decide) ?_
  refine x_istore_n [(3, _), (2, _), (0, _), (1, _)] hF hN dX8_replays_33 rfl (by decide) rfl ?_
  obtain ⟨b10, S11, hlb10, h⟩ := ob_some h
  refine x_sub (xX8_replays_34L hF hN hR (K := fun bb SS => bb = b10 ∧ SS = S11) ?_ hlb10 ⟨rfl, rfl⟩) ⟨rfl, rfl, rfl, rfl, trivial⟩
  rintro _ _ ⟨rfl, rfl⟩
  refine x_iconst (v := (0 : Int32)) hF dX8_replays_78 (by decide) ?_
  refine x_istore_n [(3, _), (0, _), (1, _), (2, _)] hF hN dX8_replays_79 rfl (by decide) rfl ?_
  obtain ⟨b30, S31, hlb30, h⟩ := ob_some h
  refine x_sub (xX8_replays_80L hF hN hR (K := fun bb SS => bb = b30 ∧ SS = S31) ?_ hlb30 ⟨rfl, rfl⟩) ⟨rfl, rfl, rfl, rfl, trivial⟩
  rintro _ _ ⟨_, rfl⟩
  obtain ⟨rfl, rfl⟩ := sm h
  exact hret _ _ _ _ hk dX8_replays_169
noncomputable def X8_worthOf_129 (x2 : Int32) (x3 : Int32) (x4 : Int32) (x5 : Int32) (x6 : Int32) (S : St) : Option (((Int32 × Int32) ⊕ Int32) × St) :=
  oi (x5 = 0) (some (.inl (x3, (x4 + (1 : Int32))), S)) (oi (x6 = 0) (og (inb x4 40) (ob (X8_of x4 (0 : Int32) S) (fun r3 S4 => some (.inl ((x3 + ((gi S 78 (ix x4)) - r3)), (x4 + (1 : Int32))), S4)))) (some (.inl (x3, (x4 + (1 : Int32))), S)))
set_option maxHeartbeats 4000000 in
set_option maxRecDepth 20000 in
theorem xX8_worthOf_129 {F : Cx} (hF : Ok F cX8_worthOf RX8) (hN : nLF F 7) (hR : RmF F 7 0) {x2 : Int32} {x3 : Int32} {x4 : Int32} {x5 : Int32} {x6 : Int32} {K : ((Int32 × Int32) ⊕ Int32) → St → Prop} (hag : ∀ (a : Int32 × Int32) (S : St), K (.inl a) S → X F 0 10 [(0, .ref (gA F 75)), (2, .int x2), (3, .int a.1), (4, .int a.2)] [] S) (hex163 : ∀ (q : Int32) (S : St), K (.inr q) S → X F 0 163 [(3, .int q)] [] S) {S : St} {r : (Int32 × Int32) ⊕ Int32} {S1 : St} (h : X8_worthOf_129 x2 x3 x4 x5 x6 S = some (r, S1)) (hk : K r S1) : X F 0 129 [(0, .ref (gA F 75)), (2, .int x2), (3, .int x3), (4, .int x4), (5, .int x5), (6, .int x6)] [] S := by
  unfold X8_worthOf_129 at h
  refine x_iload hF dX8_worthOf_129 rfl ?_
  refine x_if_eq (tgt := 157) hF dX8_worthOf_131 (by decide) (fun hc => ?_) (fun hc => ?_)
  · have h := oi_pos hc h
    refine x_iinc [(4, _), (0, _), (2, _), (3, _), (5, _), (6, _)] (v := (1 : Int32)) hF hN dX8_worthOf_157 rfl (by decide) (by decide) rfl ?_
    refine x_goto (tgt := 10) hF dX8_worthOf_160 (by decide) ?_
    obtain ⟨rfl, rfl⟩ := sm h
    exact x_sub (hag _ _ hk) ⟨rfl, rfl, rfl, rfl, trivial⟩
  · have h := oi_neg hc h
    refine x_iload hF dX8_worthOf_134 rfl ?_
    refine x_if_ne (tgt := 157) hF dX8_worthOf_136 (by decide) (fun hc => ?_) (fun hc => ?_)
    · have h := oi_neg hc h
      refine x_iinc [(4, _), (0, _), (2, _), (3, _), (5, _), (6, _)] (v := (1 : Int32)) hF hN dX8_worthOf_157 rfl (by decide) (by decide) rfl ?_
      refine x_goto (tgt := 10) hF dX8_worthOf_160 (by decide) ?_
      obtain ⟨rfl, rfl⟩ := sm h
      exact x_sub (hag _ _ hk) ⟨rfl, rfl, rfl, rfl, trivial⟩
    · have h := oi_pos hc h
      refine x_iload_n hF dX8_worthOf_139 rfl rfl ?_
      refine x_aload_n hF dX8_worthOf_140 rfl rfl ?_
      refine x_getr hF sh75 4 rfl ck7 (by decide) (by decide) tw_1046 rfl dX8_worthOf_141 ?_
      refine x_iload hF dX8_worthOf_144 rfl ?_
      obtain ⟨hg, h⟩ := og_some h
      refine x_iald hF sh78 (by decide) hg rfl dX8_worthOf_146 ?_
      refine x_aload_n hF dX8_worthOf_147 rfl rfl ?_
      refine x_iload hF dX8_worthOf_148 rfl ?_
      refine x_iconst (v := (0 : Int32)) hF dX8_worthOf_150 (by decide) ?_
      obtain ⟨r3, S4, hcall, h⟩ := ob_some h
      refine x_cVi hF hN hR (ctX8_of hF.tr hcall) mwX8_of miX8_of sh75 ck7 (by decide) tw_1166 ⟨by decide, by decide⟩ rfl rfl (Nat.le_of_ble_eq_true rfl) dX8_worthOf_151 ?_
      refine x_isub hF dX8_worthOf_154 ?_
      refine x_iadd hF dX8_worthOf_155 ?_
      refine x_istore_n [(3, _), (0, _), (2, _), (4, _), (5, _), (6, _)] hF hN dX8_worthOf_156 rfl (by decide) rfl ?_
      refine x_iinc [(4, _), (3, _), (0, _), (2, _), (5, _), (6, _)] (v := (1 : Int32)) hF hN dX8_worthOf_157 rfl (by decide) (by decide) rfl ?_
      refine x_goto (tgt := 10) hF dX8_worthOf_160 (by decide) ?_
      obtain ⟨rfl, rfl⟩ := sm h
      exact x_sub (hag _ _ hk) ⟨rfl, rfl, rfl, rfl, trivial⟩
noncomputable def X8_worthOf_73 (x2 : Int32) (x3 : Int32) (x4 : Int32) (x5 : Int32) (z0 : Int32) (S : St) : Option (((Int32 × Int32) ⊕ Int32) × St) :=
  oi (x5 = 0) (X8_worthOf_129 x2 x3 x4 x5 z0 S) (oi ((2 : Int32) ≤ (gi S 76 128)) (X8_worthOf_129 x2 x3 x4 x5 z0 S) (oi (z0 = 0) (some (.inl ((x3 + (0 : Int32)), (x4 + (1 : Int32))), S)) (oi ((gi S 76 128) = 0) (some (.inl ((x3 + (1 : Int32)), (x4 + (1 : Int32))), S)) (ob (X8_of x4 (2 : Int32) S) (fun r5 S6 => some (.inl ((x3 + r5), (x4 + (1 : Int32))), S6))))))
set_option maxHeartbeats 4000000 in
set_option maxRecDepth 20000 in
theorem xX8_worthOf_73 {F : Cx} (hF : Ok F cX8_worthOf RX8) (hN : nLF F 7) (hR : RmF F 7 0) {x2 : Int32} {x3 : Int32} {x4 : Int32} {x5 : Int32} {z0 : Int32} {K : ((Int32 × Int32) ⊕ Int32) → St → Prop} (hag : ∀ (a : Int32 × Int32) (S : St), K (.inl a) S → X F 0 10 [(0, .ref (gA F 75)), (2, .int x2), (3, .int a.1), (4, .int a.2)] [] S) (hex163 : ∀ (q : Int32) (S : St), K (.inr q) S → X F 0 163 [(3, .int q)] [] S) {S : St} {r : (Int32 × Int32) ⊕ Int32} {S1 : St} (h : X8_worthOf_73 x2 x3 x4 x5 z0 S = some (r, S1)) (hk : K r S1) : X F 0 73 [(0, .ref (gA F 75)), (2, .int x2), (3, .int x3), (4, .int x4), (5, .int x5)] [.int z0] S := by
  unfold X8_worthOf_73 at h
  refine x_istore [(6, _), (0, _), (2, _), (3, _), (4, _), (5, _)] hF hN dX8_worthOf_73 (by decide) rfl ?_
  refine x_iload hF dX8_worthOf_75 rfl ?_
  refine x_if_eq (tgt := 129) hF dX8_worthOf_77 (by decide) (fun hc => ?_) (fun hc => ?_)
  · have h := oi_pos hc h
    exact x_sub (xX8_worthOf_129 hF hN hR (K := K) hag hex163 h hk) ⟨rfl, rfl, rfl, rfl, rfl, rfl, trivial⟩
  · have h := oi_neg hc h
    refine x_aload_n hF dX8_worthOf_80 rfl rfl ?_
    refine x_getr hF sh75 0 rfl ck7 (by decide) (by decide) tw_1042 rfl dX8_worthOf_81 ?_
    refine x_sipush (v := (128 : Int32)) hF dX8_worthOf_84 (by decide) ?_
    refine x_iald (j := 128) hF sh76 (by decide) (by decide) (by decide) dX8_worthOf_87 ?_
    refine x_iconst (v := (2 : Int32)) hF dX8_worthOf_88 (by decide) ?_
    refine x_icmp_ge (tgt := 129) hF dX8_worthOf_89 (by decide) (fun hc => ?_) (fun hc => ?_)
    · have h := oi_pos hc h
      exact x_sub (xX8_worthOf_129 hF hN hR (K := K) hag hex163 h hk) ⟨rfl, rfl, rfl, rfl, rfl, rfl, trivial⟩
    · have h := oi_neg hc h
      refine x_iload_n hF dX8_worthOf_92 rfl rfl ?_
      refine x_iload hF dX8_worthOf_93 rfl ?_
      refine x_if_ne (tgt := 102) hF dX8_worthOf_95 (by decide) (fun hc => ?_) (fun hc => ?_)
      · have h := oi_neg hc h
        refine x_aload_n hF dX8_worthOf_102 rfl rfl ?_
        refine x_getr hF sh75 0 rfl ck7 (by decide) (by decide) tw_1042 rfl dX8_worthOf_103 ?_
        refine x_sipush (v := (128 : Int32)) hF dX8_worthOf_106 (by decide) ?_
        refine x_iald (j := 128) hF sh76 (by decide) (by decide) (by decide) dX8_worthOf_109 ?_
        refine x_if_ne (tgt := 117) hF dX8_worthOf_110 (by decide) (fun hc => ?_) (fun hc => ?_)
        · have h := oi_neg hc h
          refine x_aload_n hF dX8_worthOf_117 rfl rfl ?_
          refine x_iload hF dX8_worthOf_118 rfl ?_
          refine x_iconst (v := (2 : Int32)) hF dX8_worthOf_120 (by decide) ?_
          obtain ⟨r5, S6, hcall, h⟩ := ob_some h
          refine x_cVi hF hN hR (ctX8_of hF.tr hcall) mwX8_of miX8_of sh75 ck7 (by decide) tw_1166 ⟨by decide, by decide⟩ rfl rfl (Nat.le_of_ble_eq_true rfl) dX8_worthOf_121 ?_
          refine x_iadd hF dX8_worthOf_124 ?_
          refine x_istore_n [(3, _), (6, _), (0, _), (2, _), (4, _), (5, _)] hF hN dX8_worthOf_125 rfl (by decide) rfl ?_
          refine x_goto (tgt := 157) hF dX8_worthOf_126 (by decide) ?_
          refine x_iinc [(4, _), (3, _), (6, _), (0, _), (2, _), (5, _)] (v := (1 : Int32)) hF hN dX8_worthOf_157 rfl (by decide) (by decide) rfl ?_
          refine x_goto (tgt := 10) hF dX8_worthOf_160 (by decide) ?_
          obtain ⟨rfl, rfl⟩ := sm h
          exact x_sub (hag _ _ hk) ⟨rfl, rfl, rfl, rfl, trivial⟩
        · have h := oi_pos hc h
          refine x_iconst (v := (1 : Int32)) hF dX8_worthOf_113 (by decide) ?_
          refine x_goto (tgt := 124) hF dX8_worthOf_114 (by decide) ?_
          refine x_iadd hF dX8_worthOf_124 ?_
          refine x_istore_n [(3, _), (6, _), (0, _), (2, _), (4, _), (5, _)] hF hN dX8_worthOf_125 rfl (by decide) rfl ?_
          refine x_goto (tgt := 157) hF dX8_worthOf_126 (by decide) ?_
          refine x_iinc [(4, _), (3, _), (6, _), (0, _), (2, _), (5, _)] (v := (1 : Int32)) hF hN dX8_worthOf_157 rfl (by decide) (by decide) rfl ?_
          refine x_goto (tgt := 10) hF dX8_worthOf_160 (by decide) ?_
          obtain ⟨rfl, rfl⟩ := sm h
          exact x_sub (hag _ _ hk) ⟨rfl, rfl, rfl, rfl, trivial⟩
      · have h := oi_pos hc h
        refine x_iconst (v := (0 : Int32)) hF dX8_worthOf_98 (by decide) ?_
        refine x_goto (tgt := 124) hF dX8_worthOf_99 (by decide) ?_
        refine x_iadd hF dX8_worthOf_124 ?_
        refine x_istore_n [(3, _), (6, _), (0, _), (2, _), (4, _), (5, _)] hF hN dX8_worthOf_125 rfl (by decide) rfl ?_
        refine x_goto (tgt := 157) hF dX8_worthOf_126 (by decide) ?_
        refine x_iinc [(4, _), (3, _), (6, _), (0, _), (2, _), (5, _)] (v := (1 : Int32)) hF hN dX8_worthOf_157 rfl (by decide) (by decide) rfl ?_
        refine x_goto (tgt := 10) hF dX8_worthOf_160 (by decide) ?_
        obtain ⟨rfl, rfl⟩ := sm h
        exact x_sub (hag _ _ hk) ⟨rfl, rfl, rfl, rfl, trivial⟩
noncomputable def X8_worthOf_54 (x2 : Int32) (x3 : Int32) (x4 : Int32) (z0 : Int32) (S : St) : Option (((Int32 × Int32) ⊕ Int32) × St) :=
  og (inb x4 40) (oi ((gi S 78 (ix x4)) = (-2 : Int32)) (X8_worthOf_73 x2 x3 x4 z0 (1 : Int32) S) (X8_worthOf_73 x2 x3 x4 z0 (0 : Int32) S))
set_option maxHeartbeats 4000000 in
set_option maxRecDepth 20000 in
theorem xX8_worthOf_54 {F : Cx} (hF : Ok F cX8_worthOf RX8) (hN : nLF F 7) (hR : RmF F 7 0) {x2 : Int32} {x3 : Int32} {x4 : Int32} {z0 : Int32} {K : ((Int32 × Int32) ⊕ Int32) → St → Prop} (hag : ∀ (a : Int32 × Int32) (S : St), K (.inl a) S → X F 0 10 [(0, .ref (gA F 75)), (2, .int x2), (3, .int a.1), (4, .int a.2)] [] S) (hex163 : ∀ (q : Int32) (S : St), K (.inr q) S → X F 0 163 [(3, .int q)] [] S) {S : St} {r : (Int32 × Int32) ⊕ Int32} {S1 : St} (h : X8_worthOf_54 x2 x3 x4 z0 S = some (r, S1)) (hk : K r S1) : X F 0 54 [(0, .ref (gA F 75)), (2, .int x2), (3, .int x3), (4, .int x4)] [.int z0] S := by
  unfold X8_worthOf_54 at h
  refine x_istore [(5, _), (0, _), (2, _), (3, _), (4, _)] hF hN dX8_worthOf_54 (by decide) rfl ?_
  refine x_aload_n hF dX8_worthOf_56 rfl rfl ?_
  refine x_getr hF sh75 4 rfl ck7 (by decide) (by decide) tw_1046 rfl dX8_worthOf_57 ?_
  refine x_iload hF dX8_worthOf_60 rfl ?_
  obtain ⟨hg, h⟩ := og_some h
  refine x_iald hF sh78 (by decide) hg rfl dX8_worthOf_62 ?_
  refine x_bipush (v := (-2 : Int32)) hF dX8_worthOf_63 (by decide) ?_
  refine x_icmp_ne (tgt := 72) hF dX8_worthOf_65 (by decide) (fun hc => ?_) (fun hc => ?_)
  · have h := oi_neg hc h
    refine x_iconst (v := (0 : Int32)) hF dX8_worthOf_72 (by decide) ?_
    exact x_sub (xX8_worthOf_73 hF hN hR (K := K) hag hex163 h hk) ⟨rfl, rfl, rfl, rfl, rfl, trivial⟩
  · have h := oi_pos hc h
    refine x_iconst (v := (1 : Int32)) hF dX8_worthOf_68 (by decide) ?_
    refine x_goto (tgt := 73) hF dX8_worthOf_69 (by decide) ?_
    exact x_sub (xX8_worthOf_73 hF hN hR (K := K) hag hex163 h hk) ⟨rfl, rfl, rfl, rfl, rfl, trivial⟩
noncomputable def X8_worthOf_53 (x2 : Int32) (x3 : Int32) (x4 : Int32) (S : St) : Option (((Int32 × Int32) ⊕ Int32) × St) :=
  X8_worthOf_54 x2 x3 x4 (0 : Int32) S
set_option maxHeartbeats 4000000 in
set_option maxRecDepth 20000 in
theorem xX8_worthOf_53 {F : Cx} (hF : Ok F cX8_worthOf RX8) (hN : nLF F 7) (hR : RmF F 7 0) {x2 : Int32} {x3 : Int32} {x4 : Int32} {K : ((Int32 × Int32) ⊕ Int32) → St → Prop} (hag : ∀ (a : Int32 × Int32) (S : St), K (.inl a) S → X F 0 10 [(0, .ref (gA F 75)), (2, .int x2), (3, .int a.1), (4, .int a.2)] [] S) (hex163 : ∀ (q : Int32) (S : St), K (.inr q) S → X F 0 163 [(3, .int q)] [] S) {S : St} {r : (Int32 × Int32) ⊕ Int32} {S1 : St} (h : X8_worthOf_53 x2 x3 x4 S = some (r, S1)) (hk : K r S1) : X F 0 53 [(0, .ref (gA F 75)), (2, .int x2), (3, .int x3), (4, .int x4)] [] S := by
  unfold X8_worthOf_53 at h
  refine x_iconst (v := (0 : Int32)) hF dX8_worthOf_53 (by decide) ?_
  exact x_sub (xX8_worthOf_54 hF hN hR (K := K) hag hex163 h hk) ⟨rfl, rfl, rfl, rfl, trivial⟩
noncomputable def X8_worthOf_49 (x2 : Int32) (x3 : Int32) (x4 : Int32) (S : St) : Option (((Int32 × Int32) ⊕ Int32) × St) :=
  X8_worthOf_54 x2 x3 x4 (1 : Int32) S
set_option maxHeartbeats 4000000 in
set_option maxRecDepth 20000 in
theorem xX8_worthOf_49 {F : Cx} (hF : Ok F cX8_worthOf RX8) (hN : nLF F 7) (hR : RmF F 7 0) {x2 : Int32} {x3 : Int32} {x4 : Int32} {K : ((Int32 × Int32) ⊕ Int32) → St → Prop} (hag : ∀ (a : Int32 × Int32) (S : St), K (.inl a) S → X F 0 10 [(0, .ref (gA F 75)), (2, .int x2), (3, .int a.1), (4, .int a.2)] [] S) (hex163 : ∀ (q : Int32) (S : St), K (.inr q) S → X F 0 163 [(3, .int q)] [] S) {S : St} {r : (Int32 × Int32) ⊕ Int32} {S1 : St} (h : X8_worthOf_49 x2 x3 x4 S = some (r, S1)) (hk : K r S1) : X F 0 49 [(0, .ref (gA F 75)), (2, .int x2), (3, .int x3), (4, .int x4)] [] S := by
  unfold X8_worthOf_49 at h
  refine x_iconst (v := (1 : Int32)) hF dX8_worthOf_49 (by decide) ?_
  refine x_goto (tgt := 54) hF dX8_worthOf_50 (by decide) ?_
  exact x_sub (xX8_worthOf_54 hF hN hR (K := K) hag hex163 h hk) ⟨rfl, rfl, rfl, rfl, trivial⟩
noncomputable def X8_worthOf_10 (x2 : Int32) (x3 : Int32) (x4 : Int32) (S : St) : Option (((Int32 × Int32) ⊕ Int32) × St) :=
  oi ((gi S 76 0) ≤ x4) (some (.inr x3, S)) (og (inb x4 40) (oi ((gi S 78 (ix x4)) = (-3 : Int32)) (X8_worthOf_53 x2 x3 x4 S) (oi (x2 = (-1 : Int32)) (X8_worthOf_49 x2 x3 x4 S) (ob (X8_of x4 (1 : Int32) S) (fun r7 S8 => oi (r7 = x2) (X8_worthOf_49 x2 x3 x4 S8) (X8_worthOf_53 x2 x3 x4 S8))))))
set_option maxHeartbeats 4000000 in
set_option maxRecDepth 20000 in
theorem xX8_worthOf_10 {F : Cx} (hF : Ok F cX8_worthOf RX8) (hN : nLF F 7) (hR : RmF F 7 0) {x2 : Int32} {x3 : Int32} {x4 : Int32} {K : ((Int32 × Int32) ⊕ Int32) → St → Prop} (hag : ∀ (a : Int32 × Int32) (S : St), K (.inl a) S → X F 0 10 [(0, .ref (gA F 75)), (2, .int x2), (3, .int a.1), (4, .int a.2)] [] S) (hex163 : ∀ (q : Int32) (S : St), K (.inr q) S → X F 0 163 [(3, .int q)] [] S) {S : St} {r : (Int32 × Int32) ⊕ Int32} {S1 : St} (h : X8_worthOf_10 x2 x3 x4 S = some (r, S1)) (hk : K r S1) : X F 0 10 [(0, .ref (gA F 75)), (2, .int x2), (3, .int x3), (4, .int x4)] [] S := by
  unfold X8_worthOf_10 at h
  refine x_iload hF dX8_worthOf_10 rfl ?_
  refine x_aload_n hF dX8_worthOf_12 rfl rfl ?_
  refine x_getr hF sh75 0 rfl ck7 (by decide) (by decide) tw_1042 rfl dX8_worthOf_13 ?_
  refine x_iconst (v := (0 : Int32)) hF dX8_worthOf_16 (by decide) ?_
  refine x_iald (j := 0) hF sh76 (by decide) (by decide) (by decide) dX8_worthOf_17 ?_
  refine x_icmp_ge (tgt := 163) hF dX8_worthOf_18 (by decide) (fun hc => ?_) (fun hc => ?_)
  · have h := oi_pos hc h
    obtain ⟨rfl, rfl⟩ := sm h
    exact x_sub (hex163 _ _ hk) ⟨rfl, trivial⟩
  · have h := oi_neg hc h
    refine x_aload_n hF dX8_worthOf_21 rfl rfl ?_
    refine x_getr hF sh75 4 rfl ck7 (by decide) (by decide) tw_1046 rfl dX8_worthOf_22 ?_
    refine x_iload hF dX8_worthOf_25 rfl ?_
    obtain ⟨hg, h⟩ := og_some h
    refine x_iald hF sh78 (by decide) hg rfl dX8_worthOf_27 ?_
    refine x_bipush (v := (-3 : Int32)) hF dX8_worthOf_28 (by decide) ?_
    refine x_icmp_eq (tgt := 53) hF dX8_worthOf_30 (by decide) (fun hc => ?_) (fun hc => ?_)
    · have h := oi_pos hc h
      exact x_sub (xX8_worthOf_53 hF hN hR (K := K) hag hex163 h hk) ⟨rfl, rfl, rfl, rfl, trivial⟩
    · have h := oi_neg hc h
      refine x_iload_n hF dX8_worthOf_33 rfl rfl ?_
      refine x_iconst (v := (-1 : Int32)) hF dX8_worthOf_34 (by decide) ?_
      refine x_icmp_eq (tgt := 49) hF dX8_worthOf_35 (by decide) (fun hc => ?_) (fun hc => ?_)
      · have h := oi_pos hc h
        exact x_sub (xX8_worthOf_49 hF hN hR (K := K) hag hex163 h hk) ⟨rfl, rfl, rfl, rfl, trivial⟩
      · have h := oi_neg hc h
        refine x_aload_n hF dX8_worthOf_38 rfl rfl ?_
        refine x_iload hF dX8_worthOf_39 rfl ?_
        refine x_iconst (v := (1 : Int32)) hF dX8_worthOf_41 (by decide) ?_
        obtain ⟨r7, S8, hcall, h⟩ := ob_some h
        refine x_cVi hF hN hR (ctX8_of hF.tr hcall) mwX8_of miX8_of sh75 ck7 (by decide) tw_1166 ⟨by decide, by decide⟩ rfl rfl (Nat.le_of_ble_eq_true rfl) dX8_worthOf_42 ?_
        refine x_iload_n hF dX8_worthOf_45 rfl rfl ?_
        refine x_icmp_ne (tgt := 53) hF dX8_worthOf_46 (by decide) (fun hc => ?_) (fun hc => ?_)
        · have h := oi_neg hc h
          exact x_sub (xX8_worthOf_53 hF hN hR (K := K) hag hex163 h hk) ⟨rfl, rfl, rfl, rfl, trivial⟩
        · have h := oi_pos hc h
          exact x_sub (xX8_worthOf_49 hF hN hR (K := K) hag hex163 h hk) ⟨rfl, rfl, rfl, rfl, trivial⟩
noncomputable def X8_worthOf_10L (x2 : Int32) (a : Int32 × Int32) (S : St) : Option (Int32 × St) :=
  lp (fun (a : Int32 × Int32) (S : St) => X8_worthOf_10 x2 a.1 a.2 S) a S
theorem xX8_worthOf_10L {F : Cx} (hF : Ok F cX8_worthOf RX8) (hN : nLF F 7) (hR : RmF F 7 0) {x2 : Int32} {K : Int32 → St → Prop} (hex163 : ∀ (q : Int32) (S : St), K (q) S → X F 0 163 [(3, .int q)] [] S) {a : Int32 × Int32} {S : St} {b : Int32} {S1 : St} (h : X8_worthOf_10L x2 a S = some (b, S1)) (hk : K b S1) : X F 0 10 [(0, .ref (gA F 75)), (2, .int x2), (3, .int a.1), (4, .int a.2)] [] S := by
  unfold X8_worthOf_10L at h
  exact lp_rule (Xh := fun (a : Int32 × Int32) (S : St) => X F 0 10 [(0, .ref (gA F 75)), (2, .int x2), (3, .int a.1), (4, .int a.2)] [] S) (K := K) (fun a S r S1 h hk => xX8_worthOf_10 hF hN hR (K := fun r S => match r with | .inl a => X F 0 10 [(0, .ref (gA F 75)), (2, .int x2), (3, .int a.1), (4, .int a.2)] [] S | .inr b => K b S) (fun _ _ h => h) (fun q S h => hex163 q S h) h (by cases r <;> exact hk)) h hk
noncomputable def X8_worthOf (x1 : Int32) (x2 : Int32) (S : St) : Option (Int32 × St) :=
  ob (X8_replays x1 S) (fun r1 S2 => ob (X8_worthOf_10L x2 ((0 : Int32), (0 : Int32)) S2) (fun b9 S10 => some (b9, S10)))
set_option maxHeartbeats 4000000 in
set_option maxRecDepth 20000 in
theorem ctX8_worthOf {l : Launch} {G : Ga} {x1 : Int32} {x2 : Int32} (hl : l.stackTraces = false) {S : St} {r : Int32} {S1 : St} (h : X8_worthOf x1 x2 S = some (r, S1)) : CT l G 7 yX8_worthOf cX8_worthOf 7 (some .int) [.ref (G.1 75), .int x1, .int x2] S (some (.int r)) S1 := by
  refine ct_of hl (by decide) (Nat.le_of_ble_eq_true rfl) (fun F hFl hFG hF hN hR hret => ?_)
  subst hFl hFG
  show X F 0 0 [(0, .ref (gA F 75)), (1, .int x1), (2, .int x2)] [] S
  have hret : ∀ (v : Int32) (S : St) (pc : Nat) (ls : List (Nat × Value)), (v = r ∧ S = S1) → decode cX8_worthOf pc = .ok (.ireturn, 1) → X F 0 pc ls [.int v] S := fun v S2 pc ls hq hd => by obtain ⟨rfl, rfl⟩ := hq; exact hret.1 pc ls v rfl rfl hd
  have hk : r = r ∧ S1 = S1 := ⟨rfl, rfl⟩
  unfold X8_worthOf at h
  refine x_aload_n hF dX8_worthOf_0 rfl rfl ?_
  refine x_iload_n hF dX8_worthOf_1 rfl rfl ?_
  obtain ⟨r1, S2, hcall, h⟩ := ob_some h
  refine x_cVv hF hN hR (ctX8_replays hF.tr hcall) mwX8_replays miX8_replays sh75 ck7 (by decide) tw_1243 ⟨by decide, by decide⟩ rfl rfl (Nat.le_of_ble_eq_true rfl) dX8_worthOf_2 ?_
  refine x_iconst (v := (0 : Int32)) hF dX8_worthOf_5 (by decide) ?_
  refine x_istore_n [(3, _), (0, _), (1, _), (2, _)] hF hN dX8_worthOf_6 rfl (by decide) rfl ?_
  refine x_iconst (v := (0 : Int32)) hF dX8_worthOf_7 (by decide) ?_
  refine x_istore [(4, _), (3, _), (0, _), (1, _), (2, _)] hF hN dX8_worthOf_8 (by decide) rfl ?_
  obtain ⟨b9, S10, hlb9, h⟩ := ob_some h
  refine x_sub (xX8_worthOf_10L hF hN hR (K := fun bb SS => bb = b9 ∧ SS = S10) ?_ hlb9 ⟨rfl, rfl⟩) ⟨rfl, rfl, rfl, rfl, trivial⟩
  rintro _ _ ⟨rfl, rfl⟩
  refine x_iload_n hF dX8_worthOf_163 rfl rfl ?_
  obtain ⟨rfl, rfl⟩ := sm h
  exact hret _ _ _ _ hk dX8_worthOf_164
