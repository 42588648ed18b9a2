noncomputable def L_record (x1 : Int32) (x2 : Int32) (x3 : Int32) (S : St) : Option (Int32 × St) :=
  ow (X7_record x1 x2 x3 S) (fun v S2 => ol (sl S2 90 0 v.toInt64) (fun T => some ((0 : Int32), T))) (fun e S2 => oi (e = 0) (some ((1 : Int32), S2)) (oi (e = 1) (some ((2 : Int32), S2)) (oi (e = 2) (some ((3 : Int32), S2)) (none))))
set_option maxHeartbeats 4000000 in
set_option maxRecDepth 20000 in
theorem cwL_record {l : Launch} {G : Ga} {x1 : Int32} {x2 : Int32} {x3 : Int32} (hl : l.stackTraces = false) {S : St} {r : Int32} {S1 : St} (h : L_record x1 x2 x3 S = some (r, S1)) : CW l G 8 2 yL_record cL_record 6 [(0, 12, 15, 13), (0, 12, 19, 15), (0, 12, 23, 17)] [.ref (G.1 0), .int x1, .int x2, .int x3, .ref (G.1 90)] S (some (.int r)) S1 := by
  refine cw_of hl (by decide) (Nat.le_of_ble_eq_true rfl) (fun F hFl hFG hF hN hR hret => ?_)
  subst hFl hFG
  show X F 0 0 [(0, .ref (gA F 0)), (1, .int x1), (2, .int x2), (3, .int x3), (4, .ref (gA F 90))] [] S
  unfold L_record at h
  refine x_aload hF dL_record_0 rfl ?_
  refine x_iconst (v := (0 : Int32)) hF dL_record_2 (by decide) ?_
  refine x_aload_n hF dL_record_3 rfl rfl ?_
  refine x_iload_n hF dL_record_4 rfl rfl ?_
  refine x_iload_n hF dL_record_5 rfl rfl ?_
  refine x_iload_n hF dL_record_6 rfl rfl ?_
  rcases ow_some h with ⟨v, S2, hcall, h⟩ | ⟨e, S2, hcall, h⟩
  · refine x_xVi hF hN hR (cxX7_record hF.tr hcall) mwX7_record miX7_record sh0 ck6 (by decide) tw_584 ⟨by decide, by decide⟩ rfl rfl (Nat.le_of_ble_eq_true rfl) dL_record_7 ?_
    refine x_i2l hF dL_record_10 ?_
    obtain ⟨T, eT, h⟩ := ol_some h
    refine x_last (j := 0) hF sh90 (by decide) (by decide) (by decide) eT dL_record_11 ?_
    refine x_goto (tgt := 27) hF dL_record_12 (by decide) ?_
    refine x_iconst (v := (0 : Int32)) hF dL_record_27 (by decide) ?_
    obtain ⟨rfl, rfl⟩ := sm h
    exact hret.1 _ _ _ _ (by decide) rfl dL_record_28
  · refine x_xVt hF hN hR (cxX7_record hF.tr hcall) mwX7_record miX7_record sh0 ck6 (by decide) tw_584 ⟨by decide, by decide⟩ rfl rfl (Nat.le_of_ble_eq_true rfl) dL_record_7 ?_
    by_cases he : e = 0
    · have h := oi_pos he h
      subst he
      refine hret.2 _ _ 0 0 12 15 13 _ _ [] [(0, 12, 19, 15), (0, 12, 23, 17)] rfl (by decide) (by decide) tw_581 (by decide) (by simp) (fun q => ?_)
      refine x_astore [(5, _), (0, _), (1, _), (2, _), (3, _), (4, _)] hF hN dL_record_15 (by decide) rfl ?_
      refine x_iconst (v := (1 : Int32)) hF dL_record_17 (by decide) ?_
      obtain ⟨rfl, rfl⟩ := sm h
      exact hret.1 _ _ _ _ (by decide) rfl dL_record_18
    have h := oi_neg he h
    by_cases he : e = 1
    · have h := oi_pos he h
      subst he
      refine hret.2 _ _ 1 0 12 19 15 _ _ [(0, 12, 15, 13)] [(0, 12, 23, 17)] rfl (by decide) (by decide) tw_582 (by decide) (List.forall_mem_cons.mpr ⟨⟨by decide, 0, by decide, tw_581⟩, (by simp)⟩) (fun q => ?_)
      refine x_astore [(5, _), (0, _), (1, _), (2, _), (3, _), (4, _)] hF hN dL_record_19 (by decide) rfl ?_
      refine x_iconst (v := (2 : Int32)) hF dL_record_21 (by decide) ?_
      obtain ⟨rfl, rfl⟩ := sm h
      exact hret.1 _ _ _ _ (by decide) rfl dL_record_22
    have h := oi_neg he h
    by_cases he : e = 2
    · have h := oi_pos he h
      subst he
      refine hret.2 _ _ 2 0 12 23 17 _ _ [(0, 12, 15, 13), (0, 12, 19, 15)] [] rfl (by decide) (by decide) tw_583 (by decide) (List.forall_mem_cons.mpr ⟨⟨by decide, 0, by decide, tw_581⟩, (List.forall_mem_cons.mpr ⟨⟨by decide, 1, by decide, tw_582⟩, (by simp)⟩)⟩) (fun q => ?_)
      refine x_astore [(5, _), (0, _), (1, _), (2, _), (3, _), (4, _)] hF hN dL_record_23 (by decide) rfl ?_
      refine x_iconst (v := (3 : Int32)) hF dL_record_25 (by decide) ?_
      obtain ⟨rfl, rfl⟩ := sm h
      exact hret.1 _ _ _ _ (by decide) rfl dL_record_26
    have h := oi_neg he h
    cases h
noncomputable def L_erase (x1 : Int32) (S : St) : Option (Int32 × St) :=
  ow (X7_erase x1 S) (fun v S2 => ol (sl S2 90 0 v.toInt64) (fun T => some ((0 : Int32), T))) (fun e S2 => oi (e = 0) (some ((1 : Int32), S2)) (none))
set_option maxHeartbeats 4000000 in
set_option maxRecDepth 20000 in
theorem cwL_erase {l : Launch} {G : Ga} {x1 : Int32} (hl : l.stackTraces = false) {S : St} {r : Int32} {S1 : St} (h : L_erase x1 S = some (r, S1)) : CW l G 8 1 yL_erase cL_erase 4 [(0, 9, 12, 13)] [.ref (G.1 0), .int x1, .ref (G.1 90)] S (some (.int r)) S1 := by
  refine cw_of hl (by decide) (Nat.le_of_ble_eq_true rfl) (fun F hFl hFG hF hN hR hret => ?_)
  subst hFl hFG
  show X F 0 0 [(0, .ref (gA F 0)), (1, .int x1), (2, .ref (gA F 90))] [] S
  unfold L_erase at h
  refine x_aload_n hF dL_erase_0 rfl rfl ?_
  refine x_iconst (v := (0 : Int32)) hF dL_erase_1 (by decide) ?_
  refine x_aload_n hF dL_erase_2 rfl rfl ?_
  refine x_iload_n hF dL_erase_3 rfl rfl ?_
  rcases ow_some h with ⟨v, S2, hcall, h⟩ | ⟨e, S2, hcall, h⟩
  · refine x_xVi hF hN hR (cxX7_erase hF.tr hcall) mwX7_erase miX7_erase sh0 ck6 (by decide) tw_723 ⟨by decide, by decide⟩ rfl rfl (Nat.le_of_ble_eq_true rfl) dL_erase_4 ?_
    refine x_i2l hF dL_erase_7 ?_
    obtain ⟨T, eT, h⟩ := ol_some h
    refine x_last (j := 0) hF sh90 (by decide) (by decide) (by decide) eT dL_erase_8 ?_
    refine x_goto (tgt := 15) hF dL_erase_9 (by decide) ?_
    refine x_iconst (v := (0 : Int32)) hF dL_erase_15 (by decide) ?_
    obtain ⟨rfl, rfl⟩ := sm h
    exact hret.1 _ _ _ _ (by decide) rfl dL_erase_16
  · refine x_xVt hF hN hR (cxX7_erase hF.tr hcall) mwX7_erase miX7_erase sh0 ck6 (by decide) tw_723 ⟨by decide, by decide⟩ rfl rfl (Nat.le_of_ble_eq_true rfl) dL_erase_4 ?_
    by_cases he : e = 0
    · have h := oi_pos he h
      subst he
      refine hret.2 _ _ 0 0 9 12 13 _ _ [] [] rfl (by decide) (by decide) tw_581 (by decide) (by simp) (fun q => ?_)
      refine x_astore_n [(3, _), (0, _), (1, _), (2, _)] hF hN dL_erase_12 rfl (by decide) rfl ?_
      refine x_iconst (v := (1 : Int32)) hF dL_erase_13 (by decide) ?_
      obtain ⟨rfl, rfl⟩ := sm h
      exact hret.1 _ _ _ _ (by decide) rfl dL_erase_14
    have h := oi_neg he h
    cases h
noncomputable def L_packet (x1 : Int32) (x2 : Int32) (S : St) : Option (Int32 × St) :=
  ow (X7_packet x1 x2 S) (fun v S2 => ol (sl S2 90 0 v.toInt64) (fun T => some ((0 : Int32), T))) (fun e S2 => oi (e = 0) (some ((1 : Int32), S2)) (oi (e = 1) (some ((2 : Int32), S2)) (none)))
set_option maxHeartbeats 4000000 in
set_option maxRecDepth 20000 in
theorem cwL_packet {l : Launch} {G : Ga} {x1 : Int32} {x2 : Int32} (hl : l.stackTraces = false) {S : St} {r : Int32} {S1 : St} (h : L_packet x1 x2 S = some (r, S1)) : CW l G 8 2 yL_packet cL_packet 5 [(0, 10, 13, 13), (0, 10, 17, 15)] [.ref (G.1 0), .int x1, .int x2, .ref (G.1 90)] S (some (.int r)) S1 := by
  refine cw_of hl (by decide) (Nat.le_of_ble_eq_true rfl) (fun F hFl hFG hF hN hR hret => ?_)
  subst hFl hFG
  show X F 0 0 [(0, .ref (gA F 0)), (1, .int x1), (2, .int x2), (3, .ref (gA F 90))] [] S
  unfold L_packet at h
  refine x_aload_n hF dL_packet_0 rfl rfl ?_
  refine x_iconst (v := (0 : Int32)) hF dL_packet_1 (by decide) ?_
  refine x_aload_n hF dL_packet_2 rfl rfl ?_
  refine x_iload_n hF dL_packet_3 rfl rfl ?_
  refine x_iload_n hF dL_packet_4 rfl rfl ?_
  rcases ow_some h with ⟨v, S2, hcall, h⟩ | ⟨e, S2, hcall, h⟩
  · refine x_xVi hF hN hR (cxX7_packet hF.tr hcall) mwX7_packet miX7_packet sh0 ck6 (by decide) tw_739 ⟨by decide, by decide⟩ rfl rfl (Nat.le_of_ble_eq_true rfl) dL_packet_5 ?_
    refine x_i2l hF dL_packet_8 ?_
    obtain ⟨T, eT, h⟩ := ol_some h
    refine x_last (j := 0) hF sh90 (by decide) (by decide) (by decide) eT dL_packet_9 ?_
    refine x_goto (tgt := 21) hF dL_packet_10 (by decide) ?_
    refine x_iconst (v := (0 : Int32)) hF dL_packet_21 (by decide) ?_
    obtain ⟨rfl, rfl⟩ := sm h
    exact hret.1 _ _ _ _ (by decide) rfl dL_packet_22
  · refine x_xVt hF hN hR (cxX7_packet hF.tr hcall) mwX7_packet miX7_packet sh0 ck6 (by decide) tw_739 ⟨by decide, by decide⟩ rfl rfl (Nat.le_of_ble_eq_true rfl) dL_packet_5 ?_
    by_cases he : e = 0
    · have h := oi_pos he h
      subst he
      refine hret.2 _ _ 0 0 10 13 13 _ _ [] [(0, 10, 17, 15)] rfl (by decide) (by decide) tw_581 (by decide) (by simp) (fun q => ?_)
      refine x_astore [(4, _), (0, _), (1, _), (2, _), (3, _)] hF hN dL_packet_13 (by decide) rfl ?_
      refine x_iconst (v := (1 : Int32)) hF dL_packet_15 (by decide) ?_
      obtain ⟨rfl, rfl⟩ := sm h
      exact hret.1 _ _ _ _ (by decide) rfl dL_packet_16
    have h := oi_neg he h
    by_cases he : e = 1
    · have h := oi_pos he h
      subst he
      refine hret.2 _ _ 1 0 10 17 15 _ _ [(0, 10, 13, 13)] [] rfl (by decide) (by decide) tw_582 (by decide) (List.forall_mem_cons.mpr ⟨⟨by decide, 0, by decide, tw_581⟩, (by simp)⟩) (fun q => ?_)
      refine x_astore [(4, _), (0, _), (1, _), (2, _), (3, _)] hF hN dL_packet_17 (by decide) rfl ?_
      refine x_iconst (v := (2 : Int32)) hF dL_packet_19 (by decide) ?_
      obtain ⟨rfl, rfl⟩ := sm h
      exact hret.1 _ _ _ _ (by decide) rfl dL_packet_20
    have h := oi_neg he h
    cases h
noncomputable def L_setCapacity (x1 : Int32) (S : St) : Option (Int32 × St) :=
  ow (X7_setCapacity x1 S) (fun v S2 => ol (sl S2 90 0 v.toInt64) (fun T => some ((0 : Int32), T))) (fun e S2 => oi (e = 1) (some ((1 : Int32), S2)) (none))
set_option maxHeartbeats 4000000 in
set_option maxRecDepth 20000 in
theorem cwL_setCapacity {l : Launch} {G : Ga} {x1 : Int32} (hl : l.stackTraces = false) {S : St} {r : Int32} {S1 : St} (h : L_setCapacity x1 S = some (r, S1)) : CW l G 8 1 yL_setCapacity cL_setCapacity 4 [(0, 9, 12, 15)] [.ref (G.1 0), .int x1, .ref (G.1 90)] S (some (.int r)) S1 := by
  refine cw_of hl (by decide) (Nat.le_of_ble_eq_true rfl) (fun F hFl hFG hF hN hR hret => ?_)
  subst hFl hFG
  show X F 0 0 [(0, .ref (gA F 0)), (1, .int x1), (2, .ref (gA F 90))] [] S
  unfold L_setCapacity at h
  refine x_aload_n hF dL_setCapacity_0 rfl rfl ?_
  refine x_iconst (v := (0 : Int32)) hF dL_setCapacity_1 (by decide) ?_
  refine x_aload_n hF dL_setCapacity_2 rfl rfl ?_
  refine x_iload_n hF dL_setCapacity_3 rfl rfl ?_
  rcases ow_some h with ⟨v, S2, hcall, h⟩ | ⟨e, S2, hcall, h⟩
  · refine x_xVi hF hN hR (cxX7_setCapacity hF.tr hcall) mwX7_setCapacity miX7_setCapacity sh0 ck6 (by decide) tw_747 ⟨by decide, by decide⟩ rfl rfl (Nat.le_of_ble_eq_true rfl) dL_setCapacity_4 ?_
    refine x_i2l hF dL_setCapacity_7 ?_
    obtain ⟨T, eT, h⟩ := ol_some h
    refine x_last (j := 0) hF sh90 (by decide) (by decide) (by decide) eT dL_setCapacity_8 ?_
    refine x_goto (tgt := 15) hF dL_setCapacity_9 (by decide) ?_
    refine x_iconst (v := (0 : Int32)) hF dL_setCapacity_15 (by decide) ?_
    obtain ⟨rfl, rfl⟩ := sm h
    exact hret.1 _ _ _ _ (by decide) rfl dL_setCapacity_16
  · refine x_xVt hF hN hR (cxX7_setCapacity hF.tr hcall) mwX7_setCapacity miX7_setCapacity sh0 ck6 (by decide) tw_747 ⟨by decide, by decide⟩ rfl rfl (Nat.le_of_ble_eq_true rfl) dL_setCapacity_4 ?_
    by_cases he : e = 1
    · have h := oi_pos he h
      subst he
      refine hret.2 _ _ 1 0 9 12 15 _ _ [] [] rfl (by decide) (by decide) tw_582 (by decide) (by simp) (fun q => ?_)
      refine x_astore_n [(3, _), (0, _), (1, _), (2, _)] hF hN dL_setCapacity_12 rfl (by decide) rfl ?_
      refine x_iconst (v := (1 : Int32)) hF dL_setCapacity_13 (by decide) ?_
      obtain ⟨rfl, rfl⟩ := sm h
      exact hret.1 _ _ _ _ (by decide) rfl dL_setCapacity_14
    have h := oi_neg he h
    cases h
noncomputable def L_setRate (x1 : Int32) (S : St) : Option (Int32 × St) :=
  ow (X7_setRate x1 S) (fun v S2 => ol (sl S2 90 0 v.toInt64) (fun T => some ((0 : Int32), T))) (fun e S2 => oi (e = 1) (some ((1 : Int32), S2)) (none))
set_option maxHeartbeats 4000000 in
set_option maxRecDepth 20000 in
theorem cwL_setRate {l : Launch} {G : Ga} {x1 : Int32} (hl : l.stackTraces = false) {S : St} {r : Int32} {S1 : St} (h : L_setRate x1 S = some (r, S1)) : CW l G 8 1 yL_setRate cL_setRate 4 [(0, 9, 12, 15)] [.ref (G.1 0), .int x1, .ref (G.1 90)] S (some (.int r)) S1 := by
  refine cw_of hl (by decide) (Nat.le_of_ble_eq_true rfl) (fun F hFl hFG hF hN hR hret => ?_)
  subst hFl hFG
  show X F 0 0 [(0, .ref (gA F 0)), (1, .int x1), (2, .ref (gA F 90))] [] S
  unfold L_setRate at h
  refine x_aload_n hF dL_setRate_0 rfl rfl ?_
  refine x_iconst (v := (0 : Int32)) hF dL_setRate_1 (by decide) ?_
  refine x_aload_n hF dL_setRate_2 rfl rfl ?_
  refine x_iload_n hF dL_setRate_3 rfl rfl ?_
  rcases ow_some h with ⟨v, S2, hcall, h⟩ | ⟨e, S2, hcall, h⟩
  · refine x_xVi hF hN hR (cxX7_setRate hF.tr hcall) mwX7_setRate miX7_setRate sh0 ck6 (by decide) tw_766 ⟨by decide, by decide⟩ rfl rfl (Nat.le_of_ble_eq_true rfl) dL_setRate_4 ?_
    refine x_i2l hF dL_setRate_7 ?_
    obtain ⟨T, eT, h⟩ := ol_some h
    refine x_last (j := 0) hF sh90 (by decide) (by decide) (by decide) eT dL_setRate_8 ?_
    refine x_goto (tgt := 15) hF dL_setRate_9 (by decide) ?_
    refine x_iconst (v := (0 : Int32)) hF dL_setRate_15 (by decide) ?_
    obtain ⟨rfl, rfl⟩ := sm h
    exact hret.1 _ _ _ _ (by decide) rfl dL_setRate_16
  · refine x_xVt hF hN hR (cxX7_setRate hF.tr hcall) mwX7_setRate miX7_setRate sh0 ck6 (by decide) tw_766 ⟨by decide, by decide⟩ rfl rfl (Nat.le_of_ble_eq_true rfl) dL_setRate_4 ?_
    by_cases he : e = 1
    · have h := oi_pos he h
      subst he
      refine hret.2 _ _ 1 0 9 12 15 _ _ [] [] rfl (by decide) (by decide) tw_582 (by decide) (by simp) (fun q => ?_)
      refine x_astore_n [(3, _), (0, _), (1, _), (2, _)] hF hN dL_setRate_12 rfl (by decide) rfl ?_
      refine x_iconst (v := (1 : Int32)) hF dL_setRate_13 (by decide) ?_
      obtain ⟨rfl, rfl⟩ := sm h
      exact hret.1 _ _ _ _ (by decide) rfl dL_setRate_14
    have h := oi_neg he h
    cases h
noncomputable def L_setPolicy (x1 : Int32) (S : St) : Option (Int32 × St) :=
  ow (X7_setPolicy x1 S) (fun v S2 => ol (sl S2 90 0 v.toInt64) (fun T => some ((0 : Int32), T))) (fun e S2 => oi (e = 1) (some ((1 : Int32), S2)) (none))
set_option maxHeartbeats 4000000 in
set_option maxRecDepth 20000 in
theorem cwL_setPolicy {l : Launch} {G : Ga} {x1 : Int32} (hl : l.stackTraces = false) {S : St} {r : Int32} {S1 : St} (h : L_setPolicy x1 S = some (r, S1)) : CW l G 8 1 yL_setPolicy cL_setPolicy 4 [(0, 9, 12, 15)] [.ref (G.1 0), .int x1, .ref (G.1 90)] S (some (.int r)) S1 := by
  refine cw_of hl (by decide) (Nat.le_of_ble_eq_true rfl) (fun F hFl hFG hF hN hR hret => ?_)
  subst hFl hFG
  show X F 0 0 [(0, .ref (gA F 0)), (1, .int x1), (2, .ref (gA F 90))] [] S
  unfold L_setPolicy at h
  refine x_aload_n hF dL_setPolicy_0 rfl rfl ?_
  refine x_iconst (v := (0 : Int32)) hF dL_setPolicy_1 (by decide) ?_
  refine x_aload_n hF dL_setPolicy_2 rfl rfl ?_
  refine x_iload_n hF dL_setPolicy_3 rfl rfl ?_
  rcases ow_some h with ⟨v, S2, hcall, h⟩ | ⟨e, S2, hcall, h⟩
  · refine x_xVi hF hN hR (cxX7_setPolicy hF.tr hcall) mwX7_setPolicy miX7_setPolicy sh0 ck6 (by decide) tw_773 ⟨by decide, by decide⟩ rfl rfl (Nat.le_of_ble_eq_true rfl) dL_setPolicy_4 ?_
    refine x_i2l hF dL_setPolicy_7 ?_
    obtain ⟨T, eT, h⟩ := ol_some h
    refine x_last (j := 0) hF sh90 (by decide) (by decide) (by decide) eT dL_setPolicy_8 ?_
    refine x_goto (tgt := 15) hF dL_setPolicy_9 (by decide) ?_
    refine x_iconst (v := (0 : Int32)) hF dL_setPolicy_15 (by decide) ?_
    obtain ⟨rfl, rfl⟩ := sm h
    exact hret.1 _ _ _ _ (by decide) rfl dL_setPolicy_16
  · refine x_xVt hF hN hR (cxX7_setPolicy hF.tr hcall) mwX7_setPolicy miX7_setPolicy sh0 ck6 (by decide) tw_773 ⟨by decide, by decide⟩ rfl rfl (Nat.le_of_ble_eq_true rfl) dL_setPolicy_4 ?_
    by_cases he : e = 1
    · have h := oi_pos he h
      subst he
      refine hret.2 _ _ 1 0 9 12 15 _ _ [] [] rfl (by decide) (by decide) tw_582 (by decide) (by simp) (fun q => ?_)
      refine x_astore_n [(3, _), (0, _), (1, _), (2, _)] hF hN dL_setPolicy_12 rfl (by decide) rfl ?_
      refine x_iconst (v := (1 : Int32)) hF dL_setPolicy_13 (by decide) ?_
      obtain ⟨rfl, rfl⟩ := sm h
      exact hret.1 _ _ _ _ (by decide) rfl dL_setPolicy_14
    have h := oi_neg he h
    cases h
noncomputable def L_setScheduler (x1 : Int32) (S : St) : Option (Int32 × St) :=
  ow (X7_setScheduler x1 S) (fun v S2 => ol (sl S2 90 0 v.toInt64) (fun T => some ((0 : Int32), T))) (fun e S2 => oi (e = 1) (some ((1 : Int32), S2)) (none))
set_option maxHeartbeats 4000000 in
set_option maxRecDepth 20000 in
theorem cwL_setScheduler {l : Launch} {G : Ga} {x1 : Int32} (hl : l.stackTraces = false) {S : St} {r : Int32} {S1 : St} (h : L_setScheduler x1 S = some (r, S1)) : CW l G 8 1 yL_setScheduler cL_setScheduler 4 [(0, 9, 12, 15)] [.ref (G.1 0), .int x1, .ref (G.1 90)] S (some (.int r)) S1 := by
  refine cw_of hl (by decide) (Nat.le_of_ble_eq_true rfl) (fun F hFl hFG hF hN hR hret => ?_)
  subst hFl hFG
  show X F 0 0 [(0, .ref (gA F 0)), (1, .int x1), (2, .ref (gA F 90))] [] S
  unfold L_setScheduler at h
  refine x_aload_n hF dL_setScheduler_0 rfl rfl ?_
  refine x_iconst (v := (0 : Int32)) hF dL_setScheduler_1 (by decide) ?_
  refine x_aload_n hF dL_setScheduler_2 rfl rfl ?_
  refine x_iload_n hF dL_setScheduler_3 rfl rfl ?_
  rcases ow_some h with ⟨v, S2, hcall, h⟩ | ⟨e, S2, hcall, h⟩
  · refine x_xVi hF hN hR (cxX7_setScheduler hF.tr hcall) mwX7_setScheduler miX7_setScheduler sh0 ck6 (by decide) tw_780 ⟨by decide, by decide⟩ rfl rfl (Nat.le_of_ble_eq_true rfl) dL_setScheduler_4 ?_
    refine x_i2l hF dL_setScheduler_7 ?_
    obtain ⟨T, eT, h⟩ := ol_some h
    refine x_last (j := 0) hF sh90 (by decide) (by decide) (by decide) eT dL_setScheduler_8 ?_
    refine x_goto (tgt := 15) hF dL_setScheduler_9 (by decide) ?_
    refine x_iconst (v := (0 : Int32)) hF dL_setScheduler_15 (by decide) ?_
    obtain ⟨rfl, rfl⟩ := sm h
    exact hret.1 _ _ _ _ (by decide) rfl dL_setScheduler_16
  · refine x_xVt hF hN hR (cxX7_setScheduler hF.tr hcall) mwX7_setScheduler miX7_setScheduler sh0 ck6 (by decide) tw_780 ⟨by decide, by decide⟩ rfl rfl (Nat.le_of_ble_eq_true rfl) dL_setScheduler_4 ?_
    by_cases he : e = 1
    · have h := oi_pos he h
      subst he
      refine hret.2 _ _ 1 0 9 12 15 _ _ [] [] rfl (by decide) (by decide) tw_582 (by decide) (by simp) (fun q => ?_)
      refine x_astore_n [(3, _), (0, _), (1, _), (2, _)] hF hN dL_setScheduler_12 rfl (by decide) rfl ?_
      refine x_iconst (v := (1 : Int32)) hF dL_setScheduler_13 (by decide) ?_
      obtain ⟨rfl, rfl⟩ := sm h
      exact hret.1 _ _ _ _ (by decide) rfl dL_setScheduler_14
    have h := oi_neg he h
    cases h
noncomputable def L_setFactor (x1 : Int32) (S : St) : Option (Int32 × St) :=
  ow (X7_setFactor x1 S) (fun v S2 => ol (sl S2 90 0 v.toInt64) (fun T => some ((0 : Int32), T))) (fun e S2 => oi (e = 1) (some ((1 : Int32), S2)) (none))
set_option maxHeartbeats 4000000 in
set_option maxRecDepth 20000 in
theorem cwL_setFactor {l : Launch} {G : Ga} {x1 : Int32} (hl : l.stackTraces = false) {S : St} {r : Int32} {S1 : St} (h : L_setFactor x1 S = some (r, S1)) : CW l G 8 1 yL_setFactor cL_setFactor 4 [(0, 9, 12, 15)] [.ref (G.1 0), .int x1, .ref (G.1 90)] S (some (.int r)) S1 := by
  refine cw_of hl (by decide) (Nat.le_of_ble_eq_true rfl) (fun F hFl hFG hF hN hR hret => ?_)
  subst hFl hFG
  show X F 0 0 [(0, .ref (gA F 0)), (1, .int x1), (2, .ref (gA F 90))] [] S
  unfold L_setFactor at h
  refine x_aload_n hF dL_setFactor_0 rfl rfl ?_
  refine x_iconst (v := (0 : Int32)) hF dL_setFactor_1 (by decide) ?_
  refine x_aload_n hF dL_setFactor_2 rfl rfl ?_
  refine x_iload_n hF dL_setFactor_3 rfl rfl ?_
  rcases ow_some h with ⟨v, S2, hcall, h⟩ | ⟨e, S2, hcall, h⟩
  · refine x_xVi hF hN hR (cxX7_setFactor hF.tr hcall) mwX7_setFactor miX7_setFactor sh0 ck6 (by decide) tw_787 ⟨by decide, by decide⟩ rfl rfl (Nat.le_of_ble_eq_true rfl) dL_setFactor_4 ?_
    refine x_i2l hF dL_setFactor_7 ?_
    obtain ⟨T, eT, h⟩ := ol_some h
    refine x_last (j := 0) hF sh90 (by decide) (by decide) (by decide) eT dL_setFactor_8 ?_
    refine x_goto (tgt := 15) hF dL_setFactor_9 (by decide) ?_
    refine x_iconst (v := (0 : Int32)) hF dL_setFactor_15 (by decide) ?_
    obtain ⟨rfl, rfl⟩ := sm h
    exact hret.1 _ _ _ _ (by decide) rfl dL_setFactor_16
  · refine x_xVt hF hN hR (cxX7_setFactor hF.tr hcall) mwX7_setFactor miX7_setFactor sh0 ck6 (by decide) tw_787 ⟨by decide, by decide⟩ rfl rfl (Nat.le_of_ble_eq_true rfl) dL_setFactor_4 ?_
    by_cases he : e = 1
    · have h := oi_pos he h
      subst he
      refine hret.2 _ _ 1 0 9 12 15 _ _ [] [] rfl (by decide) (by decide) tw_582 (by decide) (by simp) (fun q => ?_)
      refine x_astore_n [(3, _), (0, _), (1, _), (2, _)] hF hN dL_setFactor_12 rfl (by decide) rfl ?_
      refine x_iconst (v := (1 : Int32)) hF dL_setFactor_13 (by decide) ?_
      obtain ⟨rfl, rfl⟩ := sm h
      exact hret.1 _ _ _ _ (by decide) rfl dL_setFactor_14
    have h := oi_neg he h
    cases h
noncomputable def L_setThreshold (x1 : Int32) (S : St) : Option (Int32 × St) :=
  ow (X7_setThreshold x1 S) (fun v S2 => ol (sl S2 90 0 v.toInt64) (fun T => some ((0 : Int32), T))) (fun e S2 => oi (e = 1) (some ((1 : Int32), S2)) (none))
set_option maxHeartbeats 4000000 in
set_option maxRecDepth 20000 in
theorem cwL_setThreshold {l : Launch} {G : Ga} {x1 : Int32} (hl : l.stackTraces = false) {S : St} {r : Int32} {S1 : St} (h : L_setThreshold x1 S = some (r, S1)) : CW l G 8 1 yL_setThreshold cL_setThreshold 4 [(0, 9, 12, 15)] [.ref (G.1 0), .int x1, .ref (G.1 90)] S (some (.int r)) S1 := by
  refine cw_of hl (by decide) (Nat.le_of_ble_eq_true rfl) (fun F hFl hFG hF hN hR hret => ?_)
  subst hFl hFG
  show X F 0 0 [(0, .ref (gA F 0)), (1, .int x1), (2, .ref (gA F 90))] [] S
  unfold L_setThreshold at h
  refine x_aload_n hF dL_setThreshold_0 rfl rfl ?_
  refine x_iconst (v := (0 : Int32)) hF dL_setThreshold_1 (by decide) ?_
  refine x_aload_n hF dL_setThreshold_2 rfl rfl ?_
  refine x_iload_n hF dL_setThreshold_3 rfl rfl ?_
  rcases ow_some h with ⟨v, S2, hcall, h⟩ | ⟨e, S2, hcall, h⟩
  · refine x_xVi hF hN hR (cxX7_setThreshold hF.tr hcall) mwX7_setThreshold miX7_setThreshold sh0 ck6 (by decide) tw_794 ⟨by decide, by decide⟩ rfl rfl (Nat.le_of_ble_eq_true rfl) dL_setThreshold_4 ?_
    refine x_i2l hF dL_setThreshold_7 ?_
    obtain ⟨T, eT, h⟩ := ol_some h
    refine x_last (j := 0) hF sh90 (by decide) (by decide) (by decide) eT dL_setThreshold_8 ?_
    refine x_goto (tgt := 15) hF dL_setThreshold_9 (by decide) ?_
    refine x_iconst (v := (0 : Int32)) hF dL_setThreshold_15 (by decide) ?_
    obtain ⟨rfl, rfl⟩ := sm h
    exact hret.1 _ _ _ _ (by decide) rfl dL_setThreshold_16
  · refine x_xVt hF hN hR (cxX7_setThreshold hF.tr hcall) mwX7_setThreshold miX7_setThreshold sh0 ck6 (by decide) tw_794 ⟨by decide, by decide⟩ rfl rfl (Nat.le_of_ble_eq_true rfl) dL_setThreshold_4 ?_
    by_cases he : e = 1
    · have h := oi_pos he h
      subst he
      refine hret.2 _ _ 1 0 9 12 15 _ _ [] [] rfl (by decide) (by decide) tw_582 (by decide) (by simp) (fun q => ?_)
      refine x_astore_n [(3, _), (0, _), (1, _), (2, _)] hF hN dL_setThreshold_12 rfl (by decide) rfl ?_
      refine x_iconst (v := (1 : Int32)) hF dL_setThreshold_13 (by decide) ?_
      obtain ⟨rfl, rfl⟩ := sm h
      exact hret.1 _ _ _ _ (by decide) rfl dL_setThreshold_14
    have h := oi_neg he h
    cases h
noncomputable def L_setInterval (x1 : Int32) (S : St) : Option (Int32 × St) :=
  ow (X7_setInterval x1 S) (fun v S2 => ol (sl S2 90 0 v.toInt64) (fun T => some ((0 : Int32), T))) (fun e S2 => oi (e = 1) (some ((1 : Int32), S2)) (none))
set_option maxHeartbeats 4000000 in
set_option maxRecDepth 20000 in
theorem cwL_setInterval {l : Launch} {G : Ga} {x1 : Int32} (hl : l.stackTraces = false) {S : St} {r : Int32} {S1 : St} (h : L_setInterval x1 S = some (r, S1)) : CW l G 8 1 yL_setInterval cL_setInterval 4 [(0, 9, 12, 15)] [.ref (G.1 0), .int x1, .ref (G.1 90)] S (some (.int r)) S1 := by
  refine cw_of hl (by decide) (Nat.le_of_ble_eq_true rfl) (fun F hFl hFG hF hN hR hret => ?_)
  subst hFl hFG
  show X F 0 0 [(0, .ref (gA F 0)), (1, .int x1), (2, .ref (gA F 90))] [] S
  unfold L_setInterval at h
  refine x_aload_n hF dL_setInterval_0 rfl rfl ?_
  refine x_iconst (v := (0 : Int32)) hF dL_setInterval_1 (by decide) ?_
  refine x_aload_n hF dL_setInterval_2 rfl rfl ?_
  refine x_iload_n hF dL_setInterval_3 rfl rfl ?_
  rcases ow_some h with ⟨v, S2, hcall, h⟩ | ⟨e, S2, hcall, h⟩
  · refine x_xVi hF hN hR (cxX7_setInterval hF.tr hcall) mwX7_setInterval miX7_setInterval sh0 ck6 (by decide) tw_801 ⟨by decide, by decide⟩ rfl rfl (Nat.le_of_ble_eq_true rfl) dL_setInterval_4 ?_
    refine x_i2l hF dL_setInterval_7 ?_
    obtain ⟨T, eT, h⟩ := ol_some h
    refine x_last (j := 0) hF sh90 (by decide) (by decide) (by decide) eT dL_setInterval_8 ?_
    refine x_goto (tgt := 15) hF dL_setInterval_9 (by decide) ?_
    refine x_iconst (v := (0 : Int32)) hF dL_setInterval_15 (by decide) ?_
    obtain ⟨rfl, rfl⟩ := sm h
    exact hret.1 _ _ _ _ (by decide) rfl dL_setInterval_16
  · refine x_xVt hF hN hR (cxX7_setInterval hF.tr hcall) mwX7_setInterval miX7_setInterval sh0 ck6 (by decide) tw_801 ⟨by decide, by decide⟩ rfl rfl (Nat.le_of_ble_eq_true rfl) dL_setInterval_4 ?_
    by_cases he : e = 1
    · have h := oi_pos he h
      subst he
      refine hret.2 _ _ 1 0 9 12 15 _ _ [] [] rfl (by decide) (by decide) tw_582 (by decide) (by simp) (fun q => ?_)
      refine x_astore_n [(3, _), (0, _), (1, _), (2, _)] hF hN dL_setInterval_12 rfl (by decide) rfl ?_
      refine x_iconst (v := (1 : Int32)) hF dL_setInterval_13 (by decide) ?_
      obtain ⟨rfl, rfl⟩ := sm h
      exact hret.1 _ _ _ _ (by decide) rfl dL_setInterval_14
    have h := oi_neg he h
    cases h
noncomputable def L_setMeasure (x1 : Int32) (S : St) : Option (Int32 × St) :=
  ow (X7_setMeasure x1 S) (fun v S2 => ol (sl S2 90 0 v.toInt64) (fun T => some ((0 : Int32), T))) (fun e S2 => oi (e = 1) (some ((1 : Int32), S2)) (none))
set_option maxHeartbeats 4000000 in
set_option maxRecDepth 20000 in
theorem cwL_setMeasure {l : Launch} {G : Ga} {x1 : Int32} (hl : l.stackTraces = false) {S : St} {r : Int32} {S1 : St} (h : L_setMeasure x1 S = some (r, S1)) : CW l G 8 1 yL_setMeasure cL_setMeasure 4 [(0, 9, 12, 15)] [.ref (G.1 0), .int x1, .ref (G.1 90)] S (some (.int r)) S1 := by
  refine cw_of hl (by decide) (Nat.le_of_ble_eq_true rfl) (fun F hFl hFG hF hN hR hret => ?_)
  subst hFl hFG
  show X F 0 0 [(0, .ref (gA F 0)), (1, .int x1), (2, .ref (gA F 90))] [] S
  unfold L_setMeasure at h
  refine x_aload_n hF dL_setMeasure_0 rfl rfl ?_
  refine x_iconst (v := (0 : Int32)) hF dL_setMeasure_1 (by decide) ?_
  refine x_aload_n hF dL_setMeasure_2 rfl rfl ?_
  refine x_iload_n hF dL_setMeasure_3 rfl rfl ?_
  rcases ow_some h with ⟨v, S2, hcall, h⟩ | ⟨e, S2, hcall, h⟩
  · refine x_xVi hF hN hR (cxX7_setMeasure hF.tr hcall) mwX7_setMeasure miX7_setMeasure sh0 ck6 (by decide) tw_808 ⟨by decide, by decide⟩ rfl rfl (Nat.le_of_ble_eq_true rfl) dL_setMeasure_4 ?_
    refine x_i2l hF dL_setMeasure_7 ?_
    obtain ⟨T, eT, h⟩ := ol_some h
    refine x_last (j := 0) hF sh90 (by decide) (by decide) (by decide) eT dL_setMeasure_8 ?_
    refine x_goto (tgt := 15) hF dL_setMeasure_9 (by decide) ?_
    refine x_iconst (v := (0 : Int32)) hF dL_setMeasure_15 (by decide) ?_
    obtain ⟨rfl, rfl⟩ := sm h
    exact hret.1 _ _ _ _ (by decide) rfl dL_setMeasure_16
  · refine x_xVt hF hN hR (cxX7_setMeasure hF.tr hcall) mwX7_setMeasure miX7_setMeasure sh0 ck6 (by decide) tw_808 ⟨by decide, by decide⟩ rfl rfl (Nat.le_of_ble_eq_true rfl) dL_setMeasure_4 ?_
    by_cases he : e = 1
    · have h := oi_pos he h
      subst he
      refine hret.2 _ _ 1 0 9 12 15 _ _ [] [] rfl (by decide) (by decide) tw_582 (by decide) (by simp) (fun q => ?_)
      refine x_astore_n [(3, _), (0, _), (1, _), (2, _)] hF hN dL_setMeasure_12 rfl (by decide) rfl ?_
      refine x_iconst (v := (1 : Int32)) hF dL_setMeasure_13 (by decide) ?_
      obtain ⟨rfl, rfl⟩ := sm h
      exact hret.1 _ _ _ _ (by decide) rfl dL_setMeasure_14
    have h := oi_neg he h
    cases h
noncomputable def L_setPriority (x1 : Int32) (x2 : Int32) (S : St) : Option (Int32 × St) :=
  ow (X7_setPriority x1 x2 S) (fun v S2 => ol (sl S2 90 0 v.toInt64) (fun T => some ((0 : Int32), T))) (fun e S2 => oi (e = 0) (some ((1 : Int32), S2)) (oi (e = 1) (some ((2 : Int32), S2)) (none)))
set_option maxHeartbeats 4000000 in
set_option maxRecDepth 20000 in
theorem cwL_setPriority {l : Launch} {G : Ga} {x1 : Int32} {x2 : Int32} (hl : l.stackTraces = false) {S : St} {r : Int32} {S1 : St} (h : L_setPriority x1 x2 S = some (r, S1)) : CW l G 8 2 yL_setPriority cL_setPriority 5 [(0, 10, 13, 13), (0, 10, 17, 15)] [.ref (G.1 0), .int x1, .int x2, .ref (G.1 90)] S (some (.int r)) S1 := by
  refine cw_of hl (by decide) (Nat.le_of_ble_eq_true rfl) (fun F hFl hFG hF hN hR hret => ?_)
  subst hFl hFG
  show X F 0 0 [(0, .ref (gA F 0)), (1, .int x1), (2, .int x2), (3, .ref (gA F 90))] [] S
  unfold L_setPriority at h
  refine x_aload_n hF dL_setPriority_0 rfl rfl ?_
  refine x_iconst (v := (0 : Int32)) hF dL_setPriority_1 (by decide) ?_
  refine x_aload_n hF dL_setPriority_2 rfl rfl ?_
  refine x_iload_n hF dL_setPriority_3 rfl rfl ?_
  refine x_iload_n hF dL_setPriority_4 rfl rfl ?_
  rcases ow_some h with ⟨v, S2, hcall, h⟩ | ⟨e, S2, hcall, h⟩
  · refine x_xVi hF hN hR (cxX7_setPriority hF.tr hcall) mwX7_setPriority miX7_setPriority sh0 ck6 (by decide) tw_815 ⟨by decide, by decide⟩ rfl rfl (Nat.le_of_ble_eq_true rfl) dL_setPriority_5 ?_
    refine x_i2l hF dL_setPriority_8 ?_
    obtain ⟨T, eT, h⟩ := ol_some h
    refine x_last (j := 0) hF sh90 (by decide) (by decide) (by decide) eT dL_setPriority_9 ?_
    refine x_goto (tgt := 21) hF dL_setPriority_10 (by decide) ?_
    refine x_iconst (v := (0 : Int32)) hF dL_setPriority_21 (by decide) ?_
    obtain ⟨rfl, rfl⟩ := sm h
    exact hret.1 _ _ _ _ (by decide) rfl dL_setPriority_22
  · refine x_xVt hF hN hR (cxX7_setPriority hF.tr hcall) mwX7_setPriority miX7_setPriority sh0 ck6 (by decide) tw_815 ⟨by decide, by decide⟩ rfl rfl (Nat.le_of_ble_eq_true rfl) dL_setPriority_5 ?_
    by_cases he : e = 0
    · have h := oi_pos he h
      subst he
      refine hret.2 _ _ 0 0 10 13 13 _ _ [] [(0, 10, 17, 15)] rfl (by decide) (by decide) tw_581 (by decide) (by simp) (fun q => ?_)
      refine x_astore [(4, _), (0, _), (1, _), (2, _), (3, _)] hF hN dL_setPriority_13 (by decide) rfl ?_
      refine x_iconst (v := (1 : Int32)) hF dL_setPriority_15 (by decide) ?_
      obtain ⟨rfl, rfl⟩ := sm h
      exact hret.1 _ _ _ _ (by decide) rfl dL_setPriority_16
    have h := oi_neg he h
    by_cases he : e = 1
    · have h := oi_pos he h
      subst he
      refine hret.2 _ _ 1 0 10 17 15 _ _ [(0, 10, 13, 13)] [] rfl (by decide) (by decide) tw_582 (by decide) (List.forall_mem_cons.mpr ⟨⟨by decide, 0, by decide, tw_581⟩, (by simp)⟩) (fun q => ?_)
      refine x_astore [(4, _), (0, _), (1, _), (2, _), (3, _)] hF hN dL_setPriority_17 (by decide) rfl ?_
      refine x_iconst (v := (2 : Int32)) hF dL_setPriority_19 (by decide) ?_
      obtain ⟨rfl, rfl⟩ := sm h
      exact hret.1 _ _ _ _ (by decide) rfl dL_setPriority_20
    have h := oi_neg he h
    cases h
noncomputable def L_replay (x1 : Int32) (S : St) : Option (Int32 × St) :=
  ow (X7_replay x1 S) (fun v S2 => ol (sl S2 90 0 v.toInt64) (fun T => some ((0 : Int32), T))) (fun e S2 => oi (e = 1) (some ((1 : Int32), S2)) (none))
set_option maxHeartbeats 4000000 in
set_option maxRecDepth 20000 in
theorem cwL_replay {l : Launch} {G : Ga} {x1 : Int32} (hl : l.stackTraces = false) {S : St} {r : Int32} {S1 : St} (h : L_replay x1 S = some (r, S1)) : CW l G 8 1 yL_replay cL_replay 4 [(0, 9, 12, 15)] [.ref (G.1 0), .int x1, .ref (G.1 90)] S (some (.int r)) S1 := by
  refine cw_of hl (by decide) (Nat.le_of_ble_eq_true rfl) (fun F hFl hFG hF hN hR hret => ?_)
  subst hFl hFG
  show X F 0 0 [(0, .ref (gA F 0)), (1, .int x1), (2, .ref (gA F 90))] [] S
  unfold L_replay at h
  refine x_aload_n hF dL_replay_0 rfl rfl ?_
  refine x_iconst (v := (0 : Int32)) hF dL_replay_1 (by decide) ?_
  refine x_aload_n hF dL_replay_2 rfl rfl ?_
  refine x_iload_n hF dL_replay_3 rfl rfl ?_
  rcases ow_some h with ⟨v, S2, hcall, h⟩ | ⟨e, S2, hcall, h⟩
  · refine x_xVi hF hN hR (cxX7_replay hF.tr hcall) mwX7_replay miX7_replay sh0 ck6 (by decide) tw_822 ⟨by decide, by decide⟩ rfl rfl (Nat.le_of_ble_eq_true rfl) dL_replay_4 ?_
    refine x_i2l hF dL_replay_7 ?_
    obtain ⟨T, eT, h⟩ := ol_some h
    refine x_last (j := 0) hF sh90 (by decide) (by decide) (by decide) eT dL_replay_8 ?_
    refine x_goto (tgt := 15) hF dL_replay_9 (by decide) ?_
    refine x_iconst (v := (0 : Int32)) hF dL_replay_15 (by decide) ?_
    obtain ⟨rfl, rfl⟩ := sm h
    exact hret.1 _ _ _ _ (by decide) rfl dL_replay_16
  · refine x_xVt hF hN hR (cxX7_replay hF.tr hcall) mwX7_replay miX7_replay sh0 ck6 (by decide) tw_822 ⟨by decide, by decide⟩ rfl rfl (Nat.le_of_ble_eq_true rfl) dL_replay_4 ?_
    by_cases he : e = 1
    · have h := oi_pos he h
      subst he
      refine hret.2 _ _ 1 0 9 12 15 _ _ [] [] rfl (by decide) (by decide) tw_582 (by decide) (by simp) (fun q => ?_)
      refine x_astore_n [(3, _), (0, _), (1, _), (2, _)] hF hN dL_replay_12 rfl (by decide) rfl ?_
      refine x_iconst (v := (1 : Int32)) hF dL_replay_13 (by decide) ?_
      obtain ⟨rfl, rfl⟩ := sm h
      exact hret.1 _ _ _ _ (by decide) rfl dL_replay_14
    have h := oi_neg he h
    cases h
noncomputable def L_worth (x1 : Int32) (S : St) : Option (Int32 × St) :=
  ow (X7_worth x1 S) (fun v S2 => ol (sl S2 90 0 v.toInt64) (fun T => some ((0 : Int32), T))) (fun e S2 => oi (e = 1) (some ((1 : Int32), S2)) (none))
set_option maxHeartbeats 4000000 in
set_option maxRecDepth 20000 in
theorem cwL_worth {l : Launch} {G : Ga} {x1 : Int32} (hl : l.stackTraces = false) {S : St} {r : Int32} {S1 : St} (h : L_worth x1 S = some (r, S1)) : CW l G 8 1 yL_worth cL_worth 4 [(0, 9, 12, 15)] [.ref (G.1 0), .int x1, .ref (G.1 90)] S (some (.int r)) S1 := by
  refine cw_of hl (by decide) (Nat.le_of_ble_eq_true rfl) (fun F hFl hFG hF hN hR hret => ?_)
  subst hFl hFG
  show X F 0 0 [(0, .ref (gA F 0)), (1, .int x1), (2, .ref (gA F 90))] [] S
  unfold L_worth at h
  refine x_aload_n hF dL_worth_0 rfl rfl ?_
  refine x_iconst (v := (0 : Int32)) hF dL_worth_1 (by decide) ?_
  refine x_aload_n hF dL_worth_2 rfl rfl ?_
  refine x_iload_n hF dL_worth_3 rfl rfl ?_
  rcases ow_some h with ⟨v, S2, hcall, h⟩ | ⟨e, S2, hcall, h⟩
  · refine x_xVi hF hN hR (cxX7_worth hF.tr hcall) mwX7_worth miX7_worth sh0 ck6 (by decide) tw_833 ⟨by decide, by decide⟩ rfl rfl (Nat.le_of_ble_eq_true rfl) dL_worth_4 ?_
    refine x_i2l hF dL_worth_7 ?_
    obtain ⟨T, eT, h⟩ := ol_some h
    refine x_last (j := 0) hF sh90 (by decide) (by decide) (by decide) eT dL_worth_8 ?_
    refine x_goto (tgt := 15) hF dL_worth_9 (by decide) ?_
    refine x_iconst (v := (0 : Int32)) hF dL_worth_15 (by decide) ?_
    obtain ⟨rfl, rfl⟩ := sm h
    exact hret.1 _ _ _ _ (by decide) rfl dL_worth_16
  · refine x_xVt hF hN hR (cxX7_worth hF.tr hcall) mwX7_worth miX7_worth sh0 ck6 (by decide) tw_833 ⟨by decide, by decide⟩ rfl rfl (Nat.le_of_ble_eq_true rfl) dL_worth_4 ?_
    by_cases he : e = 1
    · have h := oi_pos he h
      subst he
      refine hret.2 _ _ 1 0 9 12 15 _ _ [] [] rfl (by decide) (by decide) tw_582 (by decide) (by simp) (fun q => ?_)
      refine x_astore_n [(3, _), (0, _), (1, _), (2, _)] hF hN dL_worth_12 rfl (by decide) rfl ?_
      refine x_iconst (v := (1 : Int32)) hF dL_worth_13 (by decide) ?_
      obtain ⟨rfl, rfl⟩ := sm h
      exact hret.1 _ _ _ _ (by decide) rfl dL_worth_14
    have h := oi_neg he h
    cases h
noncomputable def L_worthFor (x1 : Int32) (x2 : Int32) (S : St) : Option (Int32 × St) :=
  ow (X7_worthFor x1 x2 S) (fun v S2 => ol (sl S2 90 0 v.toInt64) (fun T => some ((0 : Int32), T))) (fun e S2 => oi (e = 0) (some ((1 : Int32), S2)) (oi (e = 1) (some ((2 : Int32), S2)) (none)))
set_option maxHeartbeats 4000000 in
set_option maxRecDepth 20000 in
theorem cwL_worthFor {l : Launch} {G : Ga} {x1 : Int32} {x2 : Int32} (hl : l.stackTraces = false) {S : St} {r : Int32} {S1 : St} (h : L_worthFor x1 x2 S = some (r, S1)) : CW l G 8 2 yL_worthFor cL_worthFor 5 [(0, 10, 13, 13), (0, 10, 17, 15)] [.ref (G.1 0), .int x1, .int x2, .ref (G.1 90)] S (some (.int r)) S1 := by
  refine cw_of hl (by decide) (Nat.le_of_ble_eq_true rfl) (fun F hFl hFG hF hN hR hret => ?_)
  subst hFl hFG
  show X F 0 0 [(0, .ref (gA F 0)), (1, .int x1), (2, .int x2), (3, .ref (gA F 90))] [] S
  unfold L_worthFor at h
  refine x_aload_n hF dL_worthFor_0 rfl rfl ?_
  refine x_iconst (v := (0 : Int32)) hF dL_worthFor_1 (by decide) ?_
  refine x_aload_n hF dL_worthFor_2 rfl rfl ?_
  refine x_iload_n hF dL_worthFor_3 rfl rfl ?_
  refine x_iload_n hF dL_worthFor_4 rfl rfl ?_
  rcases ow_some h with ⟨v, S2, hcall, h⟩ | ⟨e, S2, hcall, h⟩
  · refine x_xVi hF hN hR (cxX7_worthFor hF.tr hcall) mwX7_worthFor miX7_worthFor sh0 ck6 (by decide) tw_840 ⟨by decide, by decide⟩ rfl rfl (Nat.le_of_ble_eq_true rfl) dL_worthFor_5 ?_
    refine x_i2l hF dL_worthFor_8 ?_
    obtain ⟨T, eT, h⟩ := ol_some h
    refine x_last (j := 0) hF sh90 (by decide) (by decide) (by decide) eT dL_worthFor_9 ?_
    refine x_goto (tgt := 21) hF dL_worthFor_10 (by decide) ?_
    refine x_iconst (v := (0 : Int32)) hF dL_worthFor_21 (by decide) ?_
    obtain ⟨rfl, rfl⟩ := sm h
    exact hret.1 _ _ _ _ (by decide) rfl dL_worthFor_22
  · refine x_xVt hF hN hR (cxX7_worthFor hF.tr hcall) mwX7_worthFor miX7_worthFor sh0 ck6 (by decide) tw_840 ⟨by decide, by decide⟩ rfl rfl (Nat.le_of_ble_eq_true rfl) dL_worthFor_5 ?_
    by_cases he : e = 0
    · have h := oi_pos he h
      subst he
      refine hret.2 _ _ 0 0 10 13 13 _ _ [] [(0, 10, 17, 15)] rfl (by decide) (by decide) tw_581 (by decide) (by simp) (fun q => ?_)
      refine x_astore [(4, _), (0, _), (1, _), (2, _), (3, _)] hF hN dL_worthFor_13 (by decide) rfl ?_
      refine x_iconst (v := (1 : Int32)) hF dL_worthFor_15 (by decide) ?_
      obtain ⟨rfl, rfl⟩ := sm h
      exact hret.1 _ _ _ _ (by decide) rfl dL_worthFor_16
    have h := oi_neg he h
    by_cases he : e = 1
    · have h := oi_pos he h
      subst he
      refine hret.2 _ _ 1 0 10 17 15 _ _ [(0, 10, 13, 13)] [] rfl (by decide) (by decide) tw_582 (by decide) (List.forall_mem_cons.mpr ⟨⟨by decide, 0, by decide, tw_581⟩, (by simp)⟩) (fun q => ?_)
      refine x_astore [(4, _), (0, _), (1, _), (2, _), (3, _)] hF hN dL_worthFor_17 (by decide) rfl ?_
      refine x_iconst (v := (2 : Int32)) hF dL_worthFor_19 (by decide) ?_
      obtain ⟨rfl, rfl⟩ := sm h
      exact hret.1 _ _ _ _ (by decide) rfl dL_worthFor_20
    have h := oi_neg he h
    cases h
noncomputable def L_contribution (x1 : Int32) (x2 : Int32) (S : St) : Option (Int32 × St) :=
  ow (X7_contribution x1 x2 S) (fun v S2 => ol (sl S2 90 0 v.toInt64) (fun T => some ((0 : Int32), T))) (fun e S2 => oi (e = 0) (some ((1 : Int32), S2)) (oi (e = 1) (some ((2 : Int32), S2)) (none)))
set_option maxHeartbeats 4000000 in
set_option maxRecDepth 20000 in
theorem cwL_contribution {l : Launch} {G : Ga} {x1 : Int32} {x2 : Int32} (hl : l.stackTraces = false) {S : St} {r : Int32} {S1 : St} (h : L_contribution x1 x2 S = some (r, S1)) : CW l G 8 3 yL_contribution cL_contribution 5 [(0, 10, 13, 13), (0, 10, 17, 15)] [.ref (G.1 0), .int x1, .int x2, .ref (G.1 90)] S (some (.int r)) S1 := by
  refine cw_of hl (by decide) (Nat.le_of_ble_eq_true rfl) (fun F hFl hFG hF hN hR hret => ?_)
  subst hFl hFG
  show X F 0 0 [(0, .ref (gA F 0)), (1, .int x1), (2, .int x2), (3, .ref (gA F 90))] [] S
  unfold L_contribution at h
  refine x_aload_n hF dL_contribution_0 rfl rfl ?_
  refine x_iconst (v := (0 : Int32)) hF dL_contribution_1 (by decide) ?_
  refine x_aload_n hF dL_contribution_2 rfl rfl ?_
  refine x_iload_n hF dL_contribution_3 rfl rfl ?_
  refine x_iload_n hF dL_contribution_4 rfl rfl ?_
  rcases ow_some h with ⟨v, S2, hcall, h⟩ | ⟨e, S2, hcall, h⟩
  · refine x_xVi hF hN hR (cxX7_contribution hF.tr hcall) mwX7_contribution miX7_contribution sh0 ck6 (by decide) tw_847 ⟨by decide, by decide⟩ rfl rfl (Nat.le_of_ble_eq_true rfl) dL_contribution_5 ?_
    refine x_i2l hF dL_contribution_8 ?_
    obtain ⟨T, eT, h⟩ := ol_some h
    refine x_last (j := 0) hF sh90 (by decide) (by decide) (by decide) eT dL_contribution_9 ?_
    refine x_goto (tgt := 21) hF dL_contribution_10 (by decide) ?_
    refine x_iconst (v := (0 : Int32)) hF dL_contribution_21 (by decide) ?_
    obtain ⟨rfl, rfl⟩ := sm h
    exact hret.1 _ _ _ _ (by decide) rfl dL_contribution_22
  · refine x_xVt hF hN hR (cxX7_contribution hF.tr hcall) mwX7_contribution miX7_contribution sh0 ck6 (by decide) tw_847 ⟨by decide, by decide⟩ rfl rfl (Nat.le_of_ble_eq_true rfl) dL_contribution_5 ?_
    by_cases he : e = 0
    · have h := oi_pos he h
      subst he
      refine hret.2 _ _ 0 0 10 13 13 _ _ [] [(0, 10, 17, 15)] rfl (by decide) (by decide) tw_581 (by decide) (by simp) (fun q => ?_)
      refine x_astore [(4, _), (0, _), (1, _), (2, _), (3, _)] hF hN dL_contribution_13 (by decide) rfl ?_
      refine x_iconst (v := (1 : Int32)) hF dL_contribution_15 (by decide) ?_
      obtain ⟨rfl, rfl⟩ := sm h
      exact hret.1 _ _ _ _ (by decide) rfl dL_contribution_16
    have h := oi_neg he h
    by_cases he : e = 1
    · have h := oi_pos he h
      subst he
      refine hret.2 _ _ 1 0 10 17 15 _ _ [(0, 10, 13, 13)] [] rfl (by decide) (by decide) tw_582 (by decide) (List.forall_mem_cons.mpr ⟨⟨by decide, 0, by decide, tw_581⟩, (by simp)⟩) (fun q => ?_)
      refine x_astore [(4, _), (0, _), (1, _), (2, _), (3, _)] hF hN dL_contribution_17 (by decide) rfl ?_
      refine x_iconst (v := (2 : Int32)) hF dL_contribution_19 (by decide) ?_
      obtain ⟨rfl, rfl⟩ := sm h
      exact hret.1 _ _ _ _ (by decide) rfl dL_contribution_20
    have h := oi_neg he h
    cases h
noncomputable def L_blame (x1 : Int32) (x2 : Int32) (S : St) : Option (Int32 × St) :=
  ow (X7_blame x1 x2 S) (fun v S2 => ol (sl S2 90 0 v.toInt64) (fun T => some ((0 : Int32), T))) (fun e S2 => oi (e = 0) (some ((1 : Int32), S2)) (oi (e = 1) (some ((2 : Int32), S2)) (none)))
set_option maxHeartbeats 4000000 in
set_option maxRecDepth 20000 in
theorem cwL_blame {l : Launch} {G : Ga} {x1 : Int32} {x2 : Int32} (hl : l.stackTraces = false) {S : St} {r : Int32} {S1 : St} (h : L_blame x1 x2 S = some (r, S1)) : CW l G 8 2 yL_blame cL_blame 5 [(0, 10, 13, 13), (0, 10, 17, 15)] [.ref (G.1 0), .int x1, .int x2, .ref (G.1 90)] S (some (.int r)) S1 := by
  refine cw_of hl (by decide) (Nat.le_of_ble_eq_true rfl) (fun F hFl hFG hF hN hR hret => ?_)
  subst hFl hFG
  show X F 0 0 [(0, .ref (gA F 0)), (1, .int x1), (2, .int x2), (3, .ref (gA F 90))] [] S
  unfold L_blame at h
  refine x_aload_n hF dL_blame_0 rfl rfl ?_
  refine x_iconst (v := (0 : Int32)) hF dL_blame_1 (by decide) ?_
  refine x_aload_n hF dL_blame_2 rfl rfl ?_
  refine x_iload_n hF dL_blame_3 rfl rfl ?_
  refine x_iload_n hF dL_blame_4 rfl rfl ?_
  rcases ow_some h with ⟨v, S2, hcall, h⟩ | ⟨e, S2, hcall, h⟩
  · refine x_xVi hF hN hR (cxX7_blame hF.tr hcall) mwX7_blame miX7_blame sh0 ck6 (by decide) tw_856 ⟨by decide, by decide⟩ rfl rfl (Nat.le_of_ble_eq_true rfl) dL_blame_5 ?_
    refine x_i2l hF dL_blame_8 ?_
    obtain ⟨T, eT, h⟩ := ol_some h
    refine x_last (j := 0) hF sh90 (by decide) (by decide) (by decide) eT dL_blame_9 ?_
    refine x_goto (tgt := 21) hF dL_blame_10 (by decide) ?_
    refine x_iconst (v := (0 : Int32)) hF dL_blame_21 (by decide) ?_
    obtain ⟨rfl, rfl⟩ := sm h
    exact hret.1 _ _ _ _ (by decide) rfl dL_blame_22
  · refine x_xVt hF hN hR (cxX7_blame hF.tr hcall) mwX7_blame miX7_blame sh0 ck6 (by decide) tw_856 ⟨by decide, by decide⟩ rfl rfl (Nat.le_of_ble_eq_true rfl) dL_blame_5 ?_
    by_cases he : e = 0
    · have h := oi_pos he h
      subst he
      refine hret.2 _ _ 0 0 10 13 13 _ _ [] [(0, 10, 17, 15)] rfl (by decide) (by decide) tw_581 (by decide) (by simp) (fun q => ?_)
      refine x_astore [(4, _), (0, _), (1, _), (2, _), (3, _)] hF hN dL_blame_13 (by decide) rfl ?_
      refine x_iconst (v := (1 : Int32)) hF dL_blame_15 (by decide) ?_
      obtain ⟨rfl, rfl⟩ := sm h
      exact hret.1 _ _ _ _ (by decide) rfl dL_blame_16
    have h := oi_neg he h
    by_cases he : e = 1
    · have h := oi_pos he h
      subst he
      refine hret.2 _ _ 1 0 10 17 15 _ _ [(0, 10, 13, 13)] [] rfl (by decide) (by decide) tw_582 (by decide) (List.forall_mem_cons.mpr ⟨⟨by decide, 0, by decide, tw_581⟩, (by simp)⟩) (fun q => ?_)
      refine x_astore [(4, _), (0, _), (1, _), (2, _), (3, _)] hF hN dL_blame_17 (by decide) rfl ?_
      refine x_iconst (v := (2 : Int32)) hF dL_blame_19 (by decide) ?_
      obtain ⟨rfl, rfl⟩ := sm h
      exact hret.1 _ _ _ _ (by decide) rfl dL_blame_20
    have h := oi_neg he h
    cases h
noncomputable def L_blameFor (x1 : Int32) (x2 : Int32) (x3 : Int32) (S : St) : Option (Int32 × St) :=
  ow (X7_blameFor x1 x2 x3 S) (fun v S2 => ol (sl S2 90 0 v.toInt64) (fun T => some ((0 : Int32), T))) (fun e S2 => oi (e = 0) (some ((1 : Int32), S2)) (oi (e = 1) (some ((2 : Int32), S2)) (none)))
set_option maxHeartbeats 4000000 in
set_option maxRecDepth 20000 in
theorem cwL_blameFor {l : Launch} {G : Ga} {x1 : Int32} {x2 : Int32} {x3 : Int32} (hl : l.stackTraces = false) {S : St} {r : Int32} {S1 : St} (h : L_blameFor x1 x2 x3 S = some (r, S1)) : CW l G 8 3 yL_blameFor cL_blameFor 6 [(0, 12, 15, 13), (0, 12, 19, 15)] [.ref (G.1 0), .int x1, .int x2, .int x3, .ref (G.1 90)] S (some (.int r)) S1 := by
  refine cw_of hl (by decide) (Nat.le_of_ble_eq_true rfl) (fun F hFl hFG hF hN hR hret => ?_)
  subst hFl hFG
  show X F 0 0 [(0, .ref (gA F 0)), (1, .int x1), (2, .int x2), (3, .int x3), (4, .ref (gA F 90))] [] S
  unfold L_blameFor at h
  refine x_aload hF dL_blameFor_0 rfl ?_
  refine x_iconst (v := (0 : Int32)) hF dL_blameFor_2 (by decide) ?_
  refine x_aload_n hF dL_blameFor_3 rfl rfl ?_
  refine x_iload_n hF dL_blameFor_4 rfl rfl ?_
  refine x_iload_n hF dL_blameFor_5 rfl rfl ?_
  refine x_iload_n hF dL_blameFor_6 rfl rfl ?_
  rcases ow_some h with ⟨v, S2, hcall, h⟩ | ⟨e, S2, hcall, h⟩
  · refine x_xVi hF hN hR (cxX7_blameFor hF.tr hcall) mwX7_blameFor miX7_blameFor sh0 ck6 (by decide) tw_893 ⟨by decide, by decide⟩ rfl rfl (Nat.le_of_ble_eq_true rfl) dL_blameFor_7 ?_
    refine x_i2l hF dL_blameFor_10 ?_
    obtain ⟨T, eT, h⟩ := ol_some h
    refine x_last (j := 0) hF sh90 (by decide) (by decide) (by decide) eT dL_blameFor_11 ?_
    refine x_goto (tgt := 23) hF dL_blameFor_12 (by decide) ?_
    refine x_iconst (v := (0 : Int32)) hF dL_blameFor_23 (by decide) ?_
    obtain ⟨rfl, rfl⟩ := sm h
    exact hret.1 _ _ _ _ (by decide) rfl dL_blameFor_24
  · refine x_xVt hF hN hR (cxX7_blameFor hF.tr hcall) mwX7_blameFor miX7_blameFor sh0 ck6 (by decide) tw_893 ⟨by decide, by decide⟩ rfl rfl (Nat.le_of_ble_eq_true rfl) dL_blameFor_7 ?_
    by_cases he : e = 0
    · have h := oi_pos he h
      subst he
      refine hret.2 _ _ 0 0 12 15 13 _ _ [] [(0, 12, 19, 15)] rfl (by decide) (by decide) tw_581 (by decide) (by simp) (fun q => ?_)
      refine x_astore [(5, _), (0, _), (1, _), (2, _), (3, _), (4, _)] hF hN dL_blameFor_15 (by decide) rfl ?_
      refine x_iconst (v := (1 : Int32)) hF dL_blameFor_17 (by decide) ?_
      obtain ⟨rfl, rfl⟩ := sm h
      exact hret.1 _ _ _ _ (by decide) rfl dL_blameFor_18
    have h := oi_neg he h
    by_cases he : e = 1
    · have h := oi_pos he h
      subst he
      refine hret.2 _ _ 1 0 12 19 15 _ _ [(0, 12, 15, 13)] [] rfl (by decide) (by decide) tw_582 (by decide) (List.forall_mem_cons.mpr ⟨⟨by decide, 0, by decide, tw_581⟩, (by simp)⟩) (fun q => ?_)
      refine x_astore [(5, _), (0, _), (1, _), (2, _), (3, _), (4, _)] hF hN dL_blameFor_19 (by decide) rfl ?_
      refine x_iconst (v := (2 : Int32)) hF dL_blameFor_21 (by decide) ?_
      obtain ⟨rfl, rfl⟩ := sm h
      exact hret.1 _ _ _ _ (by decide) rfl dL_blameFor_22
    have h := oi_neg he h
    cases h
noncomputable def L_index (x1 : Int32) (x2 : Int32) (S : St) : Option (Int32 × St) :=
  ow (X7_index x1 x2 S) (fun v S2 => ol (sl S2 90 0 v.toInt64) (fun T => some ((0 : Int32), T))) (fun e S2 => oi (e = 0) (some ((1 : Int32), S2)) (oi (e = 1) (some ((2 : Int32), S2)) (none)))
set_option maxHeartbeats 4000000 in
set_option maxRecDepth 20000 in
theorem cwL_index {l : Launch} {G : Ga} {x1 : Int32} {x2 : Int32} (hl : l.stackTraces = false) {S : St} {r : Int32} {S1 : St} (h : L_index x1 x2 S = some (r, S1)) : CW l G 8 2 yL_index cL_index 5 [(0, 10, 13, 13), (0, 10, 17, 15)] [.ref (G.1 0), .int x1, .int x2, .ref (G.1 90)] S (some (.int r)) S1 := by
  refine cw_of hl (by decide) (Nat.le_of_ble_eq_true rfl) (fun F hFl hFG hF hN hR hret => ?_)
  subst hFl hFG
  show X F 0 0 [(0, .ref (gA F 0)), (1, .int x1), (2, .int x2), (3, .ref (gA F 90))] [] S
  unfold L_index at h
  refine x_aload_n hF dL_index_0 rfl rfl ?_
  refine x_iconst (v := (0 : Int32)) hF dL_index_1 (by decide) ?_
  refine x_aload_n hF dL_index_2 rfl rfl ?_
  refine x_iload_n hF dL_index_3 rfl rfl ?_
  refine x_iload_n hF dL_index_4 rfl rfl ?_
  rcases ow_some h with ⟨v, S2, hcall, h⟩ | ⟨e, S2, hcall, h⟩
  · refine x_xVi hF hN hR (cxX7_index hF.tr hcall) mwX7_index miX7_index sh0 ck6 (by decide) tw_900 ⟨by decide, by decide⟩ rfl rfl (Nat.le_of_ble_eq_true rfl) dL_index_5 ?_
    refine x_i2l hF dL_index_8 ?_
    obtain ⟨T, eT, h⟩ := ol_some h
    refine x_last (j := 0) hF sh90 (by decide) (by decide) (by decide) eT dL_index_9 ?_
    refine x_goto (tgt := 21) hF dL_index_10 (by decide) ?_
    refine x_iconst (v := (0 : Int32)) hF dL_index_21 (by decide) ?_
    obtain ⟨rfl, rfl⟩ := sm h
    exact hret.1 _ _ _ _ (by decide) rfl dL_index_22
  · refine x_xVt hF hN hR (cxX7_index hF.tr hcall) mwX7_index miX7_index sh0 ck6 (by decide) tw_900 ⟨by decide, by decide⟩ rfl rfl (Nat.le_of_ble_eq_true rfl) dL_index_5 ?_
    by_cases he : e = 0
    · have h := oi_pos he h
      subst he
      refine hret.2 _ _ 0 0 10 13 13 _ _ [] [(0, 10, 17, 15)] rfl (by decide) (by decide) tw_581 (by decide) (by simp) (fun q => ?_)
      refine x_astore [(4, _), (0, _), (1, _), (2, _), (3, _)] hF hN dL_index_13 (by decide) rfl ?_
      refine x_iconst (v := (1 : Int32)) hF dL_index_15 (by decide) ?_
      obtain ⟨rfl, rfl⟩ := sm h
      exact hret.1 _ _ _ _ (by decide) rfl dL_index_16
    have h := oi_neg he h
    by_cases he : e = 1
    · have h := oi_pos he h
      subst he
      refine hret.2 _ _ 1 0 10 17 15 _ _ [(0, 10, 13, 13)] [] rfl (by decide) (by decide) tw_582 (by decide) (List.forall_mem_cons.mpr ⟨⟨by decide, 0, by decide, tw_581⟩, (by simp)⟩) (fun q => ?_)
      refine x_astore [(4, _), (0, _), (1, _), (2, _), (3, _)] hF hN dL_index_17 (by decide) rfl ?_
      refine x_iconst (v := (2 : Int32)) hF dL_index_19 (by decide) ?_
      obtain ⟨rfl, rfl⟩ := sm h
      exact hret.1 _ _ _ _ (by decide) rfl dL_index_20
    have h := oi_neg he h
    cases h
noncomputable def L_interaction (x1 : Int32) (x2 : Int32) (x3 : Int32) (S : St) : Option (Int32 × St) :=
  ow (X7_interaction x1 x2 x3 S) (fun v S2 => ol (sl S2 90 0 v.toInt64) (fun T => some ((0 : Int32), T))) (fun e S2 => oi (e = 0) (some ((1 : Int32), S2)) (oi (e = 1) (some ((2 : Int32), S2)) (none)))
set_option maxHeartbeats 4000000 in
set_option maxRecDepth 20000 in
theorem cwL_interaction {l : Launch} {G : Ga} {x1 : Int32} {x2 : Int32} {x3 : Int32} (hl : l.stackTraces = false) {S : St} {r : Int32} {S1 : St} (h : L_interaction x1 x2 x3 S = some (r, S1)) : CW l G 8 3 yL_interaction cL_interaction 6 [(0, 12, 15, 13), (0, 12, 19, 15)] [.ref (G.1 0), .int x1, .int x2, .int x3, .ref (G.1 90)] S (some (.int r)) S1 := by
  refine cw_of hl (by decide) (Nat.le_of_ble_eq_true rfl) (fun F hFl hFG hF hN hR hret => ?_)
  subst hFl hFG
  show X F 0 0 [(0, .ref (gA F 0)), (1, .int x1), (2, .int x2), (3, .int x3), (4, .ref (gA F 90))] [] S
  unfold L_interaction at h
  refine x_aload hF dL_interaction_0 rfl ?_
  refine x_iconst (v := (0 : Int32)) hF dL_interaction_2 (by decide) ?_
  refine x_aload_n hF dL_interaction_3 rfl rfl ?_
  refine x_iload_n hF dL_interaction_4 rfl rfl ?_
  refine x_iload_n hF dL_interaction_5 rfl rfl ?_
  refine x_iload_n hF dL_interaction_6 rfl rfl ?_
  rcases ow_some h with ⟨v, S2, hcall, h⟩ | ⟨e, S2, hcall, h⟩
  · refine x_xVi hF hN hR (cxX7_interaction hF.tr hcall) mwX7_interaction miX7_interaction sh0 ck6 (by decide) tw_911 ⟨by decide, by decide⟩ rfl rfl (Nat.le_of_ble_eq_true rfl) dL_interaction_7 ?_
    refine x_i2l hF dL_interaction_10 ?_
    obtain ⟨T, eT, h⟩ := ol_some h
    refine x_last (j := 0) hF sh90 (by decide) (by decide) (by decide) eT dL_interaction_11 ?_
    refine x_goto (tgt := 23) hF dL_interaction_12 (by decide) ?_
    refine x_iconst (v := (0 : Int32)) hF dL_interaction_23 (by decide) ?_
    obtain ⟨rfl, rfl⟩ := sm h
    exact hret.1 _ _ _ _ (by decide) rfl dL_interaction_24
  · refine x_xVt hF hN hR (cxX7_interaction hF.tr hcall) mwX7_interaction miX7_interaction sh0 ck6 (by decide) tw_911 ⟨by decide, by decide⟩ rfl rfl (Nat.le_of_ble_eq_true rfl) dL_interaction_7 ?_
    by_cases he : e = 0
    · have h := oi_pos he h
      subst he
      refine hret.2 _ _ 0 0 12 15 13 _ _ [] [(0, 12, 19, 15)] rfl (by decide) (by decide) tw_581 (by decide) (by simp) (fun q => ?_)
      refine x_astore [(5, _), (0, _), (1, _), (2, _), (3, _), (4, _)] hF hN dL_interaction_15 (by decide) rfl ?_
      refine x_iconst (v := (1 : Int32)) hF dL_interaction_17 (by decide) ?_
      obtain ⟨rfl, rfl⟩ := sm h
      exact hret.1 _ _ _ _ (by decide) rfl dL_interaction_18
    have h := oi_neg he h
    by_cases he : e = 1
    · have h := oi_pos he h
      subst he
      refine hret.2 _ _ 1 0 12 19 15 _ _ [(0, 12, 15, 13)] [] rfl (by decide) (by decide) tw_582 (by decide) (List.forall_mem_cons.mpr ⟨⟨by decide, 0, by decide, tw_581⟩, (by simp)⟩) (fun q => ?_)
      refine x_astore [(5, _), (0, _), (1, _), (2, _), (3, _), (4, _)] hF hN dL_interaction_19 (by decide) rfl ?_
      refine x_iconst (v := (2 : Int32)) hF dL_interaction_21 (by decide) ?_
      obtain ⟨rfl, rfl⟩ := sm h
      exact hret.1 _ _ _ _ (by decide) rfl dL_interaction_22
    have h := oi_neg he h
    cases h
noncomputable def L_ranked (x1 : Int32) (S : St) : Option (Int32 × St) :=
  ow (X7_ranked x1 S) (fun v S2 => ol (sl S2 90 0 v.toInt64) (fun T => some ((0 : Int32), T))) (fun e S2 => oi (e = 0) (some ((1 : Int32), S2)) (none))
set_option maxHeartbeats 4000000 in
set_option maxRecDepth 20000 in
theorem cwL_ranked {l : Launch} {G : Ga} {x1 : Int32} (hl : l.stackTraces = false) {S : St} {r : Int32} {S1 : St} (h : L_ranked x1 S = some (r, S1)) : CW l G 8 1 yL_ranked cL_ranked 4 [(0, 9, 12, 13)] [.ref (G.1 0), .int x1, .ref (G.1 90)] S (some (.int r)) S1 := by
  refine cw_of hl (by decide) (Nat.le_of_ble_eq_true rfl) (fun F hFl hFG hF hN hR hret => ?_)
  subst hFl hFG
  show X F 0 0 [(0, .ref (gA F 0)), (1, .int x1), (2, .ref (gA F 90))] [] S
  unfold L_ranked at h
  refine x_aload_n hF dL_ranked_0 rfl rfl ?_
  refine x_iconst (v := (0 : Int32)) hF dL_ranked_1 (by decide) ?_
  refine x_aload_n hF dL_ranked_2 rfl rfl ?_
  refine x_iload_n hF dL_ranked_3 rfl rfl ?_
  rcases ow_some h with ⟨v, S2, hcall, h⟩ | ⟨e, S2, hcall, h⟩
  · refine x_xVi hF hN hR (cxX7_ranked hF.tr hcall) mwX7_ranked miX7_ranked sh0 ck6 (by decide) tw_923 ⟨by decide, by decide⟩ rfl rfl (Nat.le_of_ble_eq_true rfl) dL_ranked_4 ?_
    refine x_i2l hF dL_ranked_7 ?_
    obtain ⟨T, eT, h⟩ := ol_some h
    refine x_last (j := 0) hF sh90 (by decide) (by decide) (by decide) eT dL_ranked_8 ?_
    refine x_goto (tgt := 15) hF dL_ranked_9 (by decide) ?_
    refine x_iconst (v := (0 : Int32)) hF dL_ranked_15 (by decide) ?_
    obtain ⟨rfl, rfl⟩ := sm h
    exact hret.1 _ _ _ _ (by decide) rfl dL_ranked_16
  · refine x_xVt hF hN hR (cxX7_ranked hF.tr hcall) mwX7_ranked miX7_ranked sh0 ck6 (by decide) tw_923 ⟨by decide, by decide⟩ rfl rfl (Nat.le_of_ble_eq_true rfl) dL_ranked_4 ?_
    by_cases he : e = 0
    · have h := oi_pos he h
      subst he
      refine hret.2 _ _ 0 0 9 12 13 _ _ [] [] rfl (by decide) (by decide) tw_581 (by decide) (by simp) (fun q => ?_)
      refine x_astore_n [(3, _), (0, _), (1, _), (2, _)] hF hN dL_ranked_12 rfl (by decide) rfl ?_
      refine x_iconst (v := (1 : Int32)) hF dL_ranked_13 (by decide) ?_
      obtain ⟨rfl, rfl⟩ := sm h
      exact hret.1 _ _ _ _ (by decide) rfl dL_ranked_14
    have h := oi_neg he h
    cases h
noncomputable def L_sampled (x1 : Int32) (x2 : Int32) (x3 : Int32) (S : St) : Option (Int32 × St) :=
  ow (X7_sampled x1 x2 x3 S) (fun v S2 => ol (sl S2 90 0 v.toInt64) (fun T => some ((0 : Int32), T))) (fun e S2 => oi (e = 0) (some ((1 : Int32), S2)) (oi (e = 1) (some ((2 : Int32), S2)) (none)))
set_option maxHeartbeats 4000000 in
set_option maxRecDepth 20000 in
theorem cwL_sampled {l : Launch} {G : Ga} {x1 : Int32} {x2 : Int32} {x3 : Int32} (hl : l.stackTraces = false) {S : St} {r : Int32} {S1 : St} (h : L_sampled x1 x2 x3 S = some (r, S1)) : CW l G 8 2 yL_sampled cL_sampled 6 [(0, 12, 15, 13), (0, 12, 19, 15)] [.ref (G.1 0), .int x1, .int x2, .int x3, .ref (G.1 90)] S (some (.int r)) S1 := by
  refine cw_of hl (by decide) (Nat.le_of_ble_eq_true rfl) (fun F hFl hFG hF hN hR hret => ?_)
  subst hFl hFG
  show X F 0 0 [(0, .ref (gA F 0)), (1, .int x1), (2, .int x2), (3, .int x3), (4, .ref (gA F 90))] [] S
  unfold L_sampled at h
  refine x_aload hF dL_sampled_0 rfl ?_
  refine x_iconst (v := (0 : Int32)) hF dL_sampled_2 (by decide) ?_
  refine x_aload_n hF dL_sampled_3 rfl rfl ?_
  refine x_iload_n hF dL_sampled_4 rfl rfl ?_
  refine x_iload_n hF dL_sampled_5 rfl rfl ?_
  refine x_iload_n hF dL_sampled_6 rfl rfl ?_
  rcases ow_some h with ⟨v, S2, hcall, h⟩ | ⟨e, S2, hcall, h⟩
  · refine x_xVi hF hN hR (cxX7_sampled hF.tr hcall) mwX7_sampled miX7_sampled sh0 ck6 (by decide) tw_934 ⟨by decide, by decide⟩ rfl rfl (Nat.le_of_ble_eq_true rfl) dL_sampled_7 ?_
    refine x_i2l hF dL_sampled_10 ?_
    obtain ⟨T, eT, h⟩ := ol_some h
    refine x_last (j := 0) hF sh90 (by decide) (by decide) (by decide) eT dL_sampled_11 ?_
    refine x_goto (tgt := 23) hF dL_sampled_12 (by decide) ?_
    refine x_iconst (v := (0 : Int32)) hF dL_sampled_23 (by decide) ?_
    obtain ⟨rfl, rfl⟩ := sm h
    exact hret.1 _ _ _ _ (by decide) rfl dL_sampled_24
  · refine x_xVt hF hN hR (cxX7_sampled hF.tr hcall) mwX7_sampled miX7_sampled sh0 ck6 (by decide) tw_934 ⟨by decide, by decide⟩ rfl rfl (Nat.le_of_ble_eq_true rfl) dL_sampled_7 ?_
    by_cases he : e = 0
    · have h := oi_pos he h
      subst he
      refine hret.2 _ _ 0 0 12 15 13 _ _ [] [(0, 12, 19, 15)] rfl (by decide) (by decide) tw_581 (by decide) (by simp) (fun q => ?_)
      refine x_astore [(5, _), (0, _), (1, _), (2, _), (3, _), (4, _)] hF hN dL_sampled_15 (by decide) rfl ?_
      refine x_iconst (v := (1 : Int32)) hF dL_sampled_17 (by decide) ?_
      obtain ⟨rfl, rfl⟩ := sm h
      exact hret.1 _ _ _ _ (by decide) rfl dL_sampled_18
    have h := oi_neg he h
    by_cases he : e = 1
    · have h := oi_pos he h
      subst he
      refine hret.2 _ _ 1 0 12 19 15 _ _ [(0, 12, 15, 13)] [] rfl (by decide) (by decide) tw_582 (by decide) (List.forall_mem_cons.mpr ⟨⟨by decide, 0, by decide, tw_581⟩, (by simp)⟩) (fun q => ?_)
      refine x_astore [(5, _), (0, _), (1, _), (2, _), (3, _), (4, _)] hF hN dL_sampled_19 (by decide) rfl ?_
      refine x_iconst (v := (2 : Int32)) hF dL_sampled_21 (by decide) ?_
      obtain ⟨rfl, rfl⟩ := sm h
      exact hret.1 _ _ _ _ (by decide) rfl dL_sampled_22
    have h := oi_neg he h
    cases h
noncomputable def L_cause (x1 : Int32) (S : St) : Option (Int32 × St) :=
  ow (X7_cause x1 S) (fun v S2 => ol (sl S2 90 0 v.toInt64) (fun T => some ((0 : Int32), T))) (fun e S2 => oi (e = 0) (some ((1 : Int32), S2)) (none))
set_option maxHeartbeats 4000000 in
set_option maxRecDepth 20000 in
theorem cwL_cause {l : Launch} {G : Ga} {x1 : Int32} (hl : l.stackTraces = false) {S : St} {r : Int32} {S1 : St} (h : L_cause x1 S = some (r, S1)) : CW l G 9 1 yL_cause cL_cause 4 [(0, 9, 12, 13)] [.ref (G.1 0), .int x1, .ref (G.1 90)] S (some (.int r)) S1 := by
  refine cw_of hl (by decide) (Nat.le_of_ble_eq_true rfl) (fun F hFl hFG hF hN hR hret => ?_)
  subst hFl hFG
  show X F 0 0 [(0, .ref (gA F 0)), (1, .int x1), (2, .ref (gA F 90))] [] S
  unfold L_cause at h
  refine x_aload_n hF dL_cause_0 rfl rfl ?_
  refine x_iconst (v := (0 : Int32)) hF dL_cause_1 (by decide) ?_
  refine x_aload_n hF dL_cause_2 rfl rfl ?_
  refine x_iload_n hF dL_cause_3 rfl rfl ?_
  rcases ow_some h with ⟨v, S2, hcall, h⟩ | ⟨e, S2, hcall, h⟩
  · refine x_xVi hF hN hR (cxX7_cause hF.tr hcall) mwX7_cause miX7_cause sh0 ck6 (by decide) tw_953 ⟨by decide, by decide⟩ rfl rfl (Nat.le_of_ble_eq_true rfl) dL_cause_4 ?_
    refine x_i2l hF dL_cause_7 ?_
    obtain ⟨T, eT, h⟩ := ol_some h
    refine x_last (j := 0) hF sh90 (by decide) (by decide) (by decide) eT dL_cause_8 ?_
    refine x_goto (tgt := 15) hF dL_cause_9 (by decide) ?_
    refine x_iconst (v := (0 : Int32)) hF dL_cause_15 (by decide) ?_
    obtain ⟨rfl, rfl⟩ := sm h
    exact hret.1 _ _ _ _ (by decide) rfl dL_cause_16
  · refine x_xVt hF hN hR (cxX7_cause hF.tr hcall) mwX7_cause miX7_cause sh0 ck6 (by decide) tw_953 ⟨by decide, by decide⟩ rfl rfl (Nat.le_of_ble_eq_true rfl) dL_cause_4 ?_
    by_cases he : e = 0
    · have h := oi_pos he h
      subst he
      refine hret.2 _ _ 0 0 9 12 13 _ _ [] [] rfl (by decide) (by decide) tw_581 (by decide) (by simp) (fun q => ?_)
      refine x_astore_n [(3, _), (0, _), (1, _), (2, _)] hF hN dL_cause_12 rfl (by decide) rfl ?_
      refine x_iconst (v := (1 : Int32)) hF dL_cause_13 (by decide) ?_
      obtain ⟨rfl, rfl⟩ := sm h
      exact hret.1 _ _ _ _ (by decide) rfl dL_cause_14
    have h := oi_neg he h
    cases h
noncomputable def L_suspects (x1 : Int32) (S : St) : Option (Int32 × St) :=
  ow (X7_suspects x1 S) (fun v S2 => ol (sl S2 90 0 v.toInt64) (fun T => some ((0 : Int32), T))) (fun e S2 => oi (e = 0) (some ((1 : Int32), S2)) (none))
set_option maxHeartbeats 4000000 in
set_option maxRecDepth 20000 in
theorem cwL_suspects {l : Launch} {G : Ga} {x1 : Int32} (hl : l.stackTraces = false) {S : St} {r : Int32} {S1 : St} (h : L_suspects x1 S = some (r, S1)) : CW l G 9 1 yL_suspects cL_suspects 4 [(0, 9, 12, 13)] [.ref (G.1 0), .int x1, .ref (G.1 90)] S (some (.int r)) S1 := by
  refine cw_of hl (by decide) (Nat.le_of_ble_eq_true rfl) (fun F hFl hFG hF hN hR hret => ?_)
  subst hFl hFG
  show X F 0 0 [(0, .ref (gA F 0)), (1, .int x1), (2, .ref (gA F 90))] [] S
  unfold L_suspects at h
  refine x_aload_n hF dL_suspects_0 rfl rfl ?_
  refine x_iconst (v := (0 : Int32)) hF dL_suspects_1 (by decide) ?_
  refine x_aload_n hF dL_suspects_2 rfl rfl ?_
  refine x_iload_n hF dL_suspects_3 rfl rfl ?_
  rcases ow_some h with ⟨v, S2, hcall, h⟩ | ⟨e, S2, hcall, h⟩
  · refine x_xVi hF hN hR (cxX7_suspects hF.tr hcall) mwX7_suspects miX7_suspects sh0 ck6 (by decide) tw_972 ⟨by decide, by decide⟩ rfl rfl (Nat.le_of_ble_eq_true rfl) dL_suspects_4 ?_
    refine x_i2l hF dL_suspects_7 ?_
    obtain ⟨T, eT, h⟩ := ol_some h
    refine x_last (j := 0) hF sh90 (by decide) (by decide) (by decide) eT dL_suspects_8 ?_
    refine x_goto (tgt := 15) hF dL_suspects_9 (by decide) ?_
    refine x_iconst (v := (0 : Int32)) hF dL_suspects_15 (by decide) ?_
    obtain ⟨rfl, rfl⟩ := sm h
    exact hret.1 _ _ _ _ (by decide) rfl dL_suspects_16
  · refine x_xVt hF hN hR (cxX7_suspects hF.tr hcall) mwX7_suspects miX7_suspects sh0 ck6 (by decide) tw_972 ⟨by decide, by decide⟩ rfl rfl (Nat.le_of_ble_eq_true rfl) dL_suspects_4 ?_
    by_cases he : e = 0
    · have h := oi_pos he h
      subst he
      refine hret.2 _ _ 0 0 9 12 13 _ _ [] [] rfl (by decide) (by decide) tw_581 (by decide) (by simp) (fun q => ?_)
      refine x_astore_n [(3, _), (0, _), (1, _), (2, _)] hF hN dL_suspects_12 rfl (by decide) rfl ?_
      refine x_iconst (v := (1 : Int32)) hF dL_suspects_13 (by decide) ?_
      obtain ⟨rfl, rfl⟩ := sm h
      exact hret.1 _ _ _ _ (by decide) rfl dL_suspects_14
    have h := oi_neg he h
    cases h
noncomputable def L_capacityFor (x1 : Int32) (S : St) : Option (Int32 × St) :=
  ow (X7_capacityFor x1 S) (fun v S2 => ol (sl S2 90 0 v.toInt64) (fun T => some ((0 : Int32), T))) (fun e S2 => oi (e = 1) (some ((1 : Int32), S2)) (none))
set_option maxHeartbeats 4000000 in
set_option maxRecDepth 20000 in
theorem cwL_capacityFor {l : Launch} {G : Ga} {x1 : Int32} (hl : l.stackTraces = false) {S : St} {r : Int32} {S1 : St} (h : L_capacityFor x1 S = some (r, S1)) : CW l G 7 1 yL_capacityFor cL_capacityFor 4 [(0, 9, 12, 15)] [.ref (G.1 0), .int x1, .ref (G.1 90)] S (some (.int r)) S1 := by
  refine cw_of hl (by decide) (Nat.le_of_ble_eq_true rfl) (fun F hFl hFG hF hN hR hret => ?_)
  subst hFl hFG
  show X F 0 0 [(0, .ref (gA F 0)), (1, .int x1), (2, .ref (gA F 90))] [] S
  unfold L_capacityFor at h
  refine x_aload_n hF dL_capacityFor_0 rfl rfl ?_
  refine x_iconst (v := (0 : Int32)) hF dL_capacityFor_1 (by decide) ?_
  refine x_aload_n hF dL_capacityFor_2 rfl rfl ?_
  refine x_iload_n hF dL_capacityFor_3 rfl rfl ?_
  rcases ow_some h with ⟨v, S2, hcall, h⟩ | ⟨e, S2, hcall, h⟩
  · refine x_xVi hF hN hR (cxX7_capacityFor hF.tr hcall) mwX7_capacityFor miX7_capacityFor sh0 ck6 (by decide) tw_979 ⟨by decide, by decide⟩ rfl rfl (Nat.le_of_ble_eq_true rfl) dL_capacityFor_4 ?_
    refine x_i2l hF dL_capacityFor_7 ?_
    obtain ⟨T, eT, h⟩ := ol_some h
    refine x_last (j := 0) hF sh90 (by decide) (by decide) (by decide) eT dL_capacityFor_8 ?_
    refine x_goto (tgt := 15) hF dL_capacityFor_9 (by decide) ?_
    refine x_iconst (v := (0 : Int32)) hF dL_capacityFor_15 (by decide) ?_
    obtain ⟨rfl, rfl⟩ := sm h
    exact hret.1 _ _ _ _ (by decide) rfl dL_capacityFor_16
  · refine x_xVt hF hN hR (cxX7_capacityFor hF.tr hcall) mwX7_capacityFor miX7_capacityFor sh0 ck6 (by decide) tw_979 ⟨by decide, by decide⟩ rfl rfl (Nat.le_of_ble_eq_true rfl) dL_capacityFor_4 ?_
    by_cases he : e = 1
    · have h := oi_pos he h
      subst he
      refine hret.2 _ _ 1 0 9 12 15 _ _ [] [] rfl (by decide) (by decide) tw_582 (by decide) (by simp) (fun q => ?_)
      refine x_astore_n [(3, _), (0, _), (1, _), (2, _)] hF hN dL_capacityFor_12 rfl (by decide) rfl ?_
      refine x_iconst (v := (1 : Int32)) hF dL_capacityFor_13 (by decide) ?_
      obtain ⟨rfl, rfl⟩ := sm h
      exact hret.1 _ _ _ _ (by decide) rfl dL_capacityFor_14
    have h := oi_neg he h
    cases h
noncomputable def L_type (x1 : Int32) (S : St) : Option (Int32 × St) :=
  ow (X7_type x1 S) (fun v S2 => ol (sl S2 90 0 v.toInt64) (fun T => some ((0 : Int32), T))) (fun e S2 => oi (e = 1) (some ((1 : Int32), S2)) (oi (e = 2) (some ((2 : Int32), S2)) (none)))
set_option maxHeartbeats 4000000 in
set_option maxRecDepth 20000 in
theorem cwL_type {l : Launch} {G : Ga} {x1 : Int32} (hl : l.stackTraces = false) {S : St} {r : Int32} {S1 : St} (h : L_type x1 S = some (r, S1)) : CW l G 7 1 yL_type cL_type 4 [(0, 9, 12, 15), (0, 9, 15, 17)] [.ref (G.1 0), .int x1, .ref (G.1 90)] S (some (.int r)) S1 := by
  refine cw_of hl (by decide) (Nat.le_of_ble_eq_true rfl) (fun F hFl hFG hF hN hR hret => ?_)
  subst hFl hFG
  show X F 0 0 [(0, .ref (gA F 0)), (1, .int x1), (2, .ref (gA F 90))] [] S
  unfold L_type at h
  refine x_aload_n hF dL_type_0 rfl rfl ?_
  refine x_iconst (v := (0 : Int32)) hF dL_type_1 (by decide) ?_
  refine x_aload_n hF dL_type_2 rfl rfl ?_
  refine x_iload_n hF dL_type_3 rfl rfl ?_
  rcases ow_some h with ⟨v, S2, hcall, h⟩ | ⟨e, S2, hcall, h⟩
  · refine x_xVi hF hN hR (cxX7_type hF.tr hcall) mwX7_type miX7_type sh0 ck6 (by decide) tw_988 ⟨by decide, by decide⟩ rfl rfl (Nat.le_of_ble_eq_true rfl) dL_type_4 ?_
    refine x_i2l hF dL_type_7 ?_
    obtain ⟨T, eT, h⟩ := ol_some h
    refine x_last (j := 0) hF sh90 (by decide) (by decide) (by decide) eT dL_type_8 ?_
    refine x_goto (tgt := 18) hF dL_type_9 (by decide) ?_
    refine x_iconst (v := (0 : Int32)) hF dL_type_18 (by decide) ?_
    obtain ⟨rfl, rfl⟩ := sm h
    exact hret.1 _ _ _ _ (by decide) rfl dL_type_19
  · refine x_xVt hF hN hR (cxX7_type hF.tr hcall) mwX7_type miX7_type sh0 ck6 (by decide) tw_988 ⟨by decide, by decide⟩ rfl rfl (Nat.le_of_ble_eq_true rfl) dL_type_4 ?_
    by_cases he : e = 1
    · have h := oi_pos he h
      subst he
      refine hret.2 _ _ 1 0 9 12 15 _ _ [] [(0, 9, 15, 17)] rfl (by decide) (by decide) tw_582 (by decide) (by simp) (fun q => ?_)
      refine x_astore_n [(3, _), (0, _), (1, _), (2, _)] hF hN dL_type_12 rfl (by decide) rfl ?_
      refine x_iconst (v := (1 : Int32)) hF dL_type_13 (by decide) ?_
      obtain ⟨rfl, rfl⟩ := sm h
      exact hret.1 _ _ _ _ (by decide) rfl dL_type_14
    have h := oi_neg he h
    by_cases he : e = 2
    · have h := oi_pos he h
      subst he
      refine hret.2 _ _ 2 0 9 15 17 _ _ [(0, 9, 12, 15)] [] rfl (by decide) (by decide) tw_583 (by decide) (List.forall_mem_cons.mpr ⟨⟨by decide, 1, by decide, tw_582⟩, (by simp)⟩) (fun q => ?_)
      refine x_astore_n [(3, _), (0, _), (1, _), (2, _)] hF hN dL_type_15 rfl (by decide) rfl ?_
      refine x_iconst (v := (2 : Int32)) hF dL_type_16 (by decide) ?_
      obtain ⟨rfl, rfl⟩ := sm h
      exact hret.1 _ _ _ _ (by decide) rfl dL_type_17
    have h := oi_neg he h
    cases h
noncomputable def L_run (S : St) : Option (Int32 × St) :=
  ow (X7_run  S) (fun v S2 => ol (sl S2 90 0 v.toInt64) (fun T => some ((0 : Int32), T))) (fun e S2 => oi (e = 1) (some ((1 : Int32), S2)) (none))
set_option maxHeartbeats 4000000 in
set_option maxRecDepth 20000 in
theorem cwL_run {l : Launch} {G : Ga} (hl : l.stackTraces = false) {S : St} {r : Int32} {S1 : St} (h : L_run  S = some (r, S1)) : CW l G 8 1 yL_run cL_run 3 [(0, 8, 11, 15)] [.ref (G.1 0), .ref (G.1 90)] S (some (.int r)) S1 := by
  refine cw_of hl (by decide) (Nat.le_of_ble_eq_true rfl) (fun F hFl hFG hF hN hR hret => ?_)
  subst hFl hFG
  show X F 0 0 [(0, .ref (gA F 0)), (1, .ref (gA F 90))] [] S
  unfold L_run at h
  refine x_aload_n hF dL_run_0 rfl rfl ?_
  refine x_iconst (v := (0 : Int32)) hF dL_run_1 (by decide) ?_
  refine x_aload_n hF dL_run_2 rfl rfl ?_
  rcases ow_some h with ⟨v, S2, hcall, h⟩ | ⟨e, S2, hcall, h⟩
  · refine x_xVi hF hN hR (cxX7_run hF.tr hcall) mwX7_run miX7_run sh0 ck6 (by decide) tw_1006 ⟨by decide, by decide⟩ rfl rfl (Nat.le_of_ble_eq_true rfl) dL_run_3 ?_
    refine x_i2l hF dL_run_6 ?_
    obtain ⟨T, eT, h⟩ := ol_some h
    refine x_last (j := 0) hF sh90 (by decide) (by decide) (by decide) eT dL_run_7 ?_
    refine x_goto (tgt := 14) hF dL_run_8 (by decide) ?_
    refine x_iconst (v := (0 : Int32)) hF dL_run_14 (by decide) ?_
    obtain ⟨rfl, rfl⟩ := sm h
    exact hret.1 _ _ _ _ (by decide) rfl dL_run_15
  · refine x_xVt hF hN hR (cxX7_run hF.tr hcall) mwX7_run miX7_run sh0 ck6 (by decide) tw_1006 ⟨by decide, by decide⟩ rfl rfl (Nat.le_of_ble_eq_true rfl) dL_run_3 ?_
    by_cases he : e = 1
    · have h := oi_pos he h
      subst he
      refine hret.2 _ _ 1 0 8 11 15 _ _ [] [] rfl (by decide) (by decide) tw_582 (by decide) (by simp) (fun q => ?_)
      refine x_astore_n [(2, _), (0, _), (1, _)] hF hN dL_run_11 rfl (by decide) rfl ?_
      refine x_iconst (v := (1 : Int32)) hF dL_run_12 (by decide) ?_
      obtain ⟨rfl, rfl⟩ := sm h
      exact hret.1 _ _ _ _ (by decide) rfl dL_run_13
    have h := oi_neg he h
    cases h
noncomputable def L_undo (S : St) : Option (Int32 × St) :=
  ow (X7_undo  S) (fun v S2 => ol (sl S2 90 0 v.toInt64) (fun T => some ((0 : Int32), T))) (fun e S2 => oi (e = 2) (some ((1 : Int32), S2)) (none))
set_option maxHeartbeats 4000000 in
set_option maxRecDepth 20000 in
theorem cwL_undo {l : Launch} {G : Ga} (hl : l.stackTraces = false) {S : St} {r : Int32} {S1 : St} (h : L_undo  S = some (r, S1)) : CW l G 7 1 yL_undo cL_undo 3 [(0, 8, 11, 17)] [.ref (G.1 0), .ref (G.1 90)] S (some (.int r)) S1 := by
  refine cw_of hl (by decide) (Nat.le_of_ble_eq_true rfl) (fun F hFl hFG hF hN hR hret => ?_)
  subst hFl hFG
  show X F 0 0 [(0, .ref (gA F 0)), (1, .ref (gA F 90))] [] S
  unfold L_undo at h
  refine x_aload_n hF dL_undo_0 rfl rfl ?_
  refine x_iconst (v := (0 : Int32)) hF dL_undo_1 (by decide) ?_
  refine x_aload_n hF dL_undo_2 rfl rfl ?_
  rcases ow_some h with ⟨v, S2, hcall, h⟩ | ⟨e, S2, hcall, h⟩
  · refine x_xVi hF hN hR (cxX7_undo hF.tr hcall) mwX7_undo miX7_undo sh0 ck6 (by decide) tw_1027 ⟨by decide, by decide⟩ rfl rfl (Nat.le_of_ble_eq_true rfl) dL_undo_3 ?_
    refine x_i2l hF dL_undo_6 ?_
    obtain ⟨T, eT, h⟩ := ol_some h
    refine x_last (j := 0) hF sh90 (by decide) (by decide) (by decide) eT dL_undo_7 ?_
    refine x_goto (tgt := 14) hF dL_undo_8 (by decide) ?_
    refine x_iconst (v := (0 : Int32)) hF dL_undo_14 (by decide) ?_
    obtain ⟨rfl, rfl⟩ := sm h
    exact hret.1 _ _ _ _ (by decide) rfl dL_undo_15
  · refine x_xVt hF hN hR (cxX7_undo hF.tr hcall) mwX7_undo miX7_undo sh0 ck6 (by decide) tw_1027 ⟨by decide, by decide⟩ rfl rfl (Nat.le_of_ble_eq_true rfl) dL_undo_3 ?_
    by_cases he : e = 2
    · have h := oi_pos he h
      subst he
      refine hret.2 _ _ 2 0 8 11 17 _ _ [] [] rfl (by decide) (by decide) tw_583 (by decide) (by simp) (fun q => ?_)
      refine x_astore_n [(2, _), (0, _), (1, _)] hF hN dL_undo_11 rfl (by decide) rfl ?_
      refine x_iconst (v := (1 : Int32)) hF dL_undo_12 (by decide) ?_
      obtain ⟨rfl, rfl⟩ := sm h
      exact hret.1 _ _ _ _ (by decide) rfl dL_undo_13
    have h := oi_neg he h
    cases h
