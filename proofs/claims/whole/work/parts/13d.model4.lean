noncomputable def X8_cause_14 (x1 : Int32) (z1 : Int32) (S : St) : Option (Int32 × St) :=
  ob (X8_refuses z1 S) (fun r3 S4 => oi (r3 = 0) (ob (X8_smallest x1 S4) (fun r5 S6 => some (r5, S6))) (some ((0 : Int32), S4)))
set_option maxHeartbeats 4000000 in
set_option maxRecDepth 20000 in
theorem xX8_cause_14 {F : Cx} (hF : Ok F cX8_cause RX8) (hN : nLF F 2) (hR : RmF F 9 0) {x1 : Int32} {z1 : Int32} {K : Int32 → St → Prop} (hret : ∀ (v : Int32) (S : St) (pc : Nat) (ls : List (Nat × Value)), K v S → decode cX8_cause pc = .ok (.ireturn, 1) → X F 0 pc ls [.int v] S) {S : St} {r : Int32} {S1 : St} (h : X8_cause_14 x1 z1 S = some (r, S1)) (hk : K r S1) : X F 0 14 [(0, .ref (gA F 75)), (1, .int x1)] [.int z1, .ref (gA F 75)] S := by
  unfold X8_cause_14 at h
  obtain ⟨r3, S4, hcall, h⟩ := ob_some h
  refine x_cVi hF hN hR (ctX8_refuses hF.tr hcall) mwX8_refuses miX8_refuses sh75 ck7 (by decide) tw_1154 ⟨by decide, by decide⟩ rfl rfl (Nat.le_of_ble_eq_true rfl) dX8_cause_14 ?_
  refine x_if_eq (tgt := 24) hF dX8_cause_17 (by decide) (fun hc => ?_) (fun hc => ?_)
  · have h := oi_pos hc h
    refine x_aload_n hF dX8_cause_24 rfl rfl ?_
    refine x_iload_n hF dX8_cause_25 rfl rfl ?_
    obtain ⟨r5, S6, hcall, h⟩ := ob_some h
    refine x_cVi hF hN hR (ctX8_smallest hF.tr hcall) mwX8_smallest miX8_smallest sh75 ck7 (by decide) tw_1395 ⟨by decide, by decide⟩ rfl rfl (Nat.le_of_ble_eq_true rfl) dX8_cause_26 ?_
    obtain ⟨rfl, rfl⟩ := sm h
    exact hret _ _ _ _ hk dX8_cause_29
  · have h := oi_neg hc h
    refine x_iconst (v := (0 : Int32)) hF dX8_cause_20 (by decide) ?_
    refine x_goto (tgt := 29) hF dX8_cause_21 (by decide) ?_
    obtain ⟨rfl, rfl⟩ := sm h
    exact hret _ _ _ _ hk dX8_cause_29
noncomputable def X8_cause (x1 : Int32) (S : St) : Option (Int32 × St) :=
  ob (X8_isPacket x1 S) (fun r1 S2 => oi (r1 = 0) (X8_cause_14 x1 (1 : Int32) S2) (X8_cause_14 x1 (0 : Int32) S2))
set_option maxHeartbeats 4000000 in
set_option maxRecDepth 20000 in
theorem ctX8_cause {l : Launch} {G : Ga} {x1 : Int32} (hl : l.stackTraces = false) {S : St} {r : Int32} {S1 : St} (h : X8_cause x1 S = some (r, S1)) : CT l G 9 yX8_cause cX8_cause 2 (some .int) [.ref (G.1 75), .int x1] S (some (.int r)) S1 := by
  refine ct_of hl (by decide) (Nat.le_of_ble_eq_true rfl) (fun F hFl hFG hF hN hR hret => ?_)
  subst hFl hFG
  show X F 0 0 [(0, .ref (gA F 75)), (1, .int x1)] [] S
  have hret : ∀ (v : Int32) (S : St) (pc : Nat) (ls : List (Nat × Value)), (v = r ∧ S = S1) → decode cX8_cause pc = .ok (.ireturn, 1) → X F 0 pc ls [.int v] S := fun v S2 pc ls hq hd => by obtain ⟨rfl, rfl⟩ := hq; exact hret.1 pc ls v rfl rfl hd
  have hk : r = r ∧ S1 = S1 := ⟨rfl, rfl⟩
  unfold X8_cause at h
  refine x_aload_n hF dX8_cause_0 rfl rfl ?_
  refine x_aload_n hF dX8_cause_1 rfl rfl ?_
  refine x_iload_n hF dX8_cause_2 rfl rfl ?_
  obtain ⟨r1, S2, hcall, h⟩ := ob_some h
  refine x_cVi hF hN hR (ctX8_isPacket hF.tr hcall) mwX8_isPacket miX8_isPacket sh75 ck7 (by decide) tw_1174 ⟨by decide, by decide⟩ rfl rfl (Nat.le_of_ble_eq_true rfl) dX8_cause_3 ?_
  refine x_if_eq (tgt := 13) hF dX8_cause_6 (by decide) (fun hc => ?_) (fun hc => ?_)
  · have h := oi_pos hc h
    refine x_iconst (v := (1 : Int32)) hF dX8_cause_13 (by decide) ?_
    exact x_sub (xX8_cause_14 hF hN hR (K := fun v9 S9 => v9 = r ∧ S9 = S1) hret h hk) ⟨rfl, rfl, trivial⟩
  · have h := oi_neg hc h
    refine x_iconst (v := (0 : Int32)) hF dX8_cause_9 (by decide) ?_
    refine x_goto (tgt := 14) hF dX8_cause_10 (by decide) ?_
    exact x_sub (xX8_cause_14 hF hN hR (K := fun v9 S9 => v9 = r ∧ S9 = S1) hret h hk) ⟨rfl, rfl, trivial⟩
noncomputable def X8_suspects_14 (x1 : Int32) (z1 : Int32) (S : St) : Option (Int32 × St) :=
  ob (X8_refuses z1 S) (fun r3 S4 => oi (r3 = 0) (ob (X8_smallest x1 S4) (fun r5 S6 => oi (0 < r5) (some ((gi S6 75 25), S6)) (some ((0 : Int32), S6)))) (some ((0 : Int32), S4)))
set_option maxHeartbeats 4000000 in
set_option maxRecDepth 20000 in
theorem xX8_suspects_14 {F : Cx} (hF : Ok F cX8_suspects RX8) (hN : nLF F 3) (hR : RmF F 9 0) {x1 : Int32} {z1 : Int32} {K : Int32 → St → Prop} (hret : ∀ (v : Int32) (S : St) (pc : Nat) (ls : List (Nat × Value)), K v S → decode cX8_suspects pc = .ok (.ireturn, 1) → X F 0 pc ls [.int v] S) {S : St} {r : Int32} {S1 : St} (h : X8_suspects_14 x1 z1 S = some (r, S1)) (hk : K r S1) : X F 0 14 [(0, .ref (gA F 75)), (1, .int x1)] [.int z1, .ref (gA F 75)] S := by
  unfold X8_suspects_14 at h
  obtain ⟨r3, S4, hcall, h⟩ := ob_some h
  refine x_cVi hF hN hR (ctX8_refuses hF.tr hcall) mwX8_refuses miX8_refuses sh75 ck7 (by decide) tw_1154 ⟨by decide, by decide⟩ rfl rfl (Nat.le_of_ble_eq_true rfl) dX8_suspects_14 ?_
  refine x_if_eq (tgt := 22) hF dX8_suspects_17 (by decide) (fun hc => ?_) (fun hc => ?_)
  · have h := oi_pos hc h
    refine x_aload_n hF dX8_suspects_22 rfl rfl ?_
    refine x_iload_n hF dX8_suspects_23 rfl rfl ?_
    obtain ⟨r5, S6, hcall, h⟩ := ob_some h
    refine x_cVi hF hN hR (ctX8_smallest hF.tr hcall) mwX8_smallest miX8_smallest sh75 ck7 (by decide) tw_1395 ⟨by decide, by decide⟩ rfl rfl (Nat.le_of_ble_eq_true rfl) dX8_suspects_24 ?_
    refine x_istore_n [(2, _), (0, _), (1, _)] hF hN dX8_suspects_27 rfl (by decide) rfl ?_
    refine x_iload_n hF dX8_suspects_28 rfl rfl ?_
    refine x_if_gt (tgt := 36) hF dX8_suspects_29 (by decide) (fun hc => ?_) (fun hc => ?_)
    · have h := oi_pos hc h
      refine x_aload_n hF dX8_suspects_36 rfl rfl ?_
      refine x_geti hF sh75 25 rfl ck7 (by decide) (by decide) tw_1067 rfl dX8_suspects_37 ?_
      obtain ⟨rfl, rfl⟩ := sm h
      exact hret _ _ _ _ hk dX8_suspects_40
    · have h := oi_neg hc h
      refine x_iconst (v := (0 : Int32)) hF dX8_suspects_32 (by decide) ?_
      refine x_goto (tgt := 40) hF dX8_suspects_33 (by decide) ?_
      obtain ⟨rfl, rfl⟩ := sm h
      exact hret _ _ _ _ hk dX8_suspects_40
  · have h := oi_neg hc h
    refine x_iconst (v := (0 : Int32)) hF dX8_suspects_20 (by decide) ?_
    obtain ⟨rfl, rfl⟩ := sm h
    exact hret _ _ _ _ hk dX8_suspects_21
noncomputable def X8_suspects (x1 : Int32) (S : St) : Option (Int32 × St) :=
  ob (X8_isPacket x1 S) (fun r1 S2 => oi (r1 = 0) (X8_suspects_14 x1 (1 : Int32) S2) (X8_suspects_14 x1 (0 : Int32) S2))
set_option maxHeartbeats 4000000 in
set_option maxRecDepth 20000 in
theorem ctX8_suspects {l : Launch} {G : Ga} {x1 : Int32} (hl : l.stackTraces = false) {S : St} {r : Int32} {S1 : St} (h : X8_suspects x1 S = some (r, S1)) : CT l G 9 yX8_suspects cX8_suspects 3 (some .int) [.ref (G.1 75), .int x1] S (some (.int r)) S1 := by
  refine ct_of hl (by decide) (Nat.le_of_ble_eq_true rfl) (fun F hFl hFG hF hN hR hret => ?_)
  subst hFl hFG
  show X F 0 0 [(0, .ref (gA F 75)), (1, .int x1)] [] S
  have hret : ∀ (v : Int32) (S : St) (pc : Nat) (ls : List (Nat × Value)), (v = r ∧ S = S1) → decode cX8_suspects pc = .ok (.ireturn, 1) → X F 0 pc ls [.int v] S := fun v S2 pc ls hq hd => by obtain ⟨rfl, rfl⟩ := hq; exact hret.1 pc ls v rfl rfl hd
  have hk : r = r ∧ S1 = S1 := ⟨rfl, rfl⟩
  unfold X8_suspects at h
  refine x_aload_n hF dX8_suspects_0 rfl rfl ?_
  refine x_aload_n hF dX8_suspects_1 rfl rfl ?_
  refine x_iload_n hF dX8_suspects_2 rfl rfl ?_
  obtain ⟨r1, S2, hcall, h⟩ := ob_some h
  refine x_cVi hF hN hR (ctX8_isPacket hF.tr hcall) mwX8_isPacket miX8_isPacket sh75 ck7 (by decide) tw_1174 ⟨by decide, by decide⟩ rfl rfl (Nat.le_of_ble_eq_true rfl) dX8_suspects_3 ?_
  refine x_if_eq (tgt := 13) hF dX8_suspects_6 (by decide) (fun hc => ?_) (fun hc => ?_)
  · have h := oi_pos hc h
    refine x_iconst (v := (1 : Int32)) hF dX8_suspects_13 (by decide) ?_
    exact x_sub (xX8_suspects_14 hF hN hR (K := fun v9 S9 => v9 = r ∧ S9 = S1) hret h hk) ⟨rfl, rfl, trivial⟩
  · have h := oi_neg hc h
    refine x_iconst (v := (0 : Int32)) hF dX8_suspects_9 (by decide) ?_
    refine x_goto (tgt := 14) hF dX8_suspects_10 (by decide) ?_
    exact x_sub (xX8_suspects_14 hF hN hR (K := fun v9 S9 => v9 = r ∧ S9 = S1) hret h hk) ⟨rfl, rfl, trivial⟩
noncomputable def X8_capacityFor_31 (x1 : Int32) (x2 : Int32) (x3 : Int32) (x4 : Int32) (S : St) : Option (((Int32 × Int32) ⊕ Int32) × St) :=
  oi ((1000 : Int32) < x4) (some (.inr x3, S)) (oi (x3 = (-1 : Int32)) (ol (si S 76 121 x4) (fun T3 => ob (X8_replays (63 : Int32) T3) (fun r4 S5 => oi (x1 < (gi S5 75 6)) (some (.inl ((-1 : Int32), (x4 + (1 : Int32))), S5)) (some (.inl (x4, (x4 + (1 : Int32))), S5))))) (some (.inr x3, S)))
set_option maxHeartbeats 4000000 in
set_option maxRecDepth 20000 in
theorem xX8_capacityFor_31 {F : Cx} (hF : Ok F cX8_capacityFor RX8) (hN : nLF F 5) (hR : RmF F 7 0) {x1 : Int32} {x2 : Int32} {x3 : Int32} {x4 : Int32} {K : ((Int32 × Int32) ⊕ Int32) → St → Prop} (hag : ∀ (a : Int32 × Int32) (S : St), K (.inl a) S → X F 0 31 [(0, .ref (gA F 75)), (1, .int x1), (2, .int x2), (3, .int a.1), (4, .int a.2)] [] S) (hex80 : ∀ (q : Int32) (S : St), K (.inr q) S → X F 0 80 [(0, .ref (gA F 75)), (2, .int x2), (3, .int q)] [] S) {S : St} {r : (Int32 × Int32) ⊕ Int32} {S1 : St} (h : X8_capacityFor_31 x1 x2 x3 x4 S = some (r, S1)) (hk : K r S1) : X F 0 31 [(0, .ref (gA F 75)), (1, .int x1), (2, .int x2), (3, .int x3), (4, .int x4)] [] S := by
  unfold X8_capacityFor_31 at h
  refine x_iload hF dX8_capacityFor_31 rfl ?_
  refine x_sipush (v := (1000 : Int32)) hF dX8_capacityFor_33 (by decide) ?_
  refine x_icmp_gt (tgt := 80) hF dX8_capacityFor_36 (by decide) (fun hc => ?_) (fun hc => ?_)
  · have h := oi_pos hc h
    obtain ⟨rfl, rfl⟩ := sm h
    exact x_sub (hex80 _ _ hk) ⟨rfl, rfl, rfl, trivial⟩
  · have h := oi_neg hc h
    refine x_iload_n hF dX8_capacityFor_39 rfl rfl ?_
    refine x_iconst (v := (-1 : Int32)) hF dX8_capacityFor_40 (by decide) ?_
    refine x_icmp_ne (tgt := 80) hF dX8_capacityFor_41 (by decide) (fun hc => ?_) (fun hc => ?_)
    · have h := oi_neg hc h
      obtain ⟨rfl, rfl⟩ := sm h
      exact x_sub (hex80 _ _ hk) ⟨rfl, rfl, rfl, trivial⟩
    · have h := oi_pos hc h
      refine x_aload_n hF dX8_capacityFor_44 rfl rfl ?_
      refine x_getr hF sh75 0 rfl ck7 (by decide) (by decide) tw_1042 rfl dX8_capacityFor_45 ?_
      refine x_bipush (v := (121 : Int32)) hF dX8_capacityFor_48 (by decide) ?_
      refine x_iload hF dX8_capacityFor_50 rfl ?_
      obtain ⟨T3, eT3, h⟩ := ol_some h
      refine x_iast (j := 121) hF sh76 (by decide) (by decide) (by decide) eT3 dX8_capacityFor_52 ?_
      refine x_aload_n hF dX8_capacityFor_53 rfl rfl ?_
      refine x_bipush (v := (63 : Int32)) hF dX8_capacityFor_54 (by decide) ?_
      obtain ⟨r4, S5, hcall, h⟩ := ob_some h
      refine x_cVv hF hN hR (ctX8_replays hF.tr hcall) mwX8_replays miX8_replays sh75 ck7 (by decide) tw_1243 ⟨by decide, by decide⟩ rfl rfl (Nat.le_of_ble_eq_true rfl) dX8_capacityFor_56 ?_
      refine x_aload_n hF dX8_capacityFor_59 rfl rfl ?_
      refine x_geti hF sh75 6 rfl ck7 (by decide) (by decide) tw_1048 rfl dX8_capacityFor_60 ?_
      refine x_iload_n hF dX8_capacityFor_63 rfl rfl ?_
      refine x_icmp_gt (tgt := 72) hF dX8_capacityFor_64 (by decide) (fun hc => ?_) (fun hc => ?_)
      · have h := oi_pos hc h
        refine x_iconst (v := (-1 : Int32)) hF dX8_capacityFor_72 (by decide) ?_
        refine x_istore_n [(3, _), (0, _), (1, _), (2, _), (4, _)] hF hN dX8_capacityFor_73 rfl (by decide) rfl ?_
        refine x_iinc [(4, _), (3, _), (0, _), (1, _), (2, _)] (v := (1 : Int32)) hF hN dX8_capacityFor_74 rfl (by decide) (by decide) rfl ?_
        refine x_goto (tgt := 31) hF dX8_capacityFor_77 (by decide) ?_
        obtain ⟨rfl, rfl⟩ := sm h
        exact x_sub (hag _ _ hk) ⟨rfl, rfl, rfl, rfl, rfl, trivial⟩
      · have h := oi_neg hc h
        refine x_iload hF dX8_capacityFor_67 rfl ?_
        refine x_goto (tgt := 73) hF dX8_capacityFor_69 (by decide) ?_
        refine x_istore_n [(3, _), (0, _), (1, _), (2, _), (4, _)] hF hN dX8_capacityFor_73 rfl (by decide) rfl ?_
        refine x_iinc [(4, _), (3, _), (0, _), (1, _), (2, _)] (v := (1 : Int32)) hF hN dX8_capacityFor_74 rfl (by decide) (by decide) rfl ?_
        refine x_goto (tgt := 31) hF dX8_capacityFor_77 (by decide) ?_
        obtain ⟨rfl, rfl⟩ := sm h
        exact x_sub (hag _ _ hk) ⟨rfl, rfl, rfl, rfl, rfl, trivial⟩
noncomputable def X8_capacityFor_31L (x1 : Int32) (x2 : Int32) (a : Int32 × Int32) (S : St) : Option (Int32 × St) :=
  lp (fun (a : Int32 × Int32) (S : St) => X8_capacityFor_31 x1 x2 a.1 a.2 S) a S
theorem xX8_capacityFor_31L {F : Cx} (hF : Ok F cX8_capacityFor RX8) (hN : nLF F 5) (hR : RmF F 7 0) {x1 : Int32} {x2 : Int32} {K : Int32 → St → Prop} (hex80 : ∀ (q : Int32) (S : St), K (q) S → X F 0 80 [(0, .ref (gA F 75)), (2, .int x2), (3, .int q)] [] S) {a : Int32 × Int32} {S : St} {b : Int32} {S1 : St} (h : X8_capacityFor_31L x1 x2 a S = some (b, S1)) (hk : K b S1) : X F 0 31 [(0, .ref (gA F 75)), (1, .int x1), (2, .int x2), (3, .int a.1), (4, .int a.2)] [] S := by
  unfold X8_capacityFor_31L at h
  exact lp_rule (Xh := fun (a : Int32 × Int32) (S : St) => X F 0 31 [(0, .ref (gA F 75)), (1, .int x1), (2, .int x2), (3, .int a.1), (4, .int a.2)] [] S) (K := K) (fun a S r S1 h hk => xX8_capacityFor_31 hF hN hR (K := fun r S => match r with | .inl a => X F 0 31 [(0, .ref (gA F 75)), (1, .int x1), (2, .int x2), (3, .int a.1), (4, .int a.2)] [] S | .inr b => K b S) (fun _ _ h => h) (fun q S h => hex80 q S h) h (by cases r <;> exact hk)) h hk
noncomputable def X8_capacityFor_10 (x1 : Int32) (z1 : Int32) (S : St) : Option (Int32 × St) :=
  ob (X8_refuses z1 S) (fun r1 S2 => oi (r1 = 0) (ob (X8_capacityFor_31L x1 (gi S2 76 121) ((-1 : Int32), (1 : Int32)) S2) (fun b6 S7 => ol (si S7 76 121 (gi S2 76 121)) (fun T8 => some (b6, T8)))) (some ((0 : Int32), S2)))
set_option maxHeartbeats 4000000 in
set_option maxRecDepth 20000 in
theorem xX8_capacityFor_10 {F : Cx} (hF : Ok F cX8_capacityFor RX8) (hN : nLF F 5) (hR : RmF F 7 0) {x1 : Int32} {z1 : Int32} {K : Int32 → St → Prop} (hret : ∀ (v : Int32) (S : St) (pc : Nat) (ls : List (Nat × Value)), K v S → decode cX8_capacityFor pc = .ok (.ireturn, 1) → X F 0 pc ls [.int v] S) {S : St} {r : Int32} {S1 : St} (h : X8_capacityFor_10 x1 z1 S = some (r, S1)) (hk : K r S1) : X F 0 10 [(0, .ref (gA F 75)), (1, .int x1)] [.int z1, .ref (gA F 75)] S := by
  unfold X8_capacityFor_10 at h
  obtain ⟨r1, S2, hcall, h⟩ := ob_some h
  refine x_cVi hF hN hR (ctX8_refuses hF.tr hcall) mwX8_refuses miX8_refuses sh75 ck7 (by decide) tw_1154 ⟨by decide, by decide⟩ rfl rfl (Nat.le_of_ble_eq_true rfl) dX8_capacityFor_10 ?_
  refine x_if_eq (tgt := 18) hF dX8_capacityFor_13 (by decide) (fun hc => ?_) (fun hc => ?_)
  · have h := oi_pos hc h
    refine x_aload_n hF dX8_capacityFor_18 rfl rfl ?_
    refine x_getr hF sh75 0 rfl ck7 (by decide) (by decide) tw_1042 rfl dX8_capacityFor_19 ?_
    refine x_bipush (v := (121 : Int32)) hF dX8_capacityFor_22 (by decide) ?_
    refine x_iald (j := 121) hF sh76 (by decide) (by decide) (by decide) dX8_capacityFor_24 ?_
    refine x_istore_n [(2, _), (0, _), (1, _)] hF hN dX8_capacityFor_25 rfl (by decide) rfl ?_
    refine x_iconst (v := (-1 : Int32)) hF dX8_capacityFor_26 (by decide) ?_
    refine x_istore_n [(3, _), (2, _), (0, _), (1, _)] hF hN dX8_capacityFor_27 rfl (by decide) rfl ?_
    refine x_iconst (v := (1 : Int32)) hF dX8_capacityFor_28 (by decide) ?_
    refine x_istore [(4, _), (3, _), (2, _), (0, _), (1, _)] hF hN dX8_capacityFor_29 (by decide) rfl ?_
    obtain ⟨b6, S7, hlb6, h⟩ := ob_some h
    refine x_sub (xX8_capacityFor_31L hF hN hR (K := fun bb SS => bb = b6 ∧ SS = S7) ?_ hlb6 ⟨rfl, rfl⟩) ⟨rfl, rfl, rfl, rfl, rfl, trivial⟩
    rintro _ _ ⟨rfl, rfl⟩
    refine x_aload_n hF dX8_capacityFor_80 rfl rfl ?_
    refine x_getr hF sh75 0 rfl ck7 (by decide) (by decide) tw_1042 rfl dX8_capacityFor_81 ?_
    refine x_bipush (v := (121 : Int32)) hF dX8_capacityFor_84 (by decide) ?_
    refine x_iload_n hF dX8_capacityFor_86 rfl rfl ?_
    obtain ⟨T8, eT8, h⟩ := ol_some h
    refine x_iast (j := 121) hF sh76 (by decide) (by decide) (by decide) eT8 dX8_capacityFor_87 ?_
    refine x_iload_n hF dX8_capacityFor_88 rfl rfl ?_
    obtain ⟨rfl, rfl⟩ := sm h
    exact hret _ _ _ _ hk dX8_capacityFor_89
  · have h := oi_neg hc h
    refine x_iconst (v := (0 : Int32)) hF dX8_capacityFor_16 (by decide) ?_
    obtain ⟨rfl, rfl⟩ := sm h
    exact hret _ _ _ _ hk dX8_capacityFor_17
noncomputable def X8_capacityFor (x1 : Int32) (S : St) : Option (Int32 × St) :=
  oi (x1 < 0) (X8_capacityFor_10 x1 (1 : Int32) S) (X8_capacityFor_10 x1 (0 : Int32) S)
set_option maxHeartbeats 4000000 in
set_option maxRecDepth 20000 in
theorem ctX8_capacityFor {l : Launch} {G : Ga} {x1 : Int32} (hl : l.stackTraces = false) {S : St} {r : Int32} {S1 : St} (h : X8_capacityFor x1 S = some (r, S1)) : CT l G 7 yX8_capacityFor cX8_capacityFor 5 (some .int) [.ref (G.1 75), .int x1] S (some (.int r)) S1 := by
  refine ct_of hl (by decide) (Nat.le_of_ble_eq_true rfl) (fun F hFl hFG hF hN hR hret => ?_)
  subst hFl hFG
  show X F 0 0 [(0, .ref (gA F 75)), (1, .int x1)] [] S
  have hret : ∀ (v : Int32) (S : St) (pc : Nat) (ls : List (Nat × Value)), (v = r ∧ S = S1) → decode cX8_capacityFor pc = .ok (.ireturn, 1) → X F 0 pc ls [.int v] S := fun v S2 pc ls hq hd => by obtain ⟨rfl, rfl⟩ := hq; exact hret.1 pc ls v rfl rfl hd
  have hk : r = r ∧ S1 = S1 := ⟨rfl, rfl⟩
  unfold X8_capacityFor at h
  refine x_aload_n hF dX8_capacityFor_0 rfl rfl ?_
  refine x_iload_n hF dX8_capacityFor_1 rfl rfl ?_
  refine x_if_lt (tgt := 9) hF dX8_capacityFor_2 (by decide) (fun hc => ?_) (fun hc => ?_)
  · have h := oi_pos hc h
    refine x_iconst (v := (1 : Int32)) hF dX8_capacityFor_9 (by decide) ?_
    exact x_sub (xX8_capacityFor_10 hF hN hR (K := fun v9 S9 => v9 = r ∧ S9 = S1) hret h hk) ⟨rfl, rfl, trivial⟩
  · have h := oi_neg hc h
    refine x_iconst (v := (0 : Int32)) hF dX8_capacityFor_5 (by decide) ?_
    refine x_goto (tgt := 10) hF dX8_capacityFor_6 (by decide) ?_
    exact x_sub (xX8_capacityFor_10 hF hN hR (K := fun v9 S9 => v9 = r ∧ S9 = S1) hret h hk) ⟨rfl, rfl, trivial⟩
noncomputable def X8_bestPolicy_61 (x1 : Int32) (x3 : Int32) (x4 : Int32) (x5 : Int32) (z0 : Int32) (S : St) : Option (((Int32 × Int32 × Int32) ⊕ Int32) × St) :=
  oi (x4 = 0) (some (.inl (z0, x5, (x4 + (1 : Int32))), S)) (oi (x3 ≤ x5) (some (.inl (z0, x3, (x4 + (1 : Int32))), S)) (some (.inl (z0, x5, (x4 + (1 : Int32))), S)))
set_option maxHeartbeats 4000000 in
set_option maxRecDepth 20000 in
theorem xX8_bestPolicy_61 {F : Cx} (hF : Ok F cX8_bestPolicy RX8) (hN : nLF F 6) (hR : RmF F 8 0) {x1 : Int32} {x3 : Int32} {x4 : Int32} {x5 : Int32} {z0 : Int32} {K : ((Int32 × Int32 × Int32) ⊕ Int32) → St → Prop} (hag : ∀ (a : Int32 × Int32 × Int32) (S : St), K (.inl a) S → X F 0 20 [(0, .ref (gA F 75)), (1, .int x1), (2, .int a.1), (3, .int a.2.1), (4, .int a.2.2)] [] S) (hex86 : ∀ (q : Int32) (S : St), K (.inr q) S → X F 0 86 [(0, .ref (gA F 75)), (1, .int x1), (2, .int q)] [] S) {S : St} {r : (Int32 × Int32 × Int32) ⊕ Int32} {S1 : St} (h : X8_bestPolicy_61 x1 x3 x4 x5 z0 S = some (r, S1)) (hk : K r S1) : X F 0 61 [(0, .ref (gA F 75)), (1, .int x1), (3, .int x3), (4, .int x4), (5, .int x5)] [.int z0] S := by
  unfold X8_bestPolicy_61 at h
  refine x_istore_n [(2, _), (0, _), (1, _), (3, _), (4, _), (5, _)] hF hN dX8_bestPolicy_61 rfl (by decide) rfl ?_
  refine x_iload hF dX8_bestPolicy_62 rfl ?_
  refine x_if_eq (tgt := 73) hF dX8_bestPolicy_64 (by decide) (fun hc => ?_) (fun hc => ?_)
  · have h := oi_pos hc h
    refine x_iload hF dX8_bestPolicy_73 rfl ?_
    refine x_goto (tgt := 79) hF dX8_bestPolicy_75 (by decide) ?_
    refine x_istore_n [(3, _), (2, _), (0, _), (1, _), (4, _), (5, _)] hF hN dX8_bestPolicy_79 rfl (by decide) rfl ?_
    refine x_iinc [(4, _), (3, _), (2, _), (0, _), (1, _), (5, _)] (v := (1 : Int32)) hF hN dX8_bestPolicy_80 rfl (by decide) (by decide) rfl ?_
    refine x_goto (tgt := 20) hF dX8_bestPolicy_83 (by decide) ?_
    obtain ⟨rfl, rfl⟩ := sm h
    exact x_sub (hag _ _ hk) ⟨rfl, rfl, rfl, rfl, rfl, trivial⟩
  · have h := oi_neg hc h
    refine x_iload hF dX8_bestPolicy_67 rfl ?_
    refine x_iload_n hF dX8_bestPolicy_69 rfl rfl ?_
    refine x_icmp_ge (tgt := 78) hF dX8_bestPolicy_70 (by decide) (fun hc => ?_) (fun hc => ?_)
    · have h := oi_pos hc h
      refine x_iload_n hF dX8_bestPolicy_78 rfl rfl ?_
      refine x_istore_n [(3, _), (2, _), (0, _), (1, _), (4, _), (5, _)] hF hN dX8_bestPolicy_79 rfl (by decide) rfl ?_
      refine x_iinc [(4, _), (3, _), (2, _), (0, _), (1, _), (5, _)] (v := (1 : Int32)) hF hN dX8_bestPolicy_80 rfl (by decide) (by decide) rfl ?_
      refine x_goto (tgt := 20) hF dX8_bestPolicy_83 (by decide) ?_
      obtain ⟨rfl, rfl⟩ := sm h
      exact x_sub (hag _ _ hk) ⟨rfl, rfl, rfl, rfl, rfl, trivial⟩
    · have h := oi_neg hc h
      refine x_iload hF dX8_bestPolicy_73 rfl ?_
      refine x_goto (tgt := 79) hF dX8_bestPolicy_75 (by decide) ?_
      refine x_istore_n [(3, _), (2, _), (0, _), (1, _), (4, _), (5, _)] hF hN dX8_bestPolicy_79 rfl (by decide) rfl ?_
      refine x_iinc [(4, _), (3, _), (2, _), (0, _), (1, _), (5, _)] (v := (1 : Int32)) hF hN dX8_bestPolicy_80 rfl (by decide) (by decide) rfl ?_
      refine x_goto (tgt := 20) hF dX8_bestPolicy_83 (by decide) ?_
      obtain ⟨rfl, rfl⟩ := sm h
      exact x_sub (hag _ _ hk) ⟨rfl, rfl, rfl, rfl, rfl, trivial⟩
noncomputable def X8_bestPolicy_55 (x1 : Int32) (x3 : Int32) (x4 : Int32) (x5 : Int32) (S : St) : Option (((Int32 × Int32 × Int32) ⊕ Int32) × St) :=
  X8_bestPolicy_61 x1 x3 x4 x5 x4 S
set_option maxHeartbeats 4000000 in
set_option maxRecDepth 20000 in
theorem xX8_bestPolicy_55 {F : Cx} (hF : Ok F cX8_bestPolicy RX8) (hN : nLF F 6) (hR : RmF F 8 0) {x1 : Int32} {x3 : Int32} {x4 : Int32} {x5 : Int32} {K : ((Int32 × Int32 × Int32) ⊕ Int32) → St → Prop} (hag : ∀ (a : Int32 × Int32 × Int32) (S : St), K (.inl a) S → X F 0 20 [(0, .ref (gA F 75)), (1, .int x1), (2, .int a.1), (3, .int a.2.1), (4, .int a.2.2)] [] S) (hex86 : ∀ (q : Int32) (S : St), K (.inr q) S → X F 0 86 [(0, .ref (gA F 75)), (1, .int x1), (2, .int q)] [] S) {S : St} {r : (Int32 × Int32 × Int32) ⊕ Int32} {S1 : St} (h : X8_bestPolicy_55 x1 x3 x4 x5 S = some (r, S1)) (hk : K r S1) : X F 0 55 [(0, .ref (gA F 75)), (1, .int x1), (3, .int x3), (4, .int x4), (5, .int x5)] [] S := by
  unfold X8_bestPolicy_55 at h
  refine x_iload hF dX8_bestPolicy_55 rfl ?_
  refine x_goto (tgt := 61) hF dX8_bestPolicy_57 (by decide) ?_
  exact x_sub (xX8_bestPolicy_61 hF hN hR (K := K) hag hex86 h hk) ⟨rfl, rfl, rfl, rfl, rfl, trivial⟩
noncomputable def X8_bestPolicy_20 (x1 : Int32) (x2 : Int32) (x3 : Int32) (x4 : Int32) (S : St) : Option (((Int32 × Int32 × Int32) ⊕ Int32) × St) :=
  oi ((4 : Int32) < x4) (some (.inr x2, S)) (ol (si S 76 123 x4) (fun T2 => ob (X8_worthOf (63 : Int32) (-1 : Int32) T2) (fun r3 S4 => oi (x4 = 0) (X8_bestPolicy_55 x1 x3 x4 r3 S4) (oi (x3 ≤ r3) (X8_bestPolicy_61 x1 x3 x4 r3 x2 S4) (X8_bestPolicy_55 x1 x3 x4 r3 S4)))))
set_option maxHeartbeats 4000000 in
set_option maxRecDepth 20000 in
theorem xX8_bestPolicy_20 {F : Cx} (hF : Ok F cX8_bestPolicy RX8) (hN : nLF F 6) (hR : RmF F 8 0) {x1 : Int32} {x2 : Int32} {x3 : Int32} {x4 : Int32} {K : ((Int32 × Int32 × Int32) ⊕ Int32) → St → Prop} (hag : ∀ (a : Int32 × Int32 × Int32) (S : St), K (.inl a) S → X F 0 20 [(0, .ref (gA F 75)), (1, .int x1), (2, .int a.1), (3, .int a.2.1), (4, .int a.2.2)] [] S) (hex86 : ∀ (q : Int32) (S : St), K (.inr q) S → X F 0 86 [(0, .ref (gA F 75)), (1, .int x1), (2, .int q)] [] S) {S : St} {r : (Int32 × Int32 × Int32) ⊕ Int32} {S1 : St} (h : X8_bestPolicy_20 x1 x2 x3 x4 S = some (r, S1)) (hk : K r S1) : X F 0 20 [(0, .ref (gA F 75)), (1, .int x1), (2, .int x2), (3, .int x3), (4, .int x4)] [] S := by
  unfold X8_bestPolicy_20 at h
  refine x_iload hF dX8_bestPolicy_20 rfl ?_
  refine x_iconst (v := (4 : Int32)) hF dX8_bestPolicy_22 (by decide) ?_
  refine x_icmp_gt (tgt := 86) hF dX8_bestPolicy_23 (by decide) (fun hc => ?_) (fun hc => ?_)
  · have h := oi_pos hc h
    obtain ⟨rfl, rfl⟩ := sm h
    exact x_sub (hex86 _ _ hk) ⟨rfl, rfl, rfl, trivial⟩
  · have h := oi_neg hc h
    refine x_aload_n hF dX8_bestPolicy_26 rfl rfl ?_
    refine x_getr hF sh75 0 rfl ck7 (by decide) (by decide) tw_1042 rfl dX8_bestPolicy_27 ?_
    refine x_bipush (v := (123 : Int32)) hF dX8_bestPolicy_30 (by decide) ?_
    refine x_iload hF dX8_bestPolicy_32 rfl ?_
    obtain ⟨T2, eT2, h⟩ := ol_some h
    refine x_iast (j := 123) hF sh76 (by decide) (by decide) (by decide) eT2 dX8_bestPolicy_34 ?_
    refine x_aload_n hF dX8_bestPolicy_35 rfl rfl ?_
    refine x_bipush (v := (63 : Int32)) hF dX8_bestPolicy_36 (by decide) ?_
    refine x_iconst (v := (-1 : Int32)) hF dX8_bestPolicy_38 (by decide) ?_
    obtain ⟨r3, S4, hcall, h⟩ := ob_some h
    refine x_cVi hF hN hR (ctX8_worthOf hF.tr hcall) mwX8_worthOf miX8_worthOf sh75 ck7 (by decide) tw_1327 ⟨by decide, by decide⟩ rfl rfl (Nat.le_of_ble_eq_true rfl) dX8_bestPolicy_39 ?_
    refine x_istore [(5, _), (0, _), (1, _), (2, _), (3, _), (4, _)] hF hN dX8_bestPolicy_42 (by decide) rfl ?_
    refine x_iload hF dX8_bestPolicy_44 rfl ?_
    refine x_if_eq (tgt := 55) hF dX8_bestPolicy_46 (by decide) (fun hc => ?_) (fun hc => ?_)
    · have h := oi_pos hc h
      exact x_sub (xX8_bestPolicy_55 hF hN hR (K := K) hag hex86 h hk) ⟨rfl, rfl, rfl, rfl, rfl, trivial⟩
    · have h := oi_neg hc h
      refine x_iload hF dX8_bestPolicy_49 rfl ?_
      refine x_iload_n hF dX8_bestPolicy_51 rfl rfl ?_
      refine x_icmp_ge (tgt := 60) hF dX8_bestPolicy_52 (by decide) (fun hc => ?_) (fun hc => ?_)
      · have h := oi_pos hc h
        refine x_iload_n hF dX8_bestPolicy_60 rfl rfl ?_
        exact x_sub (xX8_bestPolicy_61 hF hN hR (K := K) hag hex86 h hk) ⟨rfl, rfl, rfl, rfl, rfl, trivial⟩
      · have h := oi_neg hc h
        exact x_sub (xX8_bestPolicy_55 hF hN hR (K := K) hag hex86 h hk) ⟨rfl, rfl, rfl, rfl, rfl, trivial⟩
noncomputable def X8_bestPolicy_20L (x1 : Int32) (a : Int32 × Int32 × Int32) (S : St) : Option (Int32 × St) :=
  lp (fun (a : Int32 × Int32 × Int32) (S : St) => X8_bestPolicy_20 x1 a.1 a.2.1 a.2.2 S) a S
theorem xX8_bestPolicy_20L {F : Cx} (hF : Ok F cX8_bestPolicy RX8) (hN : nLF F 6) (hR : RmF F 8 0) {x1 : Int32} {K : Int32 → St → Prop} (hex86 : ∀ (q : Int32) (S : St), K (q) S → X F 0 86 [(0, .ref (gA F 75)), (1, .int x1), (2, .int q)] [] S) {a : Int32 × Int32 × Int32} {S : St} {b : Int32} {S1 : St} (h : X8_bestPolicy_20L x1 a S = some (b, S1)) (hk : K b S1) : X F 0 20 [(0, .ref (gA F 75)), (1, .int x1), (2, .int a.1), (3, .int a.2.1), (4, .int a.2.2)] [] S := by
  unfold X8_bestPolicy_20L at h
  exact lp_rule (Xh := fun (a : Int32 × Int32 × Int32) (S : St) => X F 0 20 [(0, .ref (gA F 75)), (1, .int x1), (2, .int a.1), (3, .int a.2.1), (4, .int a.2.2)] [] S) (K := K) (fun a S r S1 h hk => xX8_bestPolicy_20 hF hN hR (K := fun r S => match r with | .inl a => X F 0 20 [(0, .ref (gA F 75)), (1, .int x1), (2, .int a.1), (3, .int a.2.1), (4, .int a.2.2)] [] S | .inr b => K b S) (fun _ _ h => h) (fun q S h => hex86 q S h) h (by cases r <;> exact hk)) h hk
noncomputable def X8_bestPolicy (S : St) : Option (Int32 × St) :=
  ol (si S 75 3 (0 : Int32)) (fun T1 => ob (X8_bestPolicy_20L (gi T1 76 123) ((0 : Int32), (0 : Int32), (0 : Int32)) T1) (fun b5 S6 => ol (si S6 76 123 (gi T1 76 123)) (fun T7 => some (b5, T7))))
set_option maxHeartbeats 4000000 in
set_option maxRecDepth 20000 in
theorem ctX8_bestPolicy {l : Launch} {G : Ga} (hl : l.stackTraces = false) {S : St} {r : Int32} {S1 : St} (h : X8_bestPolicy  S = some (r, S1)) : CT l G 8 yX8_bestPolicy cX8_bestPolicy 6 (some .int) [.ref (G.1 75)] S (some (.int r)) S1 := by
  refine ct_of hl (by decide) (Nat.le_of_ble_eq_true rfl) (fun F hFl hFG hF hN hR hret => ?_)
  subst hFl hFG
  show X F 0 0 [(0, .ref (gA F 75))] [] S
  have hret : ∀ (v : Int32) (S : St) (pc : Nat) (ls : List (Nat × Value)), (v = r ∧ S = S1) → decode cX8_bestPolicy pc = .ok (.ireturn, 1) → X F 0 pc ls [.int v] S := fun v S2 pc ls hq hd => by obtain ⟨rfl, rfl⟩ := hq; exact hret.1 pc ls v rfl rfl hd
  have hk : r = r ∧ S1 = S1 := ⟨rfl, rfl⟩
  unfold X8_bestPolicy at h
  refine x_aload_n hF dX8_bestPolicy_0 rfl rfl ?_
  refine x_iconst (v := (0 : Int32)) hF dX8_bestPolicy_1 (by decide) ?_
  obtain ⟨T1, eT1, h⟩ := ol_some h
  refine x_puti hF sh75 3 rfl ck7 (by decide) (by decide) tw_1045 rfl rfl rfl rfl rfl eT1 dX8_bestPolicy_2 ?_
  refine x_aload_n hF dX8_bestPolicy_5 rfl rfl ?_
  refine x_getr hF sh75 0 rfl ck7 (by decide) (by decide) tw_1042 rfl dX8_bestPolicy_6 ?_
  refine x_bipush (v := (123 : Int32)) hF dX8_bestPolicy_9 (by decide) ?_
  refine x_iald (j := 123) hF sh76 (by decide) (by decide) (by decide) dX8_bestPolicy_11 ?_
  refine x_istore_n [(1, _), (0, _)] hF hN dX8_bestPolicy_12 rfl (by decide) rfl ?_
  refine x_iconst (v := (0 : Int32)) hF dX8_bestPolicy_13 (by decide) ?_
  refine x_istore_n [(2, _), (1, _), (0, _)] hF hN dX8_bestPolicy_14 rfl (by decide) rfl ?_
  refine x_iconst (v := (0 : Int32)) hF dX8_bestPolicy_15 (by decide) ?_
  refine x_istore_n [(3, _), (2, _), (1, _), (0, _)] hF hN dX8_bestPolicy_16 rfl (by decide) rfl ?_
  refine x_iconst (v := (0 : Int32)) hF dX8_bestPolicy_17 (by decide) ?_
  refine x_istore [(4, _), (3, _), (2, _), (1, _), (0, _)] hF hN dX8_bestPolicy_18 (by decide) rfl ?_
  obtain ⟨b5, S6, hlb5, h⟩ := ob_some h
  refine x_sub (xX8_bestPolicy_20L hF hN hR (K := fun bb SS => bb = b5 ∧ SS = S6) ?_ hlb5 ⟨rfl, rfl⟩) ⟨rfl, rfl, rfl, rfl, rfl, trivial⟩
  rintro _ _ ⟨rfl, rfl⟩
  refine x_aload_n hF dX8_bestPolicy_86 rfl rfl ?_
  refine x_getr hF sh75 0 rfl ck7 (by decide) (by decide) tw_1042 rfl dX8_bestPolicy_87 ?_
  refine x_bipush (v := (123 : Int32)) hF dX8_bestPolicy_90 (by decide) ?_
  refine x_iload_n hF dX8_bestPolicy_92 rfl rfl ?_
  obtain ⟨T7, eT7, h⟩ := ol_some h
  refine x_iast (j := 123) hF sh76 (by decide) (by decide) (by decide) eT7 dX8_bestPolicy_93 ?_
  refine x_iload_n hF dX8_bestPolicy_94 rfl rfl ?_
  obtain ⟨rfl, rfl⟩ := sm h
  exact hret _ _ _ _ hk dX8_bestPolicy_95
noncomputable def X8_type_30 (x1 : Int32) (z1 : Int32) (S : St) : Option (Int32 × St) :=
  ob (X8_refuses z1 S) (fun r3 S4 => oi (r3 = 0) (og (inb (gi S4 75 27) 120) (ol (si S4 88 (ix (gi S4 75 27)) x1) (fun T5 => ol (si T5 75 27 ((gi T5 75 27) + (1 : Int32))) (fun T6 => some ((gi T6 75 27), T6))))) (some ((0 : Int32), S4)))
set_option maxHeartbeats 4000000 in
set_option maxRecDepth 20000 in
theorem xX8_type_30 {F : Cx} (hF : Ok F cX8_type RX8) (hN : nLF F 2) (hR : RmF F 1 0) {x1 : Int32} {z1 : Int32} {K : Int32 → St → Prop} (hret : ∀ (v : Int32) (S : St) (pc : Nat) (ls : List (Nat × Value)), K v S → decode cX8_type pc = .ok (.ireturn, 1) → X F 0 pc ls [.int v] S) {S : St} {r : Int32} {S1 : St} (h : X8_type_30 x1 z1 S = some (r, S1)) (hk : K r S1) : X F 0 30 [(0, .ref (gA F 75)), (1, .int x1)] [.int z1, .ref (gA F 75)] S := by
  unfold X8_type_30 at h
  obtain ⟨r3, S4, hcall, h⟩ := ob_some h
  refine x_cVi hF hN hR (ctX8_refuses hF.tr hcall) mwX8_refuses miX8_refuses sh75 ck7 (by decide) tw_1154 ⟨by decide, by decide⟩ rfl rfl (Nat.le_of_ble_eq_true rfl) dX8_type_30 ?_
  refine x_if_eq (tgt := 38) hF dX8_type_33 (by decide) (fun hc => ?_) (fun hc => ?_)
  · have h := oi_pos hc h
    refine x_aload_n hF dX8_type_38 rfl rfl ?_
    refine x_getr hF sh75 26 rfl ck7 (by decide) (by decide) tw_1068 rfl dX8_type_39 ?_
    refine x_aload_n hF dX8_type_42 rfl rfl ?_
    refine x_geti hF sh75 27 rfl ck7 (by decide) (by decide) tw_1069 rfl dX8_type_43 ?_
    refine x_iload_n hF dX8_type_46 rfl rfl ?_
    obtain ⟨hg, h⟩ := og_some h
    obtain ⟨T5, eT5, h⟩ := ol_some h
    refine x_iast hF sh88 (by decide) hg rfl eT5 dX8_type_47 ?_
    refine x_aload_n hF dX8_type_48 rfl rfl ?_
    refine x_dup hF dX8_type_49 rfl ?_
    refine x_geti hF sh75 27 rfl ck7 (by decide) (by decide) tw_1069 rfl dX8_type_50 ?_
    refine x_iconst (v := (1 : Int32)) hF dX8_type_53 (by decide) ?_
    refine x_iadd hF dX8_type_54 ?_
    obtain ⟨T6, eT6, h⟩ := ol_some h
    refine x_puti hF sh75 27 rfl ck7 (by decide) (by decide) tw_1069 rfl rfl rfl rfl rfl eT6 dX8_type_55 ?_
    refine x_aload_n hF dX8_type_58 rfl rfl ?_
    refine x_geti hF sh75 27 rfl ck7 (by decide) (by decide) tw_1069 rfl dX8_type_59 ?_
    obtain ⟨rfl, rfl⟩ := sm h
    exact hret _ _ _ _ hk dX8_type_62
  · have h := oi_neg hc h
    refine x_iconst (v := (0 : Int32)) hF dX8_type_36 (by decide) ?_
    obtain ⟨rfl, rfl⟩ := sm h
    exact hret _ _ _ _ hk dX8_type_37
noncomputable def X8_type (x1 : Int32) (S : St) : Option (Int32 × St) :=
  ob (X8_in x1 (32 : Int32) (126 : Int32) S) (fun r1 S2 => oi (r1 = 0) (X8_type_30 x1 (1 : Int32) S2) (oi ((gi S2 75 27) = (120 : Int32)) (X8_type_30 x1 (2 : Int32) S2) (X8_type_30 x1 (0 : Int32) S2)))
set_option maxHeartbeats 4000000 in
set_option maxRecDepth 20000 in
theorem ctX8_type {l : Launch} {G : Ga} {x1 : Int32} (hl : l.stackTraces = false) {S : St} {r : Int32} {S1 : St} (h : X8_type x1 S = some (r, S1)) : CT l G 1 yX8_type cX8_type 2 (some .int) [.ref (G.1 75), .int x1] S (some (.int r)) S1 := by
  refine ct_of hl (by decide) (Nat.le_of_ble_eq_true rfl) (fun F hFl hFG hF hN hR hret => ?_)
  subst hFl hFG
  show X F 0 0 [(0, .ref (gA F 75)), (1, .int x1)] [] S
  have hret : ∀ (v : Int32) (S : St) (pc : Nat) (ls : List (Nat × Value)), (v = r ∧ S = S1) → decode cX8_type pc = .ok (.ireturn, 1) → X F 0 pc ls [.int v] S := fun v S2 pc ls hq hd => by obtain ⟨rfl, rfl⟩ := hq; exact hret.1 pc ls v rfl rfl hd
  have hk : r = r ∧ S1 = S1 := ⟨rfl, rfl⟩
  unfold X8_type at h
  refine x_aload_n hF dX8_type_0 rfl rfl ?_
  refine x_iload_n hF dX8_type_1 rfl rfl ?_
  refine x_bipush (v := (32 : Int32)) hF dX8_type_2 (by decide) ?_
  refine x_bipush (v := (126 : Int32)) hF dX8_type_4 (by decide) ?_
  obtain ⟨r1, S2, hcall, h⟩ := ob_some h
  refine x_cSi hF hN hR (ctX8_in hF.tr hcall) mwX8_in tw_1152 tw_1151 ⟨by decide, by decide⟩ rfl rfl (Nat.le_of_ble_eq_true rfl) dX8_type_6 ?_
  refine x_if_ne (tgt := 16) hF dX8_type_9 (by decide) (fun hc => ?_) (fun hc => ?_)
  · have h := oi_neg hc h
    refine x_aload_n hF dX8_type_16 rfl rfl ?_
    refine x_geti hF sh75 27 rfl ck7 (by decide) (by decide) tw_1069 rfl dX8_type_17 ?_
    refine x_bipush (v := (120 : Int32)) hF dX8_type_20 (by decide) ?_
    refine x_icmp_ne (tgt := 29) hF dX8_type_22 (by decide) (fun hc => ?_) (fun hc => ?_)
    · have h := oi_neg hc h
      refine x_iconst (v := (0 : Int32)) hF dX8_type_29 (by decide) ?_
      exact x_sub (xX8_type_30 hF hN hR (K := fun v9 S9 => v9 = r ∧ S9 = S1) hret h hk) ⟨rfl, rfl, trivial⟩
    · have h := oi_pos hc h
      refine x_iconst (v := (2 : Int32)) hF dX8_type_25 (by decide) ?_
      refine x_goto (tgt := 30) hF dX8_type_26 (by decide) ?_
      exact x_sub (xX8_type_30 hF hN hR (K := fun v9 S9 => v9 = r ∧ S9 = S1) hret h hk) ⟨rfl, rfl, trivial⟩
  · have h := oi_pos hc h
    refine x_iconst (v := (1 : Int32)) hF dX8_type_12 (by decide) ?_
    refine x_goto (tgt := 30) hF dX8_type_13 (by decide) ?_
    exact x_sub (xX8_type_30 hF hN hR (K := fun v9 S9 => v9 = r ∧ S9 = S1) hret h hk) ⟨rfl, rfl, trivial⟩
noncomputable def X8_clearText (S : St) : Option (Int32 × St) :=
  ol (si S 75 3 (0 : Int32)) (fun T1 => ol (si T1 75 27 (0 : Int32)) (fun T2 => some ((gi T1 75 27), T2)))
set_option maxHeartbeats 4000000 in
set_option maxRecDepth 20000 in
theorem ctX8_clearText {l : Launch} {G : Ga} (hl : l.stackTraces = false) {S : St} {r : Int32} {S1 : St} (h : X8_clearText  S = some (r, S1)) : CT l G 0 yX8_clearText cX8_clearText 2 (some .int) [.ref (G.1 75)] S (some (.int r)) S1 := by
  refine ct_of hl (by decide) (Nat.le_of_ble_eq_true rfl) (fun F hFl hFG hF hN hR hret => ?_)
  subst hFl hFG
  show X F 0 0 [(0, .ref (gA F 75))] [] S
  have hret : ∀ (v : Int32) (S : St) (pc : Nat) (ls : List (Nat × Value)), (v = r ∧ S = S1) → decode cX8_clearText pc = .ok (.ireturn, 1) → X F 0 pc ls [.int v] S := fun v S2 pc ls hq hd => by obtain ⟨rfl, rfl⟩ := hq; exact hret.1 pc ls v rfl rfl hd
  have hk : r = r ∧ S1 = S1 := ⟨rfl, rfl⟩
  unfold X8_clearText at h
  refine x_aload_n hF dX8_clearText_0 rfl rfl ?_
  refine x_iconst (v := (0 : Int32)) hF dX8_clearText_1 (by decide) ?_
  obtain ⟨T1, eT1, h⟩ := ol_some h
  refine x_puti hF sh75 3 rfl ck7 (by decide) (by decide) tw_1045 rfl rfl rfl rfl rfl eT1 dX8_clearText_2 ?_
  refine x_aload_n hF dX8_clearText_5 rfl rfl ?_
  refine x_geti hF sh75 27 rfl ck7 (by decide) (by decide) tw_1069 rfl dX8_clearText_6 ?_
  refine x_istore_n [(1, _), (0, _)] hF hN dX8_clearText_9 rfl (by decide) rfl ?_
  refine x_aload_n hF dX8_clearText_10 rfl rfl ?_
  refine x_iconst (v := (0 : Int32)) hF dX8_clearText_11 (by decide) ?_
  obtain ⟨T2, eT2, h⟩ := ol_some h
  refine x_puti hF sh75 27 rfl ck7 (by decide) (by decide) tw_1069 rfl rfl rfl rfl rfl eT2 dX8_clearText_12 ?_
  refine x_iload_n hF dX8_clearText_15 rfl rfl ?_
  obtain ⟨rfl, rfl⟩ := sm h
  exact hret _ _ _ _ hk dX8_clearText_16
noncomputable def X8_at (x1 : Int32) (S : St) : Option (Int32 × St) :=
  oi ((gi S 75 27) ≤ x1) (some ((0 : Int32), S)) (og (inb x1 120) (some ((gi S 88 (ix x1)), S)))
set_option maxHeartbeats 4000000 in
set_option maxRecDepth 20000 in
theorem ctX8_at {l : Launch} {G : Ga} {x1 : Int32} (hl : l.stackTraces = false) {S : St} {r : Int32} {S1 : St} (h : X8_at x1 S = some (r, S1)) : CT l G 0 yX8_at cX8_at 2 (some .int) [.ref (G.1 75), .int x1] S (some (.int r)) S1 := by
  refine ct_of hl (by decide) (Nat.le_of_ble_eq_true rfl) (fun F hFl hFG hF hN hR hret => ?_)
  subst hFl hFG
  show X F 0 0 [(0, .ref (gA F 75)), (1, .int x1)] [] S
  have hret : ∀ (v : Int32) (S : St) (pc : Nat) (ls : List (Nat × Value)), (v = r ∧ S = S1) → decode cX8_at pc = .ok (.ireturn, 1) → X F 0 pc ls [.int v] S := fun v S2 pc ls hq hd => by obtain ⟨rfl, rfl⟩ := hq; exact hret.1 pc ls v rfl rfl hd
  have hk : r = r ∧ S1 = S1 := ⟨rfl, rfl⟩
  unfold X8_at at h
  refine x_iload_n hF dX8_at_0 rfl rfl ?_
  refine x_aload_n hF dX8_at_1 rfl rfl ?_
  refine x_geti hF sh75 27 rfl ck7 (by decide) (by decide) tw_1069 rfl dX8_at_2 ?_
  refine x_icmp_ge (tgt := 17) hF dX8_at_5 (by decide) (fun hc => ?_) (fun hc => ?_)
  · have h := oi_pos hc h
    refine x_iconst (v := (0 : Int32)) hF dX8_at_17 (by decide) ?_
    obtain ⟨rfl, rfl⟩ := sm h
    exact hret _ _ _ _ hk dX8_at_18
  · have h := oi_neg hc h
    refine x_aload_n hF dX8_at_8 rfl rfl ?_
    refine x_getr hF sh75 26 rfl ck7 (by decide) (by decide) tw_1068 rfl dX8_at_9 ?_
    refine x_iload_n hF dX8_at_12 rfl rfl ?_
    obtain ⟨hg, h⟩ := og_some h
    refine x_iald hF sh88 (by decide) hg rfl dX8_at_13 ?_
    refine x_goto (tgt := 18) hF dX8_at_14 (by decide) ?_
    obtain ⟨rfl, rfl⟩ := sm h
    exact hret _ _ _ _ hk dX8_at_18
noncomputable def X8_skipsSpaces_0 (S : St) : Option (((Unit) ⊕ Unit) × St) :=
  ob (X8_at (gi S 75 28) S) (fun r1 S2 => oi (r1 = (32 : Int32)) (ol (si S2 75 28 ((gi S2 75 28) + (1 : Int32))) (fun T3 => some (.inl (), T3))) (some (.inr (), S2)))
set_option maxHeartbeats 4000000 in
set_option maxRecDepth 20000 in
theorem xX8_skipsSpaces_0 {F : Cx} (hF : Ok F cX8_skipsSpaces RX8) (hN : nLF F 1) (hR : RmF F 1 0) {K : ((Unit) ⊕ Unit) → St → Prop} (hag : ∀ (a : Unit) (S : St), K (.inl a) S → X F 0 0 [(0, .ref (gA F 75))] [] S) (hex26 : ∀ (q : Unit) (S : St), K (.inr q) S → X F 0 26 [] [] S) {S : St} {r : (Unit) ⊕ Unit} {S1 : St} (h : X8_skipsSpaces_0  S = some (r, S1)) (hk : K r S1) : X F 0 0 [(0, .ref (gA F 75))] [] S := by
  unfold X8_skipsSpaces_0 at h
  refine x_aload_n hF dX8_skipsSpaces_0 rfl rfl ?_
  refine x_aload_n hF dX8_skipsSpaces_1 rfl rfl ?_
  refine x_geti hF sh75 28 rfl ck7 (by decide) (by decide) tw_1070 rfl dX8_skipsSpaces_2 ?_
  obtain ⟨r1, S2, hcall, h⟩ := ob_some h
  refine x_cVi hF hN hR (ctX8_at hF.tr hcall) mwX8_at miX8_at sh75 ck7 (by decide) tw_1435 ⟨by decide, by decide⟩ rfl rfl (Nat.le_of_ble_eq_true rfl) dX8_skipsSpaces_5 ?_
  refine x_bipush (v := (32 : Int32)) hF dX8_skipsSpaces_8 (by decide) ?_
  refine x_icmp_ne (tgt := 26) hF dX8_skipsSpaces_10 (by decide) (fun hc => ?_) (fun hc => ?_)
  · have h := oi_neg hc h
    obtain ⟨rfl, rfl⟩ := sm h
    exact x_sub (hex26 _ _ hk) trivial
  · have h := oi_pos hc h
    refine x_aload_n hF dX8_skipsSpaces_13 rfl rfl ?_
    refine x_dup hF dX8_skipsSpaces_14 rfl ?_
    refine x_geti hF sh75 28 rfl ck7 (by decide) (by decide) tw_1070 rfl dX8_skipsSpaces_15 ?_
    refine x_iconst (v := (1 : Int32)) hF dX8_skipsSpaces_18 (by decide) ?_
    refine x_iadd hF dX8_skipsSpaces_19 ?_
    obtain ⟨T3, eT3, h⟩ := ol_some h
    refine x_puti hF sh75 28 rfl ck7 (by decide) (by decide) tw_1070 rfl rfl rfl rfl rfl eT3 dX8_skipsSpaces_20 ?_
    refine x_goto (tgt := 0) hF dX8_skipsSpaces_23 (by decide) ?_
    obtain ⟨rfl, rfl⟩ := sm h
    exact x_sub (hag _ _ hk) ⟨rfl, trivial⟩
noncomputable def X8_skipsSpaces_0L (a : Unit) (S : St) : Option (Unit × St) :=
  lp (fun (a : Unit) (S : St) => X8_skipsSpaces_0  S) a S
theorem xX8_skipsSpaces_0L {F : Cx} (hF : Ok F cX8_skipsSpaces RX8) (hN : nLF F 1) (hR : RmF F 1 0) {K : Unit → St → Prop} (hex26 : ∀ (q : Unit) (S : St), K (q) S → X F 0 26 [] [] S) {a : Unit} {S : St} {b : Unit} {S1 : St} (h : X8_skipsSpaces_0L  a S = some (b, S1)) (hk : K b S1) : X F 0 0 [(0, .ref (gA F 75))] [] S := by
  unfold X8_skipsSpaces_0L at h
  exact lp_rule (Xh := fun (a : Unit) (S : St) => X F 0 0 [(0, .ref (gA F 75))] [] S) (K := K) (fun a S r S1 h hk => xX8_skipsSpaces_0 hF hN hR (K := fun r S => match r with | .inl a => X F 0 0 [(0, .ref (gA F 75))] [] S | .inr b => K b S) (fun _ _ h => h) (fun q S h => hex26 q S h) h (by cases r <;> exact hk)) h hk
noncomputable def X8_skipsSpaces (S : St) : Option (Unit × St) :=
  ob (X8_skipsSpaces_0L () S) (fun b4 S5 => some ((), S5))
set_option maxHeartbeats 4000000 in
set_option maxRecDepth 20000 in
theorem ctX8_skipsSpaces {l : Launch} {G : Ga} (hl : l.stackTraces = false) {S : St} {r : Unit} {S1 : St} (h : X8_skipsSpaces  S = some (r, S1)) : CT l G 1 yX8_skipsSpaces cX8_skipsSpaces 1 none [.ref (G.1 75)] S none S1 := by
  refine ct_of hl (by decide) (Nat.le_of_ble_eq_true rfl) (fun F hFl hFG hF hN hR hret => ?_)
  subst hFl hFG
  show X F 0 0 [(0, .ref (gA F 75))] [] S
  have hret : ∀ (v : Unit) (S : St) (pc : Nat) (ls : List (Nat × Value)), (v = r ∧ S = S1) → decode cX8_skipsSpaces pc = .ok (.return_, 1) → X F 0 pc ls [] S := fun v S2 pc ls hq hd => by obtain ⟨rfl, rfl⟩ := hq; exact hret.2.2.2.2.1 pc ls rfl rfl hd
  have hk : r = r ∧ S1 = S1 := ⟨rfl, rfl⟩
  unfold X8_skipsSpaces at h
  obtain ⟨b4, S5, hlb4, h⟩ := ob_some h
  refine x_sub (xX8_skipsSpaces_0L hF hN hR (K := fun bb SS => bb = b4 ∧ SS = S5) ?_ hlb4 ⟨rfl, rfl⟩) ⟨rfl, trivial⟩
  rintro _ _ ⟨_, rfl⟩
  obtain ⟨rfl, rfl⟩ := sm h
  exact hret _ _ _ _ hk dX8_skipsSpaces_26
noncomputable def X8_isLetter (x0 : Int32) (S : St) : Option (Int32 × St) :=
  ob (X8_in x0 (97 : Int32) (122 : Int32) S) (fun r1 S2 => og (isB r1) (some (r1, S2)))
set_option maxHeartbeats 4000000 in
set_option maxRecDepth 20000 in
theorem ctX8_isLetter {l : Launch} {G : Ga} {x0 : Int32} (hl : l.stackTraces = false) {S : St} {r : Int32} {S1 : St} (h : X8_isLetter x0 S = some (r, S1)) : CT l G 1 yX8_isLetter cX8_isLetter 1 (some .boolean) [.int x0] S (some (.int r)) S1 := by
  refine ct_of hl (by decide) (Nat.le_of_ble_eq_true rfl) (fun F hFl hFG hF hN hR hret => ?_)
  subst hFl hFG
  show X F 0 0 [(0, .int x0)] [] S
  have hret : ∀ (v : Int32) (S : St) (pc : Nat) (ls : List (Nat × Value)), isB v → (v = r ∧ S = S1) → decode cX8_isLetter pc = .ok (.ireturn, 1) → X F 0 pc ls [.int v] S := fun v S2 pc ls hb hq hd => by obtain ⟨rfl, rfl⟩ := hq; exact hret.2.1 pc ls v rfl hb rfl hd
  have hk : r = r ∧ S1 = S1 := ⟨rfl, rfl⟩
  unfold X8_isLetter at h
  refine x_iload_n hF dX8_isLetter_0 rfl rfl ?_
  refine x_bipush (v := (97 : Int32)) hF dX8_isLetter_1 (by decide) ?_
  refine x_bipush (v := (122 : Int32)) hF dX8_isLetter_3 (by decide) ?_
  obtain ⟨r1, S2, hcall, h⟩ := ob_some h
  refine x_cSi hF hN hR (ctX8_in hF.tr hcall) mwX8_in tw_1152 tw_1151 ⟨by decide, by decide⟩ rfl rfl (Nat.le_of_ble_eq_true rfl) dX8_isLetter_5 ?_
  obtain ⟨hg, h⟩ := og_some h
  obtain ⟨rfl, rfl⟩ := sm h
  exact hret _ _ _ _ hg hk dX8_isLetter_8
noncomputable def X8_isDigit (x0 : Int32) (S : St) : Option (Int32 × St) :=
  ob (X8_in x0 (48 : Int32) (57 : Int32) S) (fun r1 S2 => og (isB r1) (some (r1, S2)))
set_option maxHeartbeats 4000000 in
set_option maxRecDepth 20000 in
theorem ctX8_isDigit {l : Launch} {G : Ga} {x0 : Int32} (hl : l.stackTraces = false) {S : St} {r : Int32} {S1 : St} (h : X8_isDigit x0 S = some (r, S1)) : CT l G 1 yX8_isDigit cX8_isDigit 1 (some .boolean) [.int x0] S (some (.int r)) S1 := by
  refine ct_of hl (by decide) (Nat.le_of_ble_eq_true rfl) (fun F hFl hFG hF hN hR hret => ?_)
  subst hFl hFG
  show X F 0 0 [(0, .int x0)] [] S
  have hret : ∀ (v : Int32) (S : St) (pc : Nat) (ls : List (Nat × Value)), isB v → (v = r ∧ S = S1) → decode cX8_isDigit pc = .ok (.ireturn, 1) → X F 0 pc ls [.int v] S := fun v S2 pc ls hb hq hd => by obtain ⟨rfl, rfl⟩ := hq; exact hret.2.1 pc ls v rfl hb rfl hd
  have hk : r = r ∧ S1 = S1 := ⟨rfl, rfl⟩
  unfold X8_isDigit at h
  refine x_iload_n hF dX8_isDigit_0 rfl rfl ?_
  refine x_bipush (v := (48 : Int32)) hF dX8_isDigit_1 (by decide) ?_
  refine x_bipush (v := (57 : Int32)) hF dX8_isDigit_3 (by decide) ?_
  obtain ⟨r1, S2, hcall, h⟩ := ob_some h
  refine x_cSi hF hN hR (ctX8_in hF.tr hcall) mwX8_in tw_1152 tw_1151 ⟨by decide, by decide⟩ rfl rfl (Nat.le_of_ble_eq_true rfl) dX8_isDigit_5 ?_
  obtain ⟨hg, h⟩ := og_some h
  obtain ⟨rfl, rfl⟩ := sm h
  exact hret _ _ _ _ hg hk dX8_isDigit_8
noncomputable def X8_word_4 (x1 : Int64) (x3 : Int32) (S : St) : Option (((Int64 × Int32) ⊕ (Int64 × Int32)) × St) :=
  ob (X8_at (gi S 75 28) S) (fun r1 S2 => ob (X8_isLetter r1 S2) (fun r3 S4 => oi (r3 = 0) (some (.inr (x1, x3), S4)) (ob (X8_at (gi S4 75 28) S4) (fun r5 S6 => ol (si S6 75 28 ((gi S6 75 28) + (1 : Int32))) (fun T7 => some (.inl ((((((27 : Int64) * x1) + r5.toInt64) - (97 : Int64)) + (1 : Int64)), (x3 + (1 : Int32))), T7))))))
set_option maxHeartbeats 4000000 in
set_option maxRecDepth 20000 in
theorem xX8_word_4 {F : Cx} (hF : Ok F cX8_word RX8) (hN : nLF F 4) (hR : RmF F 2 0) {x1 : Int64} {x3 : Int32} {K : ((Int64 × Int32) ⊕ (Int64 × Int32)) → St → Prop} (hag : ∀ (a : Int64 × Int32) (S : St), K (.inl a) S → X F 0 4 [(0, .ref (gA F 75)), (1, .long a.1), (3, .int a.2)] [] S) (hex56 : ∀ (q : Int64 × Int32) (S : St), K (.inr q) S → X F 0 56 [(1, .long q.1), (3, .int q.2)] [] S) {S : St} {r : (Int64 × Int32) ⊕ (Int64 × Int32)} {S1 : St} (h : X8_word_4 x1 x3 S = some (r, S1)) (hk : K r S1) : X F 0 4 [(0, .ref (gA F 75)), (1, .long x1), (3, .int x3)] [] S := by
  unfold X8_word_4 at h
  refine x_aload_n hF dX8_word_4 rfl rfl ?_
  refine x_aload_n hF dX8_word_5 rfl rfl ?_
  refine x_geti hF sh75 28 rfl ck7 (by decide) (by decide) tw_1070 rfl dX8_word_6 ?_
  obtain ⟨r1, S2, hcall, h⟩ := ob_some h
  refine x_cVi hF hN hR (ctX8_at hF.tr hcall) mwX8_at miX8_at sh75 ck7 (by decide) tw_1435 ⟨by decide, by decide⟩ rfl rfl (Nat.le_of_ble_eq_true rfl) dX8_word_9 ?_
  obtain ⟨r3, S4, hcall, h⟩ := ob_some h
  refine x_cSi hF hN hR (ctX8_isLetter hF.tr hcall) mwX8_isLetter tw_1444 tw_1443 ⟨by decide, by decide⟩ rfl rfl (Nat.le_of_ble_eq_true rfl) dX8_word_12 ?_
  refine x_if_eq (tgt := 56) hF dX8_word_15 (by decide) (fun hc => ?_) (fun hc => ?_)
  · have h := oi_pos hc h
    obtain ⟨rfl, rfl⟩ := sm h
    exact x_sub (hex56 _ _ hk) ⟨rfl, rfl, trivial⟩
  · have h := oi_neg hc h
    refine x_ldc2_w (v := (27 : Int64)) hF dX8_word_18 tw_1446 ?_
    refine x_lload_n hF dX8_word_21 rfl rfl ?_
    refine x_lmul hF dX8_word_22 ?_
    refine x_aload_n hF dX8_word_23 rfl rfl ?_
    refine x_aload_n hF dX8_word_24 rfl rfl ?_
    refine x_geti hF sh75 28 rfl ck7 (by decide) (by decide) tw_1070 rfl dX8_word_25 ?_
    obtain ⟨r5, S6, hcall, h⟩ := ob_some h
    refine x_cVi hF hN hR (ctX8_at hF.tr hcall) mwX8_at miX8_at sh75 ck7 (by decide) tw_1435 ⟨by decide, by decide⟩ rfl rfl (Nat.le_of_ble_eq_true rfl) dX8_word_28 ?_
    refine x_i2l hF dX8_word_31 ?_
    refine x_ladd hF dX8_word_32 ?_
    refine x_ldc2_w (v := (97 : Int64)) hF dX8_word_33 tw_1447 ?_
    refine x_lsub hF dX8_word_36 ?_
    refine x_lconst (v := (1 : Int64)) hF dX8_word_37 (by decide) ?_
    refine x_ladd hF dX8_word_38 ?_
    refine x_lstore_n [(1, _), (0, _), (3, _)] hF hN dX8_word_39 rfl (by decide) rfl ?_
    refine x_aload_n hF dX8_word_40 rfl rfl ?_
    refine x_dup hF dX8_word_41 rfl ?_
    refine x_geti hF sh75 28 rfl ck7 (by decide) (by decide) tw_1070 rfl dX8_word_42 ?_
    refine x_iconst (v := (1 : Int32)) hF dX8_word_45 (by decide) ?_
    refine x_iadd hF dX8_word_46 ?_
    obtain ⟨T7, eT7, h⟩ := ol_some h
    refine x_puti hF sh75 28 rfl ck7 (by decide) (by decide) tw_1070 rfl rfl rfl rfl rfl eT7 dX8_word_47 ?_
    refine x_iinc [(3, _), (1, _), (0, _)] (v := (1 : Int32)) hF hN dX8_word_50 rfl (by decide) (by decide) rfl ?_
    refine x_goto (tgt := 4) hF dX8_word_53 (by decide) ?_
    obtain ⟨rfl, rfl⟩ := sm h
    exact x_sub (hag _ _ hk) ⟨rfl, rfl, rfl, trivial⟩
noncomputable def X8_word_4L (a : Int64 × Int32) (S : St) : Option ((Int64 × Int32) × St) :=
  lp (fun (a : Int64 × Int32) (S : St) => X8_word_4 a.1 a.2 S) a S
theorem xX8_word_4L {F : Cx} (hF : Ok F cX8_word RX8) (hN : nLF F 4) (hR : RmF F 2 0) {K : (Int64 × Int32) → St → Prop} (hex56 : ∀ (q : Int64 × Int32) (S : St), K (q) S → X F 0 56 [(1, .long q.1), (3, .int q.2)] [] S) {a : Int64 × Int32} {S : St} {b : (Int64 × Int32)} {S1 : St} (h : X8_word_4L  a S = some (b, S1)) (hk : K b S1) : X F 0 4 [(0, .ref (gA F 75)), (1, .long a.1), (3, .int a.2)] [] S := by
  unfold X8_word_4L at h
  exact lp_rule (Xh := fun (a : Int64 × Int32) (S : St) => X F 0 4 [(0, .ref (gA F 75)), (1, .long a.1), (3, .int a.2)] [] S) (K := K) (fun a S r S1 h hk => xX8_word_4 hF hN hR (K := fun r S => match r with | .inl a => X F 0 4 [(0, .ref (gA F 75)), (1, .long a.1), (3, .int a.2)] [] S | .inr b => K b S) (fun _ _ h => h) (fun q S h => hex56 q S h) h (by cases r <;> exact hk)) h hk
noncomputable def X8_word (S : St) : Option (Int64 × St) :=
  ob (X8_word_4L ((0 : Int64), (0 : Int32)) S) (fun b8 S9 => oi (b8.2 ≤ (9 : Int32)) (some (b8.1, S9)) (some ((0 : Int64), S9)))
set_option maxHeartbeats 4000000 in
set_option maxRecDepth 20000 in
theorem ctX8_word {l : Launch} {G : Ga} (hl : l.stackTraces = false) {S : St} {r : Int64} {S1 : St} (h : X8_word  S = some (r, S1)) : CT l G 2 yX8_word cX8_word 4 (some .long) [.ref (G.1 75)] S (some (.long r)) S1 := by
  refine ct_of hl (by decide) (Nat.le_of_ble_eq_true rfl) (fun F hFl hFG hF hN hR hret => ?_)
  subst hFl hFG
  show X F 0 0 [(0, .ref (gA F 75))] [] S
  have hret : ∀ (v : Int64) (S : St) (pc : Nat) (ls : List (Nat × Value)), (v = r ∧ S = S1) → decode cX8_word pc = .ok (.lreturn, 1) → X F 0 pc ls [.long v] S := fun v S2 pc ls hq hd => by obtain ⟨rfl, rfl⟩ := hq; exact hret.2.2.1 pc ls v rfl rfl hd
  have hk : r = r ∧ S1 = S1 := ⟨rfl, rfl⟩
  unfold X8_word at h
  refine x_lconst (v := (0 : Int64)) hF dX8_word_0 (by decide) ?_
  refine x_lstore_n [(1, _), (0, _)] hF hN dX8_word_1 rfl (by decide) rfl ?_
  refine x_iconst (v := (0 : Int32)) hF dX8_word_2 (by decide) ?_
  refine x_istore_n [(3, _), (1, _), (0, _)] hF hN dX8_word_3 rfl (by decide) rfl ?_
  obtain ⟨b8, S9, hlb8, h⟩ := ob_some h
  refine x_sub (xX8_word_4L hF hN hR (K := fun bb SS => bb = b8 ∧ SS = S9) ?_ hlb8 ⟨rfl, rfl⟩) ⟨rfl, rfl, rfl, trivial⟩
  rintro _ _ ⟨rfl, rfl⟩
  refine x_iload_n hF dX8_word_56 rfl rfl ?_
  refine x_bipush (v := (9 : Int32)) hF dX8_word_57 (by decide) ?_
  refine x_icmp_le (tgt := 66) hF dX8_word_59 (by decide) (fun hc => ?_) (fun hc => ?_)
  · have h := oi_pos hc h
    refine x_lload_n hF dX8_word_66 rfl rfl ?_
    obtain ⟨rfl, rfl⟩ := sm h
    exact hret _ _ _ _ hk dX8_word_67
  · have h := oi_neg hc h
    refine x_lconst (v := (0 : Int64)) hF dX8_word_62 (by decide) ?_
    refine x_goto (tgt := 67) hF dX8_word_63 (by decide) ?_
    obtain ⟨rfl, rfl⟩ := sm h
    exact hret _ _ _ _ hk dX8_word_67
noncomputable def X8_meant (x0 : Int64) (S : St) : Option (Int32 × St) :=
  oi ((lg_cmp x0 (230181176 : Int64)) = 0) (some ((1 : Int32), S)) (oi ((lg_cmp x0 (31998660226 : Int64)) = 0) (some ((121 : Int32), S)) (oi ((lg_cmp x0 (355568 : Int64)) = 0) (some ((122 : Int32), S)) (oi ((lg_cmp x0 (237796990 : Int64)) = 0) (some ((123 : Int32), S)) (oi ((lg_cmp x0 (5400715909203 : Int64)) = 0) (some ((124 : Int32), S)) (oi ((lg_cmp x0 (174476693248 : Int64)) = 0) (some ((129 : Int32), S)) (oi ((lg_cmp x0 (5109132110 : Int64)) = 0) (some ((128 : Int32), S)) (some ((-1 : Int32), S))))))))
set_option maxHeartbeats 4000000 in
set_option maxRecDepth 20000 in
theorem ctX8_meant {l : Launch} {G : Ga} {x0 : Int64} (hl : l.stackTraces = false) {S : St} {r : Int32} {S1 : St} (h : X8_meant x0 S = some (r, S1)) : CT l G 0 yX8_meant cX8_meant 2 (some .int) [.long x0] S (some (.int r)) S1 := by
  refine ct_of hl (by decide) (Nat.le_of_ble_eq_true rfl) (fun F hFl hFG hF hN hR hret => ?_)
  subst hFl hFG
  show X F 0 0 [(0, .long x0)] [] S
  have hret : ∀ (v : Int32) (S : St) (pc : Nat) (ls : List (Nat × Value)), (v = r ∧ S = S1) → decode cX8_meant pc = .ok (.ireturn, 1) → X F 0 pc ls [.int v] S := fun v S2 pc ls hq hd => by obtain ⟨rfl, rfl⟩ := hq; exact hret.1 pc ls v rfl rfl hd
  have hk : r = r ∧ S1 = S1 := ⟨rfl, rfl⟩
  unfold X8_meant at h
  refine x_lload_n hF dX8_meant_0 rfl rfl ?_
  refine x_ldc2_w (v := (230181176 : Int64)) hF dX8_meant_1 tw_1451 ?_
  refine x_lcmp hF dX8_meant_4 ?_
  refine x_if_ne (tgt := 10) hF dX8_meant_5 (by decide) (fun hc => ?_) (fun hc => ?_)
  · have h := oi_neg hc h
    refine x_lload_n hF dX8_meant_10 rfl rfl ?_
    refine x_ldc2_w (v := (31998660226 : Int64)) hF dX8_meant_11 tw_1452 ?_
    refine x_lcmp hF dX8_meant_14 ?_
    refine x_if_ne (tgt := 21) hF dX8_meant_15 (by decide) (fun hc => ?_) (fun hc => ?_)
    · have h := oi_neg hc h
      refine x_lload_n hF dX8_meant_21 rfl rfl ?_
      refine x_ldc2_w (v := (355568 : Int64)) hF dX8_meant_22 tw_1453 ?_
      refine x_lcmp hF dX8_meant_25 ?_
      refine x_if_ne (tgt := 32) hF dX8_meant_26 (by decide) (fun hc => ?_) (fun hc => ?_)
      · have h := oi_neg hc h
        refine x_lload_n hF dX8_meant_32 rfl rfl ?_
        refine x_ldc2_w (v := (237796990 : Int64)) hF dX8_meant_33 tw_1454 ?_
        refine x_lcmp hF dX8_meant_36 ?_
        refine x_if_ne (tgt := 43) hF dX8_meant_37 (by decide) (fun hc => ?_) (fun hc => ?_)
        · have h := oi_neg hc h
          refine x_lload_n hF dX8_meant_43 rfl rfl ?_
          refine x_ldc2_w (v := (5400715909203 : Int64)) hF dX8_meant_44 tw_1455 ?_
          refine x_lcmp hF dX8_meant_47 ?_
          refine x_if_ne (tgt := 54) hF dX8_meant_48 (by decide) (fun hc => ?_) (fun hc => ?_)
          · have h := oi_neg hc h
            refine x_lload_n hF dX8_meant_54 rfl rfl ?_
            refine x_ldc2_w (v := (174476693248 : Int64)) hF dX8_meant_55 tw_1456 ?_
            refine x_lcmp hF dX8_meant_58 ?_
            refine x_if_ne (tgt := 66) hF dX8_meant_59 (by decide) (fun hc => ?_) (fun hc => ?_)
            · have h := oi_neg hc h
              refine x_lload_n hF dX8_meant_66 rfl rfl ?_
              refine x_ldc2_w (v := (5109132110 : Int64)) hF dX8_meant_67 tw_1457 ?_
              refine x_lcmp hF dX8_meant_70 ?_
              refine x_if_ne (tgt := 78) hF dX8_meant_71 (by decide) (fun hc => ?_) (fun hc => ?_)
              · have h := oi_neg hc h
                refine x_iconst (v := (-1 : Int32)) hF dX8_meant_78 (by decide) ?_
                obtain ⟨rfl, rfl⟩ := sm h
                exact hret _ _ _ _ hk dX8_meant_79
              · have h := oi_pos hc h
                refine x_sipush (v := (128 : Int32)) hF dX8_meant_74 (by decide) ?_
                obtain ⟨rfl, rfl⟩ := sm h
                exact hret _ _ _ _ hk dX8_meant_77
            · have h := oi_pos hc h
              refine x_sipush (v := (129 : Int32)) hF dX8_meant_62 (by decide) ?_
              obtain ⟨rfl, rfl⟩ := sm h
              exact hret _ _ _ _ hk dX8_meant_65
          · have h := oi_pos hc h
            refine x_bipush (v := (124 : Int32)) hF dX8_meant_51 (by decide) ?_
            obtain ⟨rfl, rfl⟩ := sm h
            exact hret _ _ _ _ hk dX8_meant_53
        · have h := oi_pos hc h
          refine x_bipush (v := (123 : Int32)) hF dX8_meant_40 (by decide) ?_
          obtain ⟨rfl, rfl⟩ := sm h
          exact hret _ _ _ _ hk dX8_meant_42
      · have h := oi_pos hc h
        refine x_bipush (v := (122 : Int32)) hF dX8_meant_29 (by decide) ?_
        obtain ⟨rfl, rfl⟩ := sm h
        exact hret _ _ _ _ hk dX8_meant_31
    · have h := oi_pos hc h
      refine x_bipush (v := (121 : Int32)) hF dX8_meant_18 (by decide) ?_
      obtain ⟨rfl, rfl⟩ := sm h
      exact hret _ _ _ _ hk dX8_meant_20
  · have h := oi_pos hc h
    refine x_iconst (v := (1 : Int32)) hF dX8_meant_8 (by decide) ?_
    obtain ⟨rfl, rfl⟩ := sm h
    exact hret _ _ _ _ hk dX8_meant_9
noncomputable def X8_readsNumber_11 (x1 : Int32) (x2 : Int32) (x3 : Int32) (S : St) : Option (((Int32) ⊕ Int32) × St) :=
  ob (X8_at (gi S 75 28) S) (fun r3 S4 => ob (X8_isDigit r3 S4) (fun r5 S6 => oi (r5 = 0) (some (.inr x3, S6)) (oi ((x2 + (5 : Int32)) ≤ (gi S6 75 28)) (some (.inr x3, S6)) (ob (X8_at (gi S6 75 28) S6) (fun r7 S8 => ol (si S8 75 28 ((gi S8 75 28) + (1 : Int32))) (fun T9 => some (.inl ((((10 : Int32) * x3) + r7) - (48 : Int32)), T9)))))))
set_option maxHeartbeats 4000000 in
set_option maxRecDepth 20000 in
theorem xX8_readsNumber_11 {F : Cx} (hF : Ok F cX8_readsNumber RX8) (hN : nLF F 4) (hR : RmF F 2 0) {x1 : Int32} {x2 : Int32} {x3 : Int32} {K : ((Int32) ⊕ Int32) → St → Prop} (hag : ∀ (a : Int32) (S : St), K (.inl a) S → X F 0 11 [(0, .ref (gA F 75)), (1, .int x1), (2, .int x2), (3, .int a)] [] S) (hex65 : ∀ (q : Int32) (S : St), K (.inr q) S → X F 0 65 [(0, .ref (gA F 75)), (1, .int x1), (2, .int x2), (3, .int q)] [] S) {S : St} {r : (Int32) ⊕ Int32} {S1 : St} (h : X8_readsNumber_11 x1 x2 x3 S = some (r, S1)) (hk : K r S1) : X F 0 11 [(0, .ref (gA F 75)), (1, .int x1), (2, .int x2), (3, .int x3)] [] S := by
  unfold X8_readsNumber_11 at h
  refine x_aload_n hF dX8_readsNumber_11 rfl rfl ?_
  refine x_aload_n hF dX8_readsNumber_12 rfl rfl ?_
  refine x_geti hF sh75 28 rfl ck7 (by decide) (by decide) tw_1070 rfl dX8_readsNumber_13 ?_
  obtain ⟨r3, S4, hcall, h⟩ := ob_some h
  refine x_cVi hF hN hR (ctX8_at hF.tr hcall) mwX8_at miX8_at sh75 ck7 (by decide) tw_1435 ⟨by decide, by decide⟩ rfl rfl (Nat.le_of_ble_eq_true rfl) dX8_readsNumber_16 ?_
  obtain ⟨r5, S6, hcall, h⟩ := ob_some h
  refine x_cSi hF hN hR (ctX8_isDigit hF.tr hcall) mwX8_isDigit tw_1463 tw_1462 ⟨by decide, by decide⟩ rfl rfl (Nat.le_of_ble_eq_true rfl) dX8_readsNumber_19 ?_
  refine x_if_eq (tgt := 65) hF dX8_readsNumber_22 (by decide) (fun hc => ?_) (fun hc => ?_)
  · have h := oi_pos hc h
    obtain ⟨rfl, rfl⟩ := sm h
    exact x_sub (hex65 _ _ hk) ⟨rfl, rfl, rfl, rfl, trivial⟩
  · have h := oi_neg hc h
    refine x_aload_n hF dX8_readsNumber_25 rfl rfl ?_
    refine x_geti hF sh75 28 rfl ck7 (by decide) (by decide) tw_1070 rfl dX8_readsNumber_26 ?_
    refine x_iload_n hF dX8_readsNumber_29 rfl rfl ?_
    refine x_iconst (v := (5 : Int32)) hF dX8_readsNumber_30 (by decide) ?_
    refine x_iadd hF dX8_readsNumber_31 ?_
    refine x_icmp_ge (tgt := 65) hF dX8_readsNumber_32 (by decide) (fun hc => ?_) (fun hc => ?_)
    · have h := oi_pos hc h
      obtain ⟨rfl, rfl⟩ := sm h
      exact x_sub (hex65 _ _ hk) ⟨rfl, rfl, rfl, rfl, trivial⟩
    · have h := oi_neg hc h
      refine x_bipush (v := (10 : Int32)) hF dX8_readsNumber_35 (by decide) ?_
      refine x_iload_n hF dX8_readsNumber_37 rfl rfl ?_
      refine x_imul hF dX8_readsNumber_38 ?_
      refine x_aload_n hF dX8_readsNumber_39 rfl rfl ?_
      refine x_aload_n hF dX8_readsNumber_40 rfl rfl ?_
      refine x_geti hF sh75 28 rfl ck7 (by decide) (by decide) tw_1070 rfl dX8_readsNumber_41 ?_
      obtain ⟨r7, S8, hcall, h⟩ := ob_some h
      refine x_cVi hF hN hR (ctX8_at hF.tr hcall) mwX8_at miX8_at sh75 ck7 (by decide) tw_1435 ⟨by decide, by decide⟩ rfl rfl (Nat.le_of_ble_eq_true rfl) dX8_readsNumber_44 ?_
      refine x_iadd hF dX8_readsNumber_47 ?_
      refine x_bipush (v := (48 : Int32)) hF dX8_readsNumber_48 (by decide) ?_
      refine x_isub hF dX8_readsNumber_50 ?_
      refine x_istore_n [(3, _), (0, _), (1, _), (2, _)] hF hN dX8_readsNumber_51 rfl (by decide) rfl ?_
      refine x_aload_n hF dX8_readsNumber_52 rfl rfl ?_
      refine x_dup hF dX8_readsNumber_53 rfl ?_
      refine x_geti hF sh75 28 rfl ck7 (by decide) (by decide) tw_1070 rfl dX8_readsNumber_54 ?_
      refine x_iconst (v := (1 : Int32)) hF dX8_readsNumber_57 (by decide) ?_
      refine x_iadd hF dX8_readsNumber_58 ?_
      obtain ⟨T9, eT9, h⟩ := ol_some h
      refine x_puti hF sh75 28 rfl ck7 (by decide) (by decide) tw_1070 rfl rfl rfl rfl rfl eT9 dX8_readsNumber_59 ?_
      refine x_goto (tgt := 11) hF dX8_readsNumber_62 (by decide) ?_
      obtain ⟨rfl, rfl⟩ := sm h
      exact x_sub (hag _ _ hk) ⟨rfl, rfl, rfl, rfl, trivial⟩
noncomputable def X8_readsNumber_11L (x1 : Int32) (x2 : Int32) (a : Int32) (S : St) : Option (Int32 × St) :=
  lp (fun (a : Int32) (S : St) => X8_readsNumber_11 x1 x2 a S) a S
theorem xX8_readsNumber_11L {F : Cx} (hF : Ok F cX8_readsNumber RX8) (hN : nLF F 4) (hR : RmF F 2 0) {x1 : Int32} {x2 : Int32} {K : Int32 → St → Prop} (hex65 : ∀ (q : Int32) (S : St), K (q) S → X F 0 65 [(0, .ref (gA F 75)), (1, .int x1), (2, .int x2), (3, .int q)] [] S) {a : Int32} {S : St} {b : Int32} {S1 : St} (h : X8_readsNumber_11L x1 x2 a S = some (b, S1)) (hk : K b S1) : X F 0 11 [(0, .ref (gA F 75)), (1, .int x1), (2, .int x2), (3, .int a)] [] S := by
  unfold X8_readsNumber_11L at h
  exact lp_rule (Xh := fun (a : Int32) (S : St) => X F 0 11 [(0, .ref (gA F 75)), (1, .int x1), (2, .int x2), (3, .int a)] [] S) (K := K) (fun a S r S1 h hk => xX8_readsNumber_11 hF hN hR (K := fun r S => match r with | .inl a => X F 0 11 [(0, .ref (gA F 75)), (1, .int x1), (2, .int x2), (3, .int a)] [] S | .inr b => K b S) (fun _ _ h => h) (fun q S h => hex65 q S h) h (by cases r <;> exact hk)) h hk
noncomputable def X8_readsNumber (x1 : Int32) (S : St) : Option (Int32 × St) :=
  ob (X8_skipsSpaces  S) (fun r1 S2 => ob (X8_readsNumber_11L x1 (gi S2 75 28) (0 : Int32) S2) (fun b10 S11 => og (inb x1 240) (ol (si S11 89 (ix x1) b10) (fun T12 => oi ((gi T12 75 28) = (gi S2 75 28)) (ol (si T12 75 28 (gi S2 75 28)) (fun T13 => some ((0 : Int32), T13))) (oi ((gi T12 75 28) = ((gi S2 75 28) + (5 : Int32))) (ol (si T12 75 28 (gi S2 75 28)) (fun T14 => some ((0 : Int32), T14))) (some ((1 : Int32), T12)))))))
set_option maxHeartbeats 4000000 in
set_option maxRecDepth 20000 in
theorem ctX8_readsNumber {l : Launch} {G : Ga} {x1 : Int32} (hl : l.stackTraces = false) {S : St} {r : Int32} {S1 : St} (h : X8_readsNumber x1 S = some (r, S1)) : CT l G 2 yX8_readsNumber cX8_readsNumber 4 (some .boolean) [.ref (G.1 75), .int x1] S (some (.int r)) S1 := by
  refine ct_of hl (by decide) (Nat.le_of_ble_eq_true rfl) (fun F hFl hFG hF hN hR hret => ?_)
  subst hFl hFG
  show X F 0 0 [(0, .ref (gA F 75)), (1, .int x1)] [] S
  have hret : ∀ (v : Int32) (S : St) (pc : Nat) (ls : List (Nat × Value)), isB v → (v = r ∧ S = S1) → decode cX8_readsNumber pc = .ok (.ireturn, 1) → X F 0 pc ls [.int v] S := fun v S2 pc ls hb hq hd => by obtain ⟨rfl, rfl⟩ := hq; exact hret.2.1 pc ls v rfl hb rfl hd
  have hk : r = r ∧ S1 = S1 := ⟨rfl, rfl⟩
  unfold X8_readsNumber at h
  refine x_aload_n hF dX8_readsNumber_0 rfl rfl ?_
  obtain ⟨r1, S2, hcall, h⟩ := ob_some h
  refine x_cVv hF hN hR (ctX8_skipsSpaces hF.tr hcall) mwX8_skipsSpaces miX8_skipsSpaces sh75 ck7 (by decide) tw_1431 ⟨by decide, by decide⟩ rfl rfl (Nat.le_of_ble_eq_true rfl) dX8_readsNumber_1 ?_
  refine x_aload_n hF dX8_readsNumber_4 rfl rfl ?_
  refine x_geti hF sh75 28 rfl ck7 (by decide) (by decide) tw_1070 rfl dX8_readsNumber_5 ?_
  refine x_istore_n [(2, _), (0, _), (1, _)] hF hN dX8_readsNumber_8 rfl (by decide) rfl ?_
  refine x_iconst (v := (0 : Int32)) hF dX8_readsNumber_9 (by decide) ?_
  refine x_istore_n [(3, _), (2, _), (0, _), (1, _)] hF hN dX8_readsNumber_10 rfl (by decide) rfl ?_
  obtain ⟨b10, S11, hlb10, h⟩ := ob_some h
  refine x_sub (xX8_readsNumber_11L hF hN hR (K := fun bb SS => bb = b10 ∧ SS = S11) ?_ hlb10 ⟨rfl, rfl⟩) ⟨rfl, rfl, rfl, rfl, trivial⟩
  rintro _ _ ⟨rfl, rfl⟩
  refine x_aload_n hF dX8_readsNumber_65 rfl rfl ?_
  refine x_getr hF sh75 30 rfl ck7 (by decide) (by decide) tw_1072 rfl dX8_readsNumber_66 ?_
  refine x_iload_n hF dX8_readsNumber_69 rfl rfl ?_
  refine x_iload_n hF dX8_readsNumber_70 rfl rfl ?_
  obtain ⟨hg, h⟩ := og_some h
  obtain ⟨T12, eT12, h⟩ := ol_some h
  refine x_iast hF sh89 (by decide) hg rfl eT12 dX8_readsNumber_71 ?_
  refine x_aload_n hF dX8_readsNumber_72 rfl rfl ?_
  refine x_geti hF sh75 28 rfl ck7 (by decide) (by decide) tw_1070 rfl dX8_readsNumber_73 ?_
  refine x_iload_n hF dX8_readsNumber_76 rfl rfl ?_
  refine x_icmp_eq (tgt := 90) hF dX8_readsNumber_77 (by decide) (fun hc => ?_) (fun hc => ?_)
  · have h := oi_pos hc h
    refine x_aload_n hF dX8_readsNumber_90 rfl rfl ?_
    refine x_iload_n hF dX8_readsNumber_91 rfl rfl ?_
    obtain ⟨T13, eT13, h⟩ := ol_some h
    refine x_puti hF sh75 28 rfl ck7 (by decide) (by decide) tw_1070 rfl rfl rfl rfl rfl eT13 dX8_readsNumber_92 ?_
    refine x_iconst (v := (0 : Int32)) hF dX8_readsNumber_95 (by decide) ?_
    obtain ⟨rfl, rfl⟩ := sm h
    exact hret _ _ _ _ (by decide) hk dX8_readsNumber_96
  · have h := oi_neg hc h
    refine x_aload_n hF dX8_readsNumber_80 rfl rfl ?_
    refine x_geti hF sh75 28 rfl ck7 (by decide) (by decide) tw_1070 rfl dX8_readsNumber_81 ?_
    refine x_iload_n hF dX8_readsNumber_84 rfl rfl ?_
    refine x_iconst (v := (5 : Int32)) hF dX8_readsNumber_85 (by decide) ?_
    refine x_iadd hF dX8_readsNumber_86 ?_
    refine x_icmp_ne (tgt := 97) hF dX8_readsNumber_87 (by decide) (fun hc => ?_) (fun hc => ?_)
    · have h := oi_neg hc h
      refine x_iconst (v := (1 : Int32)) hF dX8_readsNumber_97 (by decide) ?_
      obtain ⟨rfl, rfl⟩ := sm h
      exact hret _ _ _ _ (by decide) hk dX8_readsNumber_98
    · have h := oi_pos hc h
      refine x_aload_n hF dX8_readsNumber_90 rfl rfl ?_
      refine x_iload_n hF dX8_readsNumber_91 rfl rfl ?_
      obtain ⟨T14, eT14, h⟩ := ol_some h
      refine x_puti hF sh75 28 rfl ck7 (by decide) (by decide) tw_1070 rfl rfl rfl rfl rfl eT14 dX8_readsNumber_92 ?_
      refine x_iconst (v := (0 : Int32)) hF dX8_readsNumber_95 (by decide) ?_
      obtain ⟨rfl, rfl⟩ := sm h
      exact hret _ _ _ _ (by decide) hk dX8_readsNumber_96
noncomputable def X8_reads_82 (x3 : Int32) (x4 : Int32) (S : St) : Option (((Int32) ⊕ (Unit ⊕ Unit)) × St) :=
  oi (x3 < x4) (some (.inr (.inr ()), S)) (ob (X8_readsNumber (((4 : Int32) * (gi S 75 29)) + x4) S) (fun r10 S11 => oi (r10 = 0) (some (.inr (.inl ()), S11)) (some (.inl (x4 + (1 : Int32)), S11))))
set_option maxHeartbeats 4000000 in
set_option maxRecDepth 20000 in
theorem xX8_reads_82 {F : Cx} (hF : Ok F cX8_reads RX8) (hN : nLF F 5) (hR : RmF F 3 0) {x3 : Int32} {x4 : Int32} {K : ((Int32) ⊕ (Unit ⊕ Unit)) → St → Prop} (hag : ∀ (a : Int32) (S : St), K (.inl a) S → X F 0 82 [(0, .ref (gA F 75)), (3, .int x3), (4, .int a)] [] S) (hex104 : ∀ (q : Unit) (S : St), K (.inr (.inl q)) S → X F 0 104 [(0, .ref (gA F 75))] [] S) (hex115 : ∀ (q : Unit) (S : St), K (.inr (.inr q)) S → X F 0 115 [(0, .ref (gA F 75))] [] S) {S : St} {r : (Int32) ⊕ (Unit ⊕ Unit)} {S1 : St} (h : X8_reads_82 x3 x4 S = some (r, S1)) (hk : K r S1) : X F 0 82 [(0, .ref (gA F 75)), (3, .int x3), (4, .int x4)] [] S := by
  unfold X8_reads_82 at h
  refine x_iload hF dX8_reads_82 rfl ?_
  refine x_iload_n hF dX8_reads_84 rfl rfl ?_
  refine x_icmp_gt (tgt := 115) hF dX8_reads_85 (by decide) (fun hc => ?_) (fun hc => ?_)
  · have h := oi_pos hc h
    obtain ⟨rfl, rfl⟩ := sm h
    exact x_sub (hex115 _ _ hk) ⟨rfl, trivial⟩
  · have h := oi_neg hc h
    refine x_aload_n hF dX8_reads_88 rfl rfl ?_
    refine x_iconst (v := (4 : Int32)) hF dX8_reads_89 (by decide) ?_
    refine x_aload_n hF dX8_reads_90 rfl rfl ?_
    refine x_geti hF sh75 29 rfl ck7 (by decide) (by decide) tw_1071 rfl dX8_reads_91 ?_
    refine x_imul hF dX8_reads_94 ?_
    refine x_iload hF dX8_reads_95 rfl ?_
    refine x_iadd hF dX8_reads_97 ?_
    obtain ⟨r10, S11, hcall, h⟩ := ob_some h
    refine x_cVi hF hN hR (ctX8_readsNumber hF.tr hcall) mwX8_readsNumber miX8_readsNumber sh75 ck7 (by decide) tw_1458 ⟨by decide, by decide⟩ rfl rfl (Nat.le_of_ble_eq_true rfl) dX8_reads_98 ?_
    refine x_if_ne (tgt := 109) hF dX8_reads_101 (by decide) (fun hc => ?_) (fun hc => ?_)
    · have h := oi_neg hc h
      refine x_iinc [(4, _), (0, _), (3, _)] (v := (1 : Int32)) hF hN dX8_reads_109 rfl (by decide) (by decide) rfl ?_
      refine x_goto (tgt := 82) hF dX8_reads_112 (by decide) ?_
      obtain ⟨rfl, rfl⟩ := sm h
      exact x_sub (hag _ _ hk) ⟨rfl, rfl, rfl, trivial⟩
    · have h := oi_pos hc h
      obtain ⟨rfl, rfl⟩ := sm h
      exact x_sub (hex104 _ _ hk) ⟨rfl, trivial⟩
noncomputable def X8_reads_82L (x3 : Int32) (a : Int32) (S : St) : Option ((Unit ⊕ Unit) × St) :=
  lp (fun (a : Int32) (S : St) => X8_reads_82 x3 a S) a S
theorem xX8_reads_82L {F : Cx} (hF : Ok F cX8_reads RX8) (hN : nLF F 5) (hR : RmF F 3 0) {x3 : Int32} {K : (Unit ⊕ Unit) → St → Prop} (hex104 : ∀ (q : Unit) (S : St), K ((.inl q)) S → X F 0 104 [(0, .ref (gA F 75))] [] S) (hex115 : ∀ (q : Unit) (S : St), K ((.inr q)) S → X F 0 115 [(0, .ref (gA F 75))] [] S) {a : Int32} {S : St} {b : Unit ⊕ Unit} {S1 : St} (h : X8_reads_82L x3 a S = some (b, S1)) (hk : K b S1) : X F 0 82 [(0, .ref (gA F 75)), (3, .int x3), (4, .int a)] [] S := by
  unfold X8_reads_82L at h
  exact lp_rule (Xh := fun (a : Int32) (S : St) => X F 0 82 [(0, .ref (gA F 75)), (3, .int x3), (4, .int a)] [] S) (K := K) (fun a S r S1 h hk => xX8_reads_82 hF hN hR (K := fun r S => match r with | .inl a => X F 0 82 [(0, .ref (gA F 75)), (3, .int x3), (4, .int a)] [] S | .inr b => K b S) (fun _ _ h => h) (fun q S h => hex104 q S h) (fun q S h => hex115 q S h) h (by cases r <;> exact hk)) h hk
noncomputable def X8_reads_78 (z0 : Int32) (S : St) : Option (((Unit) ⊕ (Int32 ⊕ Unit ⊕ Unit ⊕ Unit)) × St) :=
  ob (X8_reads_82L z0 (1 : Int32) S) (fun b12 S13 => match b12 with | .inl q14 => some (.inr (.inr (.inl ())), S13) | .inr q15 => ob (X8_skipsSpaces  S13) (fun r16 S17 => ob (X8_at (gi S17 75 28) S17) (fun r18 S19 => oi (r18 = (59 : Int32)) (ol (si S19 75 28 ((gi S19 75 28) + (1 : Int32))) (fun T20 => ol (si T20 75 29 ((gi T20 75 29) + (1 : Int32))) (fun T21 => ob (X8_skipsSpaces  T21) (fun r22 S23 => some (.inl (), S23))))) (some (.inr (.inr (.inr (.inl ()))), S19)))))
set_option maxHeartbeats 4000000 in
set_option maxRecDepth 20000 in
theorem xX8_reads_78 {F : Cx} (hF : Ok F cX8_reads RX8) (hN : nLF F 5) (hR : RmF F 3 0) {z0 : Int32} {K : ((Unit) ⊕ (Int32 ⊕ Unit ⊕ Unit ⊕ Unit)) → St → Prop} (hag : ∀ (a : Unit) (S : St), K (.inl a) S → X F 0 14 [(0, .ref (gA F 75))] [] S) (hex43 : ∀ (q : Int32) (S : St), K (.inr (.inl q)) S → X F 0 43 [(1, .int q)] [] S) (hex104 : ∀ (q : Unit) (S : St), K (.inr (.inr (.inl q))) S → X F 0 104 [(0, .ref (gA F 75))] [] S) (hex132 : ∀ (q : Unit) (S : St), K (.inr (.inr (.inr (.inl q)))) S → X F 0 132 [(0, .ref (gA F 75))] [] S) (hex164 : ∀ (q : Unit) (S : St), K (.inr (.inr (.inr (.inr q)))) S → X F 0 164 [] [] S) {S : St} {r : (Unit) ⊕ (Int32 ⊕ Unit ⊕ Unit ⊕ Unit)} {S1 : St} (h : X8_reads_78 z0 S = some (r, S1)) (hk : K r S1) : X F 0 78 [(0, .ref (gA F 75))] [.int z0] S := by
  unfold X8_reads_78 at h
  refine x_istore_n [(3, _), (0, _)] hF hN dX8_reads_78 rfl (by decide) rfl ?_
  refine x_iconst (v := (1 : Int32)) hF dX8_reads_79 (by decide) ?_
  refine x_istore [(4, _), (3, _), (0, _)] hF hN dX8_reads_80 (by decide) rfl ?_
  obtain ⟨b12, S13, hlb12, h⟩ := ob_some h
  refine x_sub (xX8_reads_82L hF hN hR (K := fun bb SS => bb = b12 ∧ SS = S13) ?_ ?_ hlb12 ⟨rfl, rfl⟩) ⟨rfl, rfl, rfl, trivial⟩
  · rintro _ _ ⟨rfl, rfl⟩
    dsimp only at h
    obtain ⟨rfl, rfl⟩ := sm h
    exact x_sub (hex104 _ _ hk) ⟨rfl, trivial⟩
  · rintro _ _ ⟨rfl, rfl⟩
    dsimp only at h
    refine x_aload_n hF dX8_reads_115 rfl rfl ?_
    obtain ⟨r16, S17, hcall, h⟩ := ob_some h
    refine x_cVv hF hN hR (ctX8_skipsSpaces hF.tr hcall) mwX8_skipsSpaces miX8_skipsSpaces sh75 ck7 (by decide) tw_1431 ⟨by decide, by decide⟩ rfl rfl (Nat.le_of_ble_eq_true rfl) dX8_reads_116 ?_
    refine x_aload_n hF dX8_reads_119 rfl rfl ?_
    refine x_aload_n hF dX8_reads_120 rfl rfl ?_
    refine x_geti hF sh75 28 rfl ck7 (by decide) (by decide) tw_1070 rfl dX8_reads_121 ?_
    obtain ⟨r18, S19, hcall, h⟩ := ob_some h
    refine x_cVi hF hN hR (ctX8_at hF.tr hcall) mwX8_at miX8_at sh75 ck7 (by decide) tw_1435 ⟨by decide, by decide⟩ rfl rfl (Nat.le_of_ble_eq_true rfl) dX8_reads_124 ?_
    refine x_bipush (v := (59 : Int32)) hF dX8_reads_127 (by decide) ?_
    refine x_icmp_eq (tgt := 137) hF dX8_reads_129 (by decide) (fun hc => ?_) (fun hc => ?_)
    · have h := oi_pos hc h
      refine x_aload_n hF dX8_reads_137 rfl rfl ?_
      refine x_dup hF dX8_reads_138 rfl ?_
      refine x_geti hF sh75 28 rfl ck7 (by decide) (by decide) tw_1070 rfl dX8_reads_139 ?_
      refine x_iconst (v := (1 : Int32)) hF dX8_reads_142 (by decide) ?_
      refine x_iadd hF dX8_reads_143 ?_
      obtain ⟨T20, eT20, h⟩ := ol_some h
      refine x_puti hF sh75 28 rfl ck7 (by decide) (by decide) tw_1070 rfl rfl rfl rfl rfl eT20 dX8_reads_144 ?_
      refine x_aload_n hF dX8_reads_147 rfl rfl ?_
      refine x_dup hF dX8_reads_148 rfl ?_
      refine x_geti hF sh75 29 rfl ck7 (by decide) (by decide) tw_1071 rfl dX8_reads_149 ?_
      refine x_iconst (v := (1 : Int32)) hF dX8_reads_152 (by decide) ?_
      refine x_iadd hF dX8_reads_153 ?_
      obtain ⟨T21, eT21, h⟩ := ol_some h
      refine x_puti hF sh75 29 rfl ck7 (by decide) (by decide) tw_1071 rfl rfl rfl rfl rfl eT21 dX8_reads_154 ?_
      refine x_aload_n hF dX8_reads_157 rfl rfl ?_
      obtain ⟨r22, S23, hcall, h⟩ := ob_some h
      refine x_cVv hF hN hR (ctX8_skipsSpaces hF.tr hcall) mwX8_skipsSpaces miX8_skipsSpaces sh75 ck7 (by decide) tw_1431 ⟨by decide, by decide⟩ rfl rfl (Nat.le_of_ble_eq_true rfl) dX8_reads_158 ?_
      refine x_goto (tgt := 14) hF dX8_reads_161 (by decide) ?_
      obtain ⟨rfl, rfl⟩ := sm h
      exact x_sub (hag _ _ hk) ⟨rfl, trivial⟩
    · have h := oi_neg hc h
      obtain ⟨rfl, rfl⟩ := sm h
      exact x_sub (hex132 _ _ hk) ⟨rfl, trivial⟩
noncomputable def X8_reads_14 (S : St) : Option (((Unit) ⊕ (Int32 ⊕ Unit ⊕ Unit ⊕ Unit)) × St) :=
  oi ((gi S 75 27) ≤ (gi S 75 28)) (some (.inr (.inr (.inr (.inr ()))), S)) (ob (X8_word  S) (fun r5 S6 => ob (X8_meant r5 S6) (fun r7 S8 => oi (r7 = (-1 : Int32)) (some (.inr (.inl (gi S 75 28)), S8)) (og (inb ((4 : Int32) * (gi S8 75 29)) 240) (ol (si S8 89 (ix ((4 : Int32) * (gi S8 75 29))) r7) (fun T9 => oi (r7 = (1 : Int32)) (X8_reads_78 (3 : Int32) T9) (oi (r7 = (129 : Int32)) (X8_reads_78 (2 : Int32) T9) (X8_reads_78 (1 : Int32) T9))))))))
set_option maxHeartbeats 4000000 in
set_option maxRecDepth 20000 in
theorem xX8_reads_14 {F : Cx} (hF : Ok F cX8_reads RX8) (hN : nLF F 5) (hR : RmF F 3 0) {K : ((Unit) ⊕ (Int32 ⊕ Unit ⊕ Unit ⊕ Unit)) → St → Prop} (hag : ∀ (a : Unit) (S : St), K (.inl a) S → X F 0 14 [(0, .ref (gA F 75))] [] S) (hex43 : ∀ (q : Int32) (S : St), K (.inr (.inl q)) S → X F 0 43 [(1, .int q)] [] S) (hex104 : ∀ (q : Unit) (S : St), K (.inr (.inr (.inl q))) S → X F 0 104 [(0, .ref (gA F 75))] [] S) (hex132 : ∀ (q : Unit) (S : St), K (.inr (.inr (.inr (.inl q)))) S → X F 0 132 [(0, .ref (gA F 75))] [] S) (hex164 : ∀ (q : Unit) (S : St), K (.inr (.inr (.inr (.inr q)))) S → X F 0 164 [] [] S) {S : St} {r : (Unit) ⊕ (Int32 ⊕ Unit ⊕ Unit ⊕ Unit)} {S1 : St} (h : X8_reads_14  S = some (r, S1)) (hk : K r S1) : X F 0 14 [(0, .ref (gA F 75))] [] S := by
  unfold X8_reads_14 at h
  refine x_aload_n hF dX8_reads_14 rfl rfl ?_
  refine x_geti hF sh75 28 rfl ck7 (by decide) (by decide) tw_1070 rfl dX8_reads_15 ?_
  refine x_aload_n hF dX8_reads_18 rfl rfl ?_
  refine x_geti hF sh75 27 rfl ck7 (by decide) (by decide) tw_1069 rfl dX8_reads_19 ?_
  refine x_icmp_ge (tgt := 164) hF dX8_reads_22 (by decide) (fun hc => ?_) (fun hc => ?_)
  · have h := oi_pos hc h
    obtain ⟨rfl, rfl⟩ := sm h
    exact x_sub (hex164 _ _ hk) trivial
  · have h := oi_neg hc h
    refine x_aload_n hF dX8_reads_25 rfl rfl ?_
    refine x_geti hF sh75 28 rfl ck7 (by decide) (by decide) tw_1070 rfl dX8_reads_26 ?_
    refine x_istore_n [(1, _), (0, _)] hF hN dX8_reads_29 rfl (by decide) rfl ?_
    refine x_aload_n hF dX8_reads_30 rfl rfl ?_
    obtain ⟨r5, S6, hcall, h⟩ := ob_some h
    refine x_cVl hF hN hR (ctX8_word hF.tr hcall) mwX8_word miX8_word sh75 ck7 (by decide) tw_1439 ⟨by decide, by decide⟩ rfl rfl (Nat.le_of_ble_eq_true rfl) dX8_reads_31 ?_
    obtain ⟨r7, S8, hcall, h⟩ := ob_some h
    refine x_cSi hF hN hR (ctX8_meant hF.tr hcall) mwX8_meant tw_1449 tw_1448 ⟨by decide, by decide⟩ rfl rfl (Nat.le_of_ble_eq_true rfl) dX8_reads_34 ?_
    refine x_istore_n [(2, _), (1, _), (0, _)] hF hN dX8_reads_37 rfl (by decide) rfl ?_
    refine x_iload_n hF dX8_reads_38 rfl rfl ?_
    refine x_iconst (v := (-1 : Int32)) hF dX8_reads_39 (by decide) ?_
    refine x_icmp_ne (tgt := 45) hF dX8_reads_40 (by decide) (fun hc => ?_) (fun hc => ?_)
    · have h := oi_neg hc h
      refine x_aload_n hF dX8_reads_45 rfl rfl ?_
      refine x_getr hF sh75 30 rfl ck7 (by decide) (by decide) tw_1072 rfl dX8_reads_46 ?_
      refine x_iconst (v := (4 : Int32)) hF dX8_reads_49 (by decide) ?_
      refine x_aload_n hF dX8_reads_50 rfl rfl ?_
      refine x_geti hF sh75 29 rfl ck7 (by decide) (by decide) tw_1071 rfl dX8_reads_51 ?_
      refine x_imul hF dX8_reads_54 ?_
      refine x_iload_n hF dX8_reads_55 rfl rfl ?_
      obtain ⟨hg, h⟩ := og_some h
      obtain ⟨T9, eT9, h⟩ := ol_some h
      refine x_iast hF sh89 (by decide) hg rfl eT9 dX8_reads_56 ?_
      refine x_iload_n hF dX8_reads_57 rfl rfl ?_
      refine x_iconst (v := (1 : Int32)) hF dX8_reads_58 (by decide) ?_
      refine x_icmp_ne (tgt := 66) hF dX8_reads_59 (by decide) (fun hc => ?_) (fun hc => ?_)
      · have h := oi_neg hc h
        refine x_iload_n hF dX8_reads_66 rfl rfl ?_
        refine x_sipush (v := (129 : Int32)) hF dX8_reads_67 (by decide) ?_
        refine x_icmp_ne (tgt := 77) hF dX8_reads_70 (by decide) (fun hc => ?_) (fun hc => ?_)
        · have h := oi_neg hc h
          refine x_iconst (v := (1 : Int32)) hF dX8_reads_77 (by decide) ?_
          exact x_sub (xX8_reads_78 hF hN hR (K := K) hag hex43 hex104 hex132 hex164 h hk) ⟨rfl, trivial⟩
        · have h := oi_pos hc h
          refine x_iconst (v := (2 : Int32)) hF dX8_reads_73 (by decide) ?_
          refine x_goto (tgt := 78) hF dX8_reads_74 (by decide) ?_
          exact x_sub (xX8_reads_78 hF hN hR (K := K) hag hex43 hex104 hex132 hex164 h hk) ⟨rfl, trivial⟩
      · have h := oi_pos hc h
        refine x_iconst (v := (3 : Int32)) hF dX8_reads_62 (by decide) ?_
        refine x_goto (tgt := 78) hF dX8_reads_63 (by decide) ?_
        exact x_sub (xX8_reads_78 hF hN hR (K := K) hag hex43 hex104 hex132 hex164 h hk) ⟨rfl, trivial⟩
    · have h := oi_pos hc h
      obtain ⟨rfl, rfl⟩ := sm h
      exact x_sub (hex43 _ _ hk) ⟨rfl, trivial⟩
noncomputable def X8_reads_14L (a : Unit) (S : St) : Option ((Int32 ⊕ Unit ⊕ Unit ⊕ Unit) × St) :=
  lp (fun (a : Unit) (S : St) => X8_reads_14  S) a S
theorem xX8_reads_14L {F : Cx} (hF : Ok F cX8_reads RX8) (hN : nLF F 5) (hR : RmF F 3 0) {K : (Int32 ⊕ Unit ⊕ Unit ⊕ Unit) → St → Prop} (hex43 : ∀ (q : Int32) (S : St), K ((.inl q)) S → X F 0 43 [(1, .int q)] [] S) (hex104 : ∀ (q : Unit) (S : St), K ((.inr (.inl q))) S → X F 0 104 [(0, .ref (gA F 75))] [] S) (hex132 : ∀ (q : Unit) (S : St), K ((.inr (.inr (.inl q)))) S → X F 0 132 [(0, .ref (gA F 75))] [] S) (hex164 : ∀ (q : Unit) (S : St), K ((.inr (.inr (.inr q)))) S → X F 0 164 [] [] S) {a : Unit} {S : St} {b : Int32 ⊕ Unit ⊕ Unit ⊕ Unit} {S1 : St} (h : X8_reads_14L  a S = some (b, S1)) (hk : K b S1) : X F 0 14 [(0, .ref (gA F 75))] [] S := by
  unfold X8_reads_14L at h
  exact lp_rule (Xh := fun (a : Unit) (S : St) => X F 0 14 [(0, .ref (gA F 75))] [] S) (K := K) (fun a S r S1 h hk => xX8_reads_14 hF hN hR (K := fun r S => match r with | .inl a => X F 0 14 [(0, .ref (gA F 75))] [] S | .inr b => K b S) (fun _ _ h => h) (fun q S h => hex43 q S h) (fun q S h => hex104 q S h) (fun q S h => hex132 q S h) (fun q S h => hex164 q S h) h (by cases r <;> exact hk)) h hk
noncomputable def X8_reads (S : St) : Option (Int32 × St) :=
  ol (si S 75 28 (0 : Int32)) (fun T1 => ol (si T1 75 29 (0 : Int32)) (fun T2 => ob (X8_skipsSpaces  T2) (fun r3 S4 => ob (X8_reads_14L () S4) (fun b24 S25 => match b24 with | .inl q26 => some (q26, S25) | .inr (.inl q27) => some ((gi S25 75 28), S25) | .inr (.inr (.inl q28)) => some ((gi S25 75 28), S25) | .inr (.inr (.inr q29)) => some ((-1 : Int32), S25)))))
set_option maxHeartbeats 4000000 in
set_option maxRecDepth 20000 in
theorem ctX8_reads {l : Launch} {G : Ga} (hl : l.stackTraces = false) {S : St} {r : Int32} {S1 : St} (h : X8_reads  S = some (r, S1)) : CT l G 3 yX8_reads cX8_reads 5 (some .int) [.ref (G.1 75)] S (some (.int r)) S1 := by
  refine ct_of hl (by decide) (Nat.le_of_ble_eq_true rfl) (fun F hFl hFG hF hN hR hret => ?_)
  subst hFl hFG
  show X F 0 0 [(0, .ref (gA F 75))] [] S
  have hret : ∀ (v : Int32) (S : St) (pc : Nat) (ls : List (Nat × Value)), (v = r ∧ S = S1) → decode cX8_reads pc = .ok (.ireturn, 1) → X F 0 pc ls [.int v] S := fun v S2 pc ls hq hd => by obtain ⟨rfl, rfl⟩ := hq; exact hret.1 pc ls v rfl rfl hd
  have hk : r = r ∧ S1 = S1 := ⟨rfl, rfl⟩
  unfold X8_reads at h
  refine x_aload_n hF dX8_reads_0 rfl rfl ?_
  refine x_iconst (v := (0 : Int32)) hF dX8_reads_1 (by decide) ?_
  obtain ⟨T1, eT1, h⟩ := ol_some h
  refine x_puti hF sh75 28 rfl ck7 (by decide) (by decide) tw_1070 rfl rfl rfl rfl rfl eT1 dX8_reads_2 ?_
  refine x_aload_n hF dX8_reads_5 rfl rfl ?_
  refine x_iconst (v := (0 : Int32)) hF dX8_reads_6 (by decide) ?_
  obtain ⟨T2, eT2, h⟩ := ol_some h
  refine x_puti hF sh75 29 rfl ck7 (by decide) (by decide) tw_1071 rfl rfl rfl rfl rfl eT2 dX8_reads_7 ?_
  refine x_aload_n hF dX8_reads_10 rfl rfl ?_
  obtain ⟨r3, S4, hcall, h⟩ := ob_some h
  refine x_cVv hF hN hR (ctX8_skipsSpaces hF.tr hcall) mwX8_skipsSpaces miX8_skipsSpaces sh75 ck7 (by decide) tw_1431 ⟨by decide, by decide⟩ rfl rfl (Nat.le_of_ble_eq_true rfl) dX8_reads_11 ?_
  obtain ⟨b24, S25, hlb24, h⟩ := ob_some h
  refine x_sub (xX8_reads_14L hF hN hR (K := fun bb SS => bb = b24 ∧ SS = S25) ?_ ?_ ?_ ?_ hlb24 ⟨rfl, rfl⟩) ⟨rfl, trivial⟩
  · rintro _ _ ⟨rfl, rfl⟩
    dsimp only at h
    refine x_iload_n hF dX8_reads_43 rfl rfl ?_
    obtain ⟨rfl, rfl⟩ := sm h
    exact hret _ _ _ _ hk dX8_reads_44
  · rintro _ _ ⟨rfl, rfl⟩
    dsimp only at h
    refine x_aload_n hF dX8_reads_104 rfl rfl ?_
    refine x_geti hF sh75 28 rfl ck7 (by decide) (by decide) tw_1070 rfl dX8_reads_105 ?_
    obtain ⟨rfl, rfl⟩ := sm h
    exact hret _ _ _ _ hk dX8_reads_108
  · rintro _ _ ⟨rfl, rfl⟩
    dsimp only at h
    refine x_aload_n hF dX8_reads_132 rfl rfl ?_
    refine x_geti hF sh75 28 rfl ck7 (by decide) (by decide) tw_1070 rfl dX8_reads_133 ?_
    obtain ⟨rfl, rfl⟩ := sm h
    exact hret _ _ _ _ hk dX8_reads_136
  · rintro _ _ ⟨rfl, rfl⟩
    dsimp only at h
    refine x_iconst (v := (-1 : Int32)) hF dX8_reads_164 (by decide) ?_
    obtain ⟨rfl, rfl⟩ := sm h
    exact hret _ _ _ _ hk dX8_reads_165
noncomputable def X8_fault (S : St) : Option (Int32 × St) :=
  ol (si S 75 3 (0 : Int32)) (fun T1 => ob (X8_reads  T1) (fun r2 S3 => some (r2, S3)))
set_option maxHeartbeats 4000000 in
set_option maxRecDepth 20000 in
theorem ctX8_fault {l : Launch} {G : Ga} (hl : l.stackTraces = false) {S : St} {r : Int32} {S1 : St} (h : X8_fault  S = some (r, S1)) : CT l G 4 yX8_fault cX8_fault 1 (some .int) [.ref (G.1 75)] S (some (.int r)) S1 := by
  refine ct_of hl (by decide) (Nat.le_of_ble_eq_true rfl) (fun F hFl hFG hF hN hR hret => ?_)
  subst hFl hFG
  show X F 0 0 [(0, .ref (gA F 75))] [] S
  have hret : ∀ (v : Int32) (S : St) (pc : Nat) (ls : List (Nat × Value)), (v = r ∧ S = S1) → decode cX8_fault pc = .ok (.ireturn, 1) → X F 0 pc ls [.int v] S := fun v S2 pc ls hq hd => by obtain ⟨rfl, rfl⟩ := hq; exact hret.1 pc ls v rfl rfl hd
  have hk : r = r ∧ S1 = S1 := ⟨rfl, rfl⟩
  unfold X8_fault at h
  refine x_aload_n hF dX8_fault_0 rfl rfl ?_
  refine x_iconst (v := (0 : Int32)) hF dX8_fault_1 (by decide) ?_
  obtain ⟨T1, eT1, h⟩ := ol_some h
  refine x_puti hF sh75 3 rfl ck7 (by decide) (by decide) tw_1045 rfl rfl rfl rfl rfl eT1 dX8_fault_2 ?_
  refine x_aload_n hF dX8_fault_5 rfl rfl ?_
  obtain ⟨r2, S3, hcall, h⟩ := ob_some h
  refine x_cVi hF hN hR (ctX8_reads hF.tr hcall) mwX8_reads miX8_reads sh75 ck7 (by decide) tw_1427 ⟨by decide, by decide⟩ rfl rfl (Nat.le_of_ble_eq_true rfl) dX8_fault_6 ?_
  obtain ⟨rfl, rfl⟩ := sm h
  exact hret _ _ _ _ hk dX8_fault_9
noncomputable def X8_does_160 (x2 : Int32) (x3 : Int32) (x4 : Int32) (x5 : Int32) (z1 : Int32) (S : St) : Option (Int32 × St) :=
  oi (x2 = (129 : Int32)) (og (inb z1 135) (ol (si S 76 (ix z1) x4) (fun T4 => og (isB x5) (some (x5, T4))))) (og (inb z1 135) (ol (si S 76 (ix z1) x3) (fun T3 => og (isB x5) (some (x5, T3)))))
set_option maxHeartbeats 4000000 in
set_option maxRecDepth 20000 in
theorem xX8_does_160 {F : Cx} (hF : Ok F cX8_does RX8) (hN : nLF F 7) (hR : RmF F 3 0) {x2 : Int32} {x3 : Int32} {x4 : Int32} {x5 : Int32} {z1 : Int32} {K : Int32 → St → Prop} (hret : ∀ (v : Int32) (S : St) (pc : Nat) (ls : List (Nat × Value)), isB v → K v S → decode cX8_does pc = .ok (.ireturn, 1) → X F 0 pc ls [.int v] S) {S : St} {r : Int32} {S1 : St} (h : X8_does_160 x2 x3 x4 x5 z1 S = some (r, S1)) (hk : K r S1) : X F 0 160 [(2, .int x2), (3, .int x3), (4, .int x4), (5, .int x5)] [.int z1, .ref (gA F 76)] S := by
  unfold X8_does_160 at h
  refine x_iload_n hF dX8_does_160 rfl rfl ?_
  refine x_sipush (v := (129 : Int32)) hF dX8_does_161 (by decide) ?_
  refine x_icmp_ne (tgt := 172) hF dX8_does_164 (by decide) (fun hc => ?_) (fun hc => ?_)
  · have h := oi_neg hc h
    refine x_iload_n hF dX8_does_172 rfl rfl ?_
    obtain ⟨hg, h⟩ := og_some h
    obtain ⟨T3, eT3, h⟩ := ol_some h
    refine x_iast hF sh76 (by decide) hg rfl eT3 dX8_does_173 ?_
    refine x_iload hF dX8_does_174 rfl ?_
    obtain ⟨hg, h⟩ := og_some h
    obtain ⟨rfl, rfl⟩ := sm h
    exact hret _ _ _ _ hg hk dX8_does_176
  · have h := oi_pos hc h
    refine x_iload hF dX8_does_167 rfl ?_
    refine x_goto (tgt := 173) hF dX8_does_169 (by decide) ?_
    obtain ⟨hg, h⟩ := og_some h
    obtain ⟨T4, eT4, h⟩ := ol_some h
    refine x_iast hF sh76 (by decide) hg rfl eT4 dX8_does_173 ?_
    refine x_iload hF dX8_does_174 rfl ?_
    obtain ⟨hg, h⟩ := og_some h
    obtain ⟨rfl, rfl⟩ := sm h
    exact hret _ _ _ _ hg hk dX8_does_176
noncomputable def X8_does_133 (x2 : Int32) (x3 : Int32) (x4 : Int32) (z0 : Int32) (S : St) : Option (Int32 × St) :=
  oi (z0 = 0) (og (isB z0) (some (z0, S))) (oi (x2 = (129 : Int32)) (X8_does_160 x2 x3 x4 z0 ((129 : Int32) + x3) S) (X8_does_160 x2 x3 x4 z0 x2 S))
set_option maxHeartbeats 4000000 in
set_option maxRecDepth 20000 in
theorem xX8_does_133 {F : Cx} (hF : Ok F cX8_does RX8) (hN : nLF F 7) (hR : RmF F 3 0) {x2 : Int32} {x3 : Int32} {x4 : Int32} {z0 : Int32} {K : Int32 → St → Prop} (hret : ∀ (v : Int32) (S : St) (pc : Nat) (ls : List (Nat × Value)), isB v → K v S → decode cX8_does pc = .ok (.ireturn, 1) → X F 0 pc ls [.int v] S) {S : St} {r : Int32} {S1 : St} (h : X8_does_133 x2 x3 x4 z0 S = some (r, S1)) (hk : K r S1) : X F 0 133 [(0, .ref (gA F 75)), (2, .int x2), (3, .int x3), (4, .int x4)] [.int z0] S := by
  unfold X8_does_133 at h
  refine x_istore [(5, _), (0, _), (2, _), (3, _), (4, _)] hF hN dX8_does_133 (by decide) rfl ?_
  refine x_iload hF dX8_does_135 rfl ?_
  refine x_if_eq (tgt := 174) hF dX8_does_137 (by decide) (fun hc => ?_) (fun hc => ?_)
  · have h := oi_pos hc h
    refine x_iload hF dX8_does_174 rfl ?_
    obtain ⟨hg, h⟩ := og_some h
    obtain ⟨rfl, rfl⟩ := sm h
    exact hret _ _ _ _ hg hk dX8_does_176
  · have h := oi_neg hc h
    refine x_aload_n hF dX8_does_140 rfl rfl ?_
    refine x_getr hF sh75 0 rfl ck7 (by decide) (by decide) tw_1042 rfl dX8_does_141 ?_
    refine x_iload_n hF dX8_does_144 rfl rfl ?_
    refine x_sipush (v := (129 : Int32)) hF dX8_does_145 (by decide) ?_
    refine x_icmp_ne (tgt := 159) hF dX8_does_148 (by decide) (fun hc => ?_) (fun hc => ?_)
    · have h := oi_neg hc h
      refine x_iload_n hF dX8_does_159 rfl rfl ?_
      exact x_sub (xX8_does_160 hF hN hR (K := K) hret h hk) ⟨rfl, rfl, rfl, rfl, trivial⟩
    · have h := oi_pos hc h
      refine x_sipush (v := (129 : Int32)) hF dX8_does_151 (by decide) ?_
      refine x_iload_n hF dX8_does_154 rfl rfl ?_
      refine x_iadd hF dX8_does_155 ?_
      refine x_goto (tgt := 160) hF dX8_does_156 (by decide) ?_
      exact x_sub (xX8_does_160 hF hN hR (K := K) hret h hk) ⟨rfl, rfl, rfl, rfl, trivial⟩
noncomputable def X8_does_124 (x2 : Int32) (x3 : Int32) (x4 : Int32) (S : St) : Option (Int32 × St) :=
  X8_does_133 x2 x3 x4 (0 : Int32) S
set_option maxHeartbeats 4000000 in
set_option maxRecDepth 20000 in
theorem xX8_does_124 {F : Cx} (hF : Ok F cX8_does RX8) (hN : nLF F 7) (hR : RmF F 3 0) {x2 : Int32} {x3 : Int32} {x4 : Int32} {K : Int32 → St → Prop} (hret : ∀ (v : Int32) (S : St) (pc : Nat) (ls : List (Nat × Value)), isB v → K v S → decode cX8_does pc = .ok (.ireturn, 1) → X F 0 pc ls [.int v] S) {S : St} {r : Int32} {S1 : St} (h : X8_does_124 x2 x3 x4 S = some (r, S1)) (hk : K r S1) : X F 0 124 [(0, .ref (gA F 75)), (2, .int x2), (3, .int x3), (4, .int x4)] [] S := by
  unfold X8_does_124 at h
  refine x_iconst (v := (0 : Int32)) hF dX8_does_124 (by decide) ?_
  refine x_goto (tgt := 133) hF dX8_does_125 (by decide) ?_
  exact x_sub (xX8_does_133 hF hN hR (K := K) hret h hk) ⟨rfl, rfl, rfl, rfl, trivial⟩
noncomputable def X8_does_62 (x1 : Int32) (x3 : Int32) (x4 : Int32) (z0 : Int32) (S : St) : Option (Int32 × St) :=
  oi (z0 = 0) (og (isB z0) (some (z0, S))) (og (inb (((4 : Int32) * x1) + (3 : Int32)) 240) (ob (X8_records x3 x4 (gi S 89 (ix (((4 : Int32) * x1) + (3 : Int32)))) S) (fun r11 S12 => og (isB z0) (some (z0, S12)))))
set_option maxHeartbeats 4000000 in
set_option maxRecDepth 20000 in
theorem xX8_does_62 {F : Cx} (hF : Ok F cX8_does RX8) (hN : nLF F 7) (hR : RmF F 3 0) {x1 : Int32} {x3 : Int32} {x4 : Int32} {z0 : Int32} {K : Int32 → St → Prop} (hret : ∀ (v : Int32) (S : St) (pc : Nat) (ls : List (Nat × Value)), isB v → K v S → decode cX8_does pc = .ok (.ireturn, 1) → X F 0 pc ls [.int v] S) {S : St} {r : Int32} {S1 : St} (h : X8_does_62 x1 x3 x4 z0 S = some (r, S1)) (hk : K r S1) : X F 0 62 [(0, .ref (gA F 75)), (1, .int x1), (3, .int x3), (4, .int x4)] [.int z0] S := by
  unfold X8_does_62 at h
  refine x_istore [(5, _), (0, _), (1, _), (3, _), (4, _)] hF hN dX8_does_62 (by decide) rfl ?_
  refine x_iload hF dX8_does_64 rfl ?_
  refine x_if_eq (tgt := 89) hF dX8_does_66 (by decide) (fun hc => ?_) (fun hc => ?_)
  · have h := oi_pos hc h
    refine x_iconst (v := (-1 : Int32)) hF dX8_does_89 (by decide) ?_
    refine x_istore [(6, _), (5, _), (0, _), (1, _), (3, _), (4, _)] hF hN dX8_does_90 (by decide) rfl ?_
    refine x_iload hF dX8_does_92 rfl ?_
    obtain ⟨hg, h⟩ := og_some h
    obtain ⟨rfl, rfl⟩ := sm h
    exact hret _ _ _ _ hg hk dX8_does_94
  · have h := oi_neg hc h
    refine x_aload_n hF dX8_does_69 rfl rfl ?_
    refine x_iload_n hF dX8_does_70 rfl rfl ?_
    refine x_iload hF dX8_does_71 rfl ?_
    refine x_aload_n hF dX8_does_73 rfl rfl ?_
    refine x_getr hF sh75 30 rfl ck7 (by decide) (by decide) tw_1072 rfl dX8_does_74 ?_
    refine x_iconst (v := (4 : Int32)) hF dX8_does_77 (by decide) ?_
    refine x_iload_n hF dX8_does_78 rfl rfl ?_
    refine x_imul hF dX8_does_79 ?_
    refine x_iconst (v := (3 : Int32)) hF dX8_does_80 (by decide) ?_
    refine x_iadd hF dX8_does_81 ?_
    obtain ⟨hg, h⟩ := og_some h
    refine x_iald hF sh89 (by decide) hg rfl dX8_does_82 ?_
    obtain ⟨r11, S12, hcall, h⟩ := ob_some h
    refine x_cVi hF hN hR (ctX8_records hF.tr hcall) mwX8_records miX8_records sh75 ck7 (by decide) tw_1162 ⟨by decide, by decide⟩ rfl rfl (Nat.le_of_ble_eq_true rfl) dX8_does_83 ?_
    refine x_goto (tgt := 90) hF dX8_does_86 (by decide) ?_
    refine x_istore [(6, _), (5, _), (0, _), (1, _), (3, _), (4, _)] hF hN dX8_does_90 (by decide) rfl ?_
    refine x_iload hF dX8_does_92 rfl ?_
    obtain ⟨hg, h⟩ := og_some h
    obtain ⟨rfl, rfl⟩ := sm h
    exact hret _ _ _ _ hg hk dX8_does_94
noncomputable def X8_does (x1 : Int32) (S : St) : Option (Int32 × St) :=
  og (inb ((4 : Int32) * x1) 240) (og (inb (((4 : Int32) * x1) + (1 : Int32)) 240) (og (inb (((4 : Int32) * x1) + (2 : Int32)) 240) (oi ((gi S 89 (ix ((4 : Int32) * x1))) = (1 : Int32)) (og (inb (((4 : Int32) * x1) + (3 : Int32)) 240) (ob (X8_noRecord (gi S 89 (ix (((4 : Int32) * x1) + (1 : Int32)))) (gi S 89 (ix (((4 : Int32) * x1) + (2 : Int32)))) (gi S 89 (ix (((4 : Int32) * x1) + (3 : Int32)))) S) (fun r9 S10 => oi (r9 = 0) (X8_does_62 x1 (gi S 89 (ix (((4 : Int32) * x1) + (1 : Int32)))) (gi S 89 (ix (((4 : Int32) * x1) + (2 : Int32)))) (1 : Int32) S10) (X8_does_62 x1 (gi S 89 (ix (((4 : Int32) * x1) + (1 : Int32)))) (gi S 89 (ix (((4 : Int32) * x1) + (2 : Int32)))) (0 : Int32) S10)))) (oi ((gi S 89 (ix ((4 : Int32) * x1))) = (129 : Int32)) (ob (X8_isFlow (gi S 89 (ix (((4 : Int32) * x1) + (1 : Int32)))) S) (fun r5 S6 => oi (r5 = 0) (X8_does_124 (gi S 89 (ix ((4 : Int32) * x1))) (gi S 89 (ix (((4 : Int32) * x1) + (1 : Int32)))) (gi S 89 (ix (((4 : Int32) * x1) + (2 : Int32)))) S6) (ob (X8_in (gi S 89 (ix (((4 : Int32) * x1) + (2 : Int32)))) (0 : Int32) (9 : Int32) S6) (fun r7 S8 => oi (r7 = 0) (X8_does_124 (gi S 89 (ix ((4 : Int32) * x1))) (gi S 89 (ix (((4 : Int32) * x1) + (1 : Int32)))) (gi S 89 (ix (((4 : Int32) * x1) + (2 : Int32)))) S8) (X8_does_133 (gi S 89 (ix ((4 : Int32) * x1))) (gi S 89 (ix (((4 : Int32) * x1) + (1 : Int32)))) (gi S 89 (ix (((4 : Int32) * x1) + (2 : Int32)))) (1 : Int32) S8))))) (ob (X8_fits (gi S 89 (ix ((4 : Int32) * x1))) (gi S 89 (ix (((4 : Int32) * x1) + (1 : Int32)))) S) (fun r1 S2 => X8_does_133 (gi S 89 (ix ((4 : Int32) * x1))) (gi S 89 (ix (((4 : Int32) * x1) + (1 : Int32)))) (gi S 89 (ix (((4 : Int32) * x1) + (2 : Int32)))) r1 S2))))))
set_option maxHeartbeats 4000000 in
set_option maxRecDepth 20000 in
theorem ctX8_does {l : Launch} {G : Ga} {x1 : Int32} (hl : l.stackTraces = false) {S : St} {r : Int32} {S1 : St} (h : X8_does x1 S = some (r, S1)) : CT l G 3 yX8_does cX8_does 7 (some .boolean) [.ref (G.1 75), .int x1] S (some (.int r)) S1 := by
  refine ct_of hl (by decide) (Nat.le_of_ble_eq_true rfl) (fun F hFl hFG hF hN hR hret => ?_)
  subst hFl hFG
  show X F 0 0 [(0, .ref (gA F 75)), (1, .int x1)] [] S
  have hret : ∀ (v : Int32) (S : St) (pc : Nat) (ls : List (Nat × Value)), isB v → (v = r ∧ S = S1) → decode cX8_does pc = .ok (.ireturn, 1) → X F 0 pc ls [.int v] S := fun v S2 pc ls hb hq hd => by obtain ⟨rfl, rfl⟩ := hq; exact hret.2.1 pc ls v rfl hb rfl hd
  have hk : r = r ∧ S1 = S1 := ⟨rfl, rfl⟩
  unfold X8_does at h
  refine x_aload_n hF dX8_does_0 rfl rfl ?_
  refine x_getr hF sh75 30 rfl ck7 (by decide) (by decide) tw_1072 rfl dX8_does_1 ?_
  refine x_iconst (v := (4 : Int32)) hF dX8_does_4 (by decide) ?_
  refine x_iload_n hF dX8_does_5 rfl rfl ?_
  refine x_imul hF dX8_does_6 ?_
  obtain ⟨hg, h⟩ := og_some h
  refine x_iald hF sh89 (by decide) hg rfl dX8_does_7 ?_
  refine x_istore_n [(2, _), (0, _), (1, _)] hF hN dX8_does_8 rfl (by decide) rfl ?_
  refine x_aload_n hF dX8_does_9 rfl rfl ?_
  refine x_getr hF sh75 30 rfl ck7 (by decide) (by decide) tw_1072 rfl dX8_does_10 ?_
  refine x_iconst (v := (4 : Int32)) hF dX8_does_13 (by decide) ?_
  refine x_iload_n hF dX8_does_14 rfl rfl ?_
  refine x_imul hF dX8_does_15 ?_
  refine x_iconst (v := (1 : Int32)) hF dX8_does_16 (by decide) ?_
  refine x_iadd hF dX8_does_17 ?_
  obtain ⟨hg, h⟩ := og_some h
  refine x_iald hF sh89 (by decide) hg rfl dX8_does_18 ?_
  refine x_istore_n [(3, _), (2, _), (0, _), (1, _)] hF hN dX8_does_19 rfl (by decide) rfl ?_
  refine x_aload_n hF dX8_does_20 rfl rfl ?_
  refine x_getr hF sh75 30 rfl ck7 (by decide) (by decide) tw_1072 rfl dX8_does_21 ?_
  refine x_iconst (v := (4 : Int32)) hF dX8_does_24 (by decide) ?_
  refine x_iload_n hF dX8_does_25 rfl rfl ?_
  refine x_imul hF dX8_does_26 ?_
  refine x_iconst (v := (2 : Int32)) hF dX8_does_27 (by decide) ?_
  refine x_iadd hF dX8_does_28 ?_
  obtain ⟨hg, h⟩ := og_some h
  refine x_iald hF sh89 (by decide) hg rfl dX8_does_29 ?_
  refine x_istore [(4, _), (3, _), (2, _), (0, _), (1, _)] hF hN dX8_does_30 (by decide) rfl ?_
  refine x_iload_n hF dX8_does_32 rfl rfl ?_
  refine x_iconst (v := (1 : Int32)) hF dX8_does_33 (by decide) ?_
  refine x_icmp_ne (tgt := 95) hF dX8_does_34 (by decide) (fun hc => ?_) (fun hc => ?_)
  · have h := oi_neg hc h
    refine x_iload_n hF dX8_does_95 rfl rfl ?_
    refine x_sipush (v := (129 : Int32)) hF dX8_does_96 (by decide) ?_
    refine x_icmp_ne (tgt := 128) hF dX8_does_99 (by decide) (fun hc => ?_) (fun hc => ?_)
    · have h := oi_neg hc h
      refine x_iload_n hF dX8_does_128 rfl rfl ?_
      refine x_iload_n hF dX8_does_129 rfl rfl ?_
      obtain ⟨r1, S2, hcall, h⟩ := ob_some h
      refine x_cSi hF hN hR (ctX8_fits hF.tr hcall) mwX8_fits tw_1195 tw_1194 ⟨by decide, by decide⟩ rfl rfl (Nat.le_of_ble_eq_true rfl) dX8_does_130 ?_
      exact x_sub (xX8_does_133 hF hN hR (K := fun v9 S9 => v9 = r ∧ S9 = S1) hret h hk) ⟨rfl, rfl, rfl, rfl, trivial⟩
    · have h := oi_pos hc h
      refine x_iload_n hF dX8_does_102 rfl rfl ?_
      obtain ⟨r5, S6, hcall, h⟩ := ob_some h
      refine x_cSi hF hN hR (ctX8_isFlow hF.tr hcall) mwX8_isFlow tw_1149 tw_1148 ⟨by decide, by decide⟩ rfl rfl (Nat.le_of_ble_eq_true rfl) dX8_does_103 ?_
      refine x_if_eq (tgt := 124) hF dX8_does_106 (by decide) (fun hc => ?_) (fun hc => ?_)
      · have h := oi_pos hc h
        exact x_sub (xX8_does_124 hF hN hR (K := fun v9 S9 => v9 = r ∧ S9 = S1) hret h hk) ⟨rfl, rfl, rfl, rfl, trivial⟩
      · have h := oi_neg hc h
        refine x_iload hF dX8_does_109 rfl ?_
        refine x_iconst (v := (0 : Int32)) hF dX8_does_111 (by decide) ?_
        refine x_bipush (v := (9 : Int32)) hF dX8_does_112 (by decide) ?_
        obtain ⟨r7, S8, hcall, h⟩ := ob_some h
        refine x_cSi hF hN hR (ctX8_in hF.tr hcall) mwX8_in tw_1152 tw_1151 ⟨by decide, by decide⟩ rfl rfl (Nat.le_of_ble_eq_true rfl) dX8_does_114 ?_
        refine x_if_eq (tgt := 124) hF dX8_does_117 (by decide) (fun hc => ?_) (fun hc => ?_)
        · have h := oi_pos hc h
          exact x_sub (xX8_does_124 hF hN hR (K := fun v9 S9 => v9 = r ∧ S9 = S1) hret h hk) ⟨rfl, rfl, rfl, rfl, trivial⟩
        · have h := oi_neg hc h
          refine x_iconst (v := (1 : Int32)) hF dX8_does_120 (by decide) ?_
          refine x_goto (tgt := 133) hF dX8_does_121 (by decide) ?_
          exact x_sub (xX8_does_133 hF hN hR (K := fun v9 S9 => v9 = r ∧ S9 = S1) hret h hk) ⟨rfl, rfl, rfl, rfl, trivial⟩
  · have h := oi_pos hc h
    refine x_aload_n hF dX8_does_37 rfl rfl ?_
    refine x_iload_n hF dX8_does_38 rfl rfl ?_
    refine x_iload hF dX8_does_39 rfl ?_
    refine x_aload_n hF dX8_does_41 rfl rfl ?_
    refine x_getr hF sh75 30 rfl ck7 (by decide) (by decide) tw_1072 rfl dX8_does_42 ?_
    refine x_iconst (v := (4 : Int32)) hF dX8_does_45 (by decide) ?_
    refine x_iload_n hF dX8_does_46 rfl rfl ?_
    refine x_imul hF dX8_does_47 ?_
    refine x_iconst (v := (3 : Int32)) hF dX8_does_48 (by decide) ?_
    refine x_iadd hF dX8_does_49 ?_
    obtain ⟨hg, h⟩ := og_some h
    refine x_iald hF sh89 (by decide) hg rfl dX8_does_50 ?_
    obtain ⟨r9, S10, hcall, h⟩ := ob_some h
    refine x_cVi hF hN hR (ctX8_noRecord hF.tr hcall) mwX8_noRecord miX8_noRecord sh75 ck7 (by decide) tw_1144 ⟨by decide, by decide⟩ rfl rfl (Nat.le_of_ble_eq_true rfl) dX8_does_51 ?_
    refine x_if_ne (tgt := 61) hF dX8_does_54 (by decide) (fun hc => ?_) (fun hc => ?_)
    · have h := oi_neg hc h
      refine x_iconst (v := (0 : Int32)) hF dX8_does_61 (by decide) ?_
      exact x_sub (xX8_does_62 hF hN hR (K := fun v9 S9 => v9 = r ∧ S9 = S1) hret h hk) ⟨rfl, rfl, rfl, rfl, trivial⟩
    · have h := oi_pos hc h
      refine x_iconst (v := (1 : Int32)) hF dX8_does_57 (by decide) ?_
      refine x_goto (tgt := 62) hF dX8_does_58 (by decide) ?_
      exact x_sub (xX8_does_62 hF hN hR (K := fun v9 S9 => v9 = r ∧ S9 = S1) hret h hk) ⟨rfl, rfl, rfl, rfl, trivial⟩
noncomputable def X8_run_30 (x1 : Int32) (x2 : Int32) (S : St) : Option (((Int32 × Int32) ⊕ Int32) × St) :=
  oi ((gi S 75 29) ≤ x2) (some (.inr x1, S)) (ob (X8_does x2 S) (fun r7 S8 => oi (r7 = 0) (some (.inl ((x1 + (0 : Int32)), (x2 + (1 : Int32))), S8)) (some (.inl ((x1 + (1 : Int32)), (x2 + (1 : Int32))), S8))))
set_option maxHeartbeats 4000000 in
set_option maxRecDepth 20000 in
theorem xX8_run_30 {F : Cx} (hF : Ok F cX8_run RX8) (hN : nLF F 3) (hR : RmF F 4 0) {x1 : Int32} {x2 : Int32} {K : ((Int32 × Int32) ⊕ Int32) → St → Prop} (hag : ∀ (a : Int32 × Int32) (S : St), K (.inl a) S → X F 0 30 [(0, .ref (gA F 75)), (1, .int a.1), (2, .int a.2)] [] S) (hex60 : ∀ (q : Int32) (S : St), K (.inr q) S → X F 0 60 [(1, .int q)] [] S) {S : St} {r : (Int32 × Int32) ⊕ Int32} {S1 : St} (h : X8_run_30 x1 x2 S = some (r, S1)) (hk : K r S1) : X F 0 30 [(0, .ref (gA F 75)), (1, .int x1), (2, .int x2)] [] S := by
  unfold X8_run_30 at h
  refine x_iload_n hF dX8_run_30 rfl rfl ?_
  refine x_aload_n hF dX8_run_31 rfl rfl ?_
  refine x_geti hF sh75 29 rfl ck7 (by decide) (by decide) tw_1071 rfl dX8_run_32 ?_
  refine x_icmp_ge (tgt := 60) hF dX8_run_35 (by decide) (fun hc => ?_) (fun hc => ?_)
  · have h := oi_pos hc h
    obtain ⟨rfl, rfl⟩ := sm h
    exact x_sub (hex60 _ _ hk) ⟨rfl, trivial⟩
  · have h := oi_neg hc h
    refine x_iload_n hF dX8_run_38 rfl rfl ?_
    refine x_aload_n hF dX8_run_39 rfl rfl ?_
    refine x_iload_n hF dX8_run_40 rfl rfl ?_
    obtain ⟨r7, S8, hcall, h⟩ := ob_some h
    refine x_cVi hF hN hR (ctX8_does hF.tr hcall) mwX8_does miX8_does sh75 ck7 (by decide) tw_1469 ⟨by decide, by decide⟩ rfl rfl (Nat.le_of_ble_eq_true rfl) dX8_run_41 ?_
    refine x_if_eq (tgt := 51) hF dX8_run_44 (by decide) (fun hc => ?_) (fun hc => ?_)
    · have h := oi_pos hc h
      refine x_iconst (v := (0 : Int32)) hF dX8_run_51 (by decide) ?_
      refine x_iadd hF dX8_run_52 ?_
      refine x_istore_n [(1, _), (0, _), (2, _)] hF hN dX8_run_53 rfl (by decide) rfl ?_
      refine x_iinc [(2, _), (1, _), (0, _)] (v := (1 : Int32)) hF hN dX8_run_54 rfl (by decide) (by decide) rfl ?_
      refine x_goto (tgt := 30) hF dX8_run_57 (by decide) ?_
      obtain ⟨rfl, rfl⟩ := sm h
      exact x_sub (hag _ _ hk) ⟨rfl, rfl, rfl, trivial⟩
    · have h := oi_neg hc h
      refine x_iconst (v := (1 : Int32)) hF dX8_run_47 (by decide) ?_
      refine x_goto (tgt := 52) hF dX8_run_48 (by decide) ?_
      refine x_iadd hF dX8_run_52 ?_
      refine x_istore_n [(1, _), (0, _), (2, _)] hF hN dX8_run_53 rfl (by decide) rfl ?_
      refine x_iinc [(2, _), (1, _), (0, _)] (v := (1 : Int32)) hF hN dX8_run_54 rfl (by decide) (by decide) rfl ?_
      refine x_goto (tgt := 30) hF dX8_run_57 (by decide) ?_
      obtain ⟨rfl, rfl⟩ := sm h
      exact x_sub (hag _ _ hk) ⟨rfl, rfl, rfl, trivial⟩
noncomputable def X8_run_30L (a : Int32 × Int32) (S : St) : Option (Int32 × St) :=
  lp (fun (a : Int32 × Int32) (S : St) => X8_run_30 a.1 a.2 S) a S
theorem xX8_run_30L {F : Cx} (hF : Ok F cX8_run RX8) (hN : nLF F 3) (hR : RmF F 4 0) {K : Int32 → St → Prop} (hex60 : ∀ (q : Int32) (S : St), K (q) S → X F 0 60 [(1, .int q)] [] S) {a : Int32 × Int32} {S : St} {b : Int32} {S1 : St} (h : X8_run_30L  a S = some (b, S1)) (hk : K b S1) : X F 0 30 [(0, .ref (gA F 75)), (1, .int a.1), (2, .int a.2)] [] S := by
  unfold X8_run_30L at h
  exact lp_rule (Xh := fun (a : Int32 × Int32) (S : St) => X F 0 30 [(0, .ref (gA F 75)), (1, .int a.1), (2, .int a.2)] [] S) (K := K) (fun a S r S1 h hk => xX8_run_30 hF hN hR (K := fun r S => match r with | .inl a => X F 0 30 [(0, .ref (gA F 75)), (1, .int a.1), (2, .int a.2)] [] S | .inr b => K b S) (fun _ _ h => h) (fun q S h => hex60 q S h) h (by cases r <;> exact hk)) h hk
noncomputable def X8_run_14 (z1 : Int32) (S : St) : Option (Int32 × St) :=
  ob (X8_refuses z1 S) (fun r3 S4 => oi (r3 = 0) (ob (X8_keeps  S4) (fun r5 S6 => ob (X8_run_30L ((0 : Int32), (0 : Int32)) S6) (fun b9 S10 => some (b9, S10)))) (some ((0 : Int32), S4)))
set_option maxHeartbeats 4000000 in
set_option maxRecDepth 20000 in
theorem xX8_run_14 {F : Cx} (hF : Ok F cX8_run RX8) (hN : nLF F 3) (hR : RmF F 4 0) {z1 : Int32} {K : Int32 → St → Prop} (hret : ∀ (v : Int32) (S : St) (pc : Nat) (ls : List (Nat × Value)), K v S → decode cX8_run pc = .ok (.ireturn, 1) → X F 0 pc ls [.int v] S) {S : St} {r : Int32} {S1 : St} (h : X8_run_14 z1 S = some (r, S1)) (hk : K r S1) : X F 0 14 [(0, .ref (gA F 75))] [.int z1, .ref (gA F 75)] S := by
  unfold X8_run_14 at h
  obtain ⟨r3, S4, hcall, h⟩ := ob_some h
  refine x_cVi hF hN hR (ctX8_refuses hF.tr hcall) mwX8_refuses miX8_refuses sh75 ck7 (by decide) tw_1154 ⟨by decide, by decide⟩ rfl rfl (Nat.le_of_ble_eq_true rfl) dX8_run_14 ?_
  refine x_if_eq (tgt := 22) hF dX8_run_17 (by decide) (fun hc => ?_) (fun hc => ?_)
  · have h := oi_pos hc h
    refine x_aload_n hF dX8_run_22 rfl rfl ?_
    obtain ⟨r5, S6, hcall, h⟩ := ob_some h
    refine x_cVv hF hN hR (ctX8_keeps hF.tr hcall) mwX8_keeps miX8_keeps sh75 ck7 (by decide) tw_1158 ⟨by decide, by decide⟩ rfl rfl (Nat.le_of_ble_eq_true rfl) dX8_run_23 ?_
    refine x_iconst (v := (0 : Int32)) hF dX8_run_26 (by decide) ?_
    refine x_istore_n [(1, _), (0, _)] hF hN dX8_run_27 rfl (by decide) rfl ?_
    refine x_iconst (v := (0 : Int32)) hF dX8_run_28 (by decide) ?_
    refine x_istore_n [(2, _), (1, _), (0, _)] hF hN dX8_run_29 rfl (by decide) rfl ?_
    obtain ⟨b9, S10, hlb9, h⟩ := ob_some h
    refine x_sub (xX8_run_30L hF hN hR (K := fun bb SS => bb = b9 ∧ SS = S10) ?_ hlb9 ⟨rfl, rfl⟩) ⟨rfl, rfl, rfl, trivial⟩
    rintro _ _ ⟨rfl, rfl⟩
    refine x_iload_n hF dX8_run_60 rfl rfl ?_
    obtain ⟨rfl, rfl⟩ := sm h
    exact hret _ _ _ _ hk dX8_run_61
  · have h := oi_neg hc h
    refine x_iconst (v := (0 : Int32)) hF dX8_run_20 (by decide) ?_
    obtain ⟨rfl, rfl⟩ := sm h
    exact hret _ _ _ _ hk dX8_run_21
noncomputable def X8_run (S : St) : Option (Int32 × St) :=
  ob (X8_reads  S) (fun r1 S2 => oi (r1 = (-1 : Int32)) (X8_run_14 (0 : Int32) S2) (X8_run_14 (1 : Int32) S2))
set_option maxHeartbeats 4000000 in
set_option maxRecDepth 20000 in
theorem ctX8_run {l : Launch} {G : Ga} (hl : l.stackTraces = false) {S : St} {r : Int32} {S1 : St} (h : X8_run  S = some (r, S1)) : CT l G 4 yX8_run cX8_run 3 (some .int) [.ref (G.1 75)] S (some (.int r)) S1 := by
  refine ct_of hl (by decide) (Nat.le_of_ble_eq_true rfl) (fun F hFl hFG hF hN hR hret => ?_)
  subst hFl hFG
  show X F 0 0 [(0, .ref (gA F 75))] [] S
  have hret : ∀ (v : Int32) (S : St) (pc : Nat) (ls : List (Nat × Value)), (v = r ∧ S = S1) → decode cX8_run pc = .ok (.ireturn, 1) → X F 0 pc ls [.int v] S := fun v S2 pc ls hq hd => by obtain ⟨rfl, rfl⟩ := hq; exact hret.1 pc ls v rfl rfl hd
  have hk : r = r ∧ S1 = S1 := ⟨rfl, rfl⟩
  unfold X8_run at h
  refine x_aload_n hF dX8_run_0 rfl rfl ?_
  refine x_aload_n hF dX8_run_1 rfl rfl ?_
  obtain ⟨r1, S2, hcall, h⟩ := ob_some h
  refine x_cVi hF hN hR (ctX8_reads hF.tr hcall) mwX8_reads miX8_reads sh75 ck7 (by decide) tw_1427 ⟨by decide, by decide⟩ rfl rfl (Nat.le_of_ble_eq_true rfl) dX8_run_2 ?_
  refine x_iconst (v := (-1 : Int32)) hF dX8_run_5 (by decide) ?_
  refine x_icmp_ne (tgt := 13) hF dX8_run_6 (by decide) (fun hc => ?_) (fun hc => ?_)
  · have h := oi_neg hc h
    refine x_iconst (v := (1 : Int32)) hF dX8_run_13 (by decide) ?_
    exact x_sub (xX8_run_14 hF hN hR (K := fun v9 S9 => v9 = r ∧ S9 = S1) hret h hk) ⟨rfl, trivial⟩
  · have h := oi_pos hc h
    refine x_iconst (v := (0 : Int32)) hF dX8_run_9 (by decide) ?_
    refine x_goto (tgt := 14) hF dX8_run_10 (by decide) ?_
    exact x_sub (xX8_run_14 hF hN hR (K := fun v9 S9 => v9 = r ∧ S9 = S1) hret h hk) ⟨rfl, trivial⟩
noncomputable def X8_undo_33 (x1 : Int32) (S : St) : Option (((Int32) ⊕ Unit) × St) :=
  oi ((135 : Int32) ≤ x1) (some (.inr (), S)) (og (inb (((135 : Int32) * (gi S 75 2)) + x1) 1080) (og (inb x1 135) (ol (si S 76 (ix x1) (gi S 77 (ix (((135 : Int32) * (gi S 75 2)) + x1)))) (fun T4 => some (.inl (x1 + (1 : Int32)), T4)))))
set_option maxHeartbeats 4000000 in
set_option maxRecDepth 20000 in
theorem xX8_undo_33 {F : Cx} (hF : Ok F cX8_undo RX8) (hN : nLF F 2) (hR : RmF F 1 0) {x1 : Int32} {K : ((Int32) ⊕ Unit) → St → Prop} (hag : ∀ (a : Int32) (S : St), K (.inl a) S → X F 0 33 [(0, .ref (gA F 75)), (1, .int a)] [] S) (hex67 : ∀ (q : Unit) (S : St), K (.inr q) S → X F 0 67 [(0, .ref (gA F 75))] [] S) {S : St} {r : (Int32) ⊕ Unit} {S1 : St} (h : X8_undo_33 x1 S = some (r, S1)) (hk : K r S1) : X F 0 33 [(0, .ref (gA F 75)), (1, .int x1)] [] S := by
  unfold X8_undo_33 at h
  refine x_iload_n hF dX8_undo_33 rfl rfl ?_
  refine x_sipush (v := (135 : Int32)) hF dX8_undo_34 (by decide) ?_
  refine x_icmp_ge (tgt := 67) hF dX8_undo_37 (by decide) (fun hc => ?_) (fun hc => ?_)
  · have h := oi_pos hc h
    obtain ⟨rfl, rfl⟩ := sm h
    exact x_sub (hex67 _ _ hk) ⟨rfl, trivial⟩
  · have h := oi_neg hc h
    refine x_aload_n hF dX8_undo_40 rfl rfl ?_
    refine x_getr hF sh75 0 rfl ck7 (by decide) (by decide) tw_1042 rfl dX8_undo_41 ?_
    refine x_iload_n hF dX8_undo_44 rfl rfl ?_
    refine x_aload_n hF dX8_undo_45 rfl rfl ?_
    refine x_getr hF sh75 1 rfl ck7 (by decide) (by decide) tw_1043 rfl dX8_undo_46 ?_
    refine x_sipush (v := (135 : Int32)) hF dX8_undo_49 (by decide) ?_
    refine x_aload_n hF dX8_undo_52 rfl rfl ?_
    refine x_geti hF sh75 2 rfl ck7 (by decide) (by decide) tw_1044 rfl dX8_undo_53 ?_
    refine x_imul hF dX8_undo_56 ?_
    refine x_iload_n hF dX8_undo_57 rfl rfl ?_
    refine x_iadd hF dX8_undo_58 ?_
    obtain ⟨hg, h⟩ := og_some h
    refine x_iald hF sh77 (by decide) hg rfl dX8_undo_59 ?_
    obtain ⟨hg, h⟩ := og_some h
    obtain ⟨T4, eT4, h⟩ := ol_some h
    refine x_iast hF sh76 (by decide) hg rfl eT4 dX8_undo_60 ?_
    refine x_iinc [(1, _), (0, _)] (v := (1 : Int32)) hF hN dX8_undo_61 rfl (by decide) (by decide) rfl ?_
    refine x_goto (tgt := 33) hF dX8_undo_64 (by decide) ?_
    obtain ⟨rfl, rfl⟩ := sm h
    exact x_sub (hag _ _ hk) ⟨rfl, rfl, trivial⟩
noncomputable def X8_undo_33L (a : Int32) (S : St) : Option (Unit × St) :=
  lp (fun (a : Int32) (S : St) => X8_undo_33 a S) a S
theorem xX8_undo_33L {F : Cx} (hF : Ok F cX8_undo RX8) (hN : nLF F 2) (hR : RmF F 1 0) {K : Unit → St → Prop} (hex67 : ∀ (q : Unit) (S : St), K (q) S → X F 0 67 [(0, .ref (gA F 75))] [] S) {a : Int32} {S : St} {b : Unit} {S1 : St} (h : X8_undo_33L  a S = some (b, S1)) (hk : K b S1) : X F 0 33 [(0, .ref (gA F 75)), (1, .int a)] [] S := by
  unfold X8_undo_33L at h
  exact lp_rule (Xh := fun (a : Int32) (S : St) => X F 0 33 [(0, .ref (gA F 75)), (1, .int a)] [] S) (K := K) (fun a S r S1 h hk => xX8_undo_33 hF hN hR (K := fun r S => match r with | .inl a => X F 0 33 [(0, .ref (gA F 75)), (1, .int a)] [] S | .inr b => K b S) (fun _ _ h => h) (fun q S h => hex67 q S h) h (by cases r <;> exact hk)) h hk
noncomputable def X8_undo_13 (z1 : Int32) (S : St) : Option (Int32 × St) :=
  ob (X8_refuses z1 S) (fun r1 S2 => oi (r1 = 0) (ol (si S2 75 2 ((gi S2 75 2) - (1 : Int32))) (fun T3 => ob (X8_undo_33L (0 : Int32) T3) (fun b5 S6 => some ((gi S6 75 2), S6)))) (some ((0 : Int32), S2)))
set_option maxHeartbeats 4000000 in
set_option maxRecDepth 20000 in
theorem xX8_undo_13 {F : Cx} (hF : Ok F cX8_undo RX8) (hN : nLF F 2) (hR : RmF F 1 0) {z1 : Int32} {K : Int32 → St → Prop} (hret : ∀ (v : Int32) (S : St) (pc : Nat) (ls : List (Nat × Value)), K v S → decode cX8_undo pc = .ok (.ireturn, 1) → X F 0 pc ls [.int v] S) {S : St} {r : Int32} {S1 : St} (h : X8_undo_13 z1 S = some (r, S1)) (hk : K r S1) : X F 0 13 [(0, .ref (gA F 75))] [.int z1, .ref (gA F 75)] S := by
  unfold X8_undo_13 at h
  obtain ⟨r1, S2, hcall, h⟩ := ob_some h
  refine x_cVi hF hN hR (ctX8_refuses hF.tr hcall) mwX8_refuses miX8_refuses sh75 ck7 (by decide) tw_1154 ⟨by decide, by decide⟩ rfl rfl (Nat.le_of_ble_eq_true rfl) dX8_undo_13 ?_
  refine x_if_eq (tgt := 21) hF dX8_undo_16 (by decide) (fun hc => ?_) (fun hc => ?_)
  · have h := oi_pos hc h
    refine x_aload_n hF dX8_undo_21 rfl rfl ?_
    refine x_dup hF dX8_undo_22 rfl ?_
    refine x_geti hF sh75 2 rfl ck7 (by decide) (by decide) tw_1044 rfl dX8_undo_23 ?_
    refine x_iconst (v := (1 : Int32)) hF dX8_undo_26 (by decide) ?_
    refine x_isub hF dX8_undo_27 ?_
    obtain ⟨T3, eT3, h⟩ := ol_some h
    refine x_puti hF sh75 2 rfl ck7 (by decide) (by decide) tw_1044 rfl rfl rfl rfl rfl eT3 dX8_undo_28 ?_
    refine x_iconst (v := (0 : Int32)) hF dX8_undo_31 (by decide) ?_
    refine x_istore_n [(1, _), (0, _)] hF hN dX8_undo_32 rfl (by decide) rfl ?_
    obtain ⟨b5, S6, hlb5, h⟩ := ob_some h
    refine x_sub (xX8_undo_33L hF hN hR (K := fun bb SS => bb = b5 ∧ SS = S6) ?_ hlb5 ⟨rfl, rfl⟩) ⟨rfl, rfl, trivial⟩
    rintro _ _ ⟨_, rfl⟩
    refine x_aload_n hF dX8_undo_67 rfl rfl ?_
    refine x_geti hF sh75 2 rfl ck7 (by decide) (by decide) tw_1044 rfl dX8_undo_68 ?_
    obtain ⟨rfl, rfl⟩ := sm h
    exact hret _ _ _ _ hk dX8_undo_71
  · have h := oi_neg hc h
    refine x_iconst (v := (0 : Int32)) hF dX8_undo_19 (by decide) ?_
    obtain ⟨rfl, rfl⟩ := sm h
    exact hret _ _ _ _ hk dX8_undo_20
noncomputable def X8_undo (S : St) : Option (Int32 × St) :=
  oi ((gi S 75 2) ≤ 0) (X8_undo_13 (1 : Int32) S) (X8_undo_13 (0 : Int32) S)
set_option maxHeartbeats 4000000 in
set_option maxRecDepth 20000 in
theorem ctX8_undo {l : Launch} {G : Ga} (hl : l.stackTraces = false) {S : St} {r : Int32} {S1 : St} (h : X8_undo  S = some (r, S1)) : CT l G 1 yX8_undo cX8_undo 2 (some .int) [.ref (G.1 75)] S (some (.int r)) S1 := by
  refine ct_of hl (by decide) (Nat.le_of_ble_eq_true rfl) (fun F hFl hFG hF hN hR hret => ?_)
  subst hFl hFG
  show X F 0 0 [(0, .ref (gA F 75))] [] S
  have hret : ∀ (v : Int32) (S : St) (pc : Nat) (ls : List (Nat × Value)), (v = r ∧ S = S1) → decode cX8_undo pc = .ok (.ireturn, 1) → X F 0 pc ls [.int v] S := fun v S2 pc ls hq hd => by obtain ⟨rfl, rfl⟩ := hq; exact hret.1 pc ls v rfl rfl hd
  have hk : r = r ∧ S1 = S1 := ⟨rfl, rfl⟩
  unfold X8_undo at h
  refine x_aload_n hF dX8_undo_0 rfl rfl ?_
  refine x_aload_n hF dX8_undo_1 rfl rfl ?_
  refine x_geti hF sh75 2 rfl ck7 (by decide) (by decide) tw_1044 rfl dX8_undo_2 ?_
  refine x_if_le (tgt := 12) hF dX8_undo_5 (by decide) (fun hc => ?_) (fun hc => ?_)
  · have h := oi_pos hc h
    refine x_iconst (v := (1 : Int32)) hF dX8_undo_12 (by decide) ?_
    exact x_sub (xX8_undo_13 hF hN hR (K := fun v9 S9 => v9 = r ∧ S9 = S1) hret h hk) ⟨rfl, trivial⟩
  · have h := oi_neg hc h
    refine x_iconst (v := (0 : Int32)) hF dX8_undo_8 (by decide) ?_
    refine x_goto (tgt := 13) hF dX8_undo_9 (by decide) ?_
    exact x_sub (xX8_undo_13 hF hN hR (K := fun v9 S9 => v9 = r ∧ S9 = S1) hret h hk) ⟨rfl, trivial⟩
noncomputable def X8_checksum_19 (x1 : Int64) (x3 : Int32) (S : St) : Option (((Int64 × Int32) ⊕ Int64) × St) :=
  oi (((3 : Int32) * (gi S 76 0)) ≤ x3) (some (.inr x1, S)) (og (inb ((1 : Int32) + x3) 135) (some (.inl ((((31 : Int64) * x1) + (gi S 76 (ix ((1 : Int32) + x3))).toInt64), (x3 + (1 : Int32))), S)))
set_option maxHeartbeats 4000000 in
set_option maxRecDepth 20000 in
theorem xX8_checksum_19 {F : Cx} (hF : Ok F cX8_checksum RX8) (hN : nLF F 4) (hR : RmF F 8 0) {x1 : Int64} {x3 : Int32} {K : ((Int64 × Int32) ⊕ Int64) → St → Prop} (hag : ∀ (a : Int64 × Int32) (S : St), K (.inl a) S → X F 0 19 [(0, .ref (gA F 75)), (1, .long a.1), (3, .int a.2)] [] S) (hex53 : ∀ (q : Int64) (S : St), K (.inr q) S → X F 0 53 [(0, .ref (gA F 75)), (1, .long q)] [] S) {S : St} {r : (Int64 × Int32) ⊕ Int64} {S1 : St} (h : X8_checksum_19 x1 x3 S = some (r, S1)) (hk : K r S1) : X F 0 19 [(0, .ref (gA F 75)), (1, .long x1), (3, .int x3)] [] S := by
  unfold X8_checksum_19 at h
  refine x_iload_n hF dX8_checksum_19 rfl rfl ?_
  refine x_iconst (v := (3 : Int32)) hF dX8_checksum_20 (by decide) ?_
  refine x_aload_n hF dX8_checksum_21 rfl rfl ?_
  refine x_getr hF sh75 0 rfl ck7 (by decide) (by decide) tw_1042 rfl dX8_checksum_22 ?_
  refine x_iconst (v := (0 : Int32)) hF dX8_checksum_25 (by decide) ?_
  refine x_iald (j := 0) hF sh76 (by decide) (by decide) (by decide) dX8_checksum_26 ?_
  refine x_imul hF dX8_checksum_27 ?_
  refine x_icmp_ge (tgt := 53) hF dX8_checksum_28 (by decide) (fun hc => ?_) (fun hc => ?_)
  · have h := oi_pos hc h
    obtain ⟨rfl, rfl⟩ := sm h
    exact x_sub (hex53 _ _ hk) ⟨rfl, rfl, trivial⟩
  · have h := oi_neg hc h
    refine x_ldc2_w (v := (31 : Int64)) hF dX8_checksum_31 tw_1482 ?_
    refine x_lload_n hF dX8_checksum_34 rfl rfl ?_
    refine x_lmul hF dX8_checksum_35 ?_
    refine x_aload_n hF dX8_checksum_36 rfl rfl ?_
    refine x_getr hF sh75 0 rfl ck7 (by decide) (by decide) tw_1042 rfl dX8_checksum_37 ?_
    refine x_iconst (v := (1 : Int32)) hF dX8_checksum_40 (by decide) ?_
    refine x_iload_n hF dX8_checksum_41 rfl rfl ?_
    refine x_iadd hF dX8_checksum_42 ?_
    obtain ⟨hg, h⟩ := og_some h
    refine x_iald hF sh76 (by decide) hg rfl dX8_checksum_43 ?_
    refine x_i2l hF dX8_checksum_44 ?_
    refine x_ladd hF dX8_checksum_45 ?_
    refine x_lstore_n [(1, _), (0, _), (3, _)] hF hN dX8_checksum_46 rfl (by decide) rfl ?_
    refine x_iinc [(3, _), (1, _), (0, _)] (v := (1 : Int32)) hF hN dX8_checksum_47 rfl (by decide) (by decide) rfl ?_
    refine x_goto (tgt := 19) hF dX8_checksum_50 (by decide) ?_
    obtain ⟨rfl, rfl⟩ := sm h
    exact x_sub (hag _ _ hk) ⟨rfl, rfl, rfl, trivial⟩
noncomputable def X8_checksum_19L (a : Int64 × Int32) (S : St) : Option (Int64 × St) :=
  lp (fun (a : Int64 × Int32) (S : St) => X8_checksum_19 a.1 a.2 S) a S
theorem xX8_checksum_19L {F : Cx} (hF : Ok F cX8_checksum RX8) (hN : nLF F 4) (hR : RmF F 8 0) {K : Int64 → St → Prop} (hex53 : ∀ (q : Int64) (S : St), K (q) S → X F 0 53 [(0, .ref (gA F 75)), (1, .long q)] [] S) {a : Int64 × Int32} {S : St} {b : Int64} {S1 : St} (h : X8_checksum_19L  a S = some (b, S1)) (hk : K b S1) : X F 0 19 [(0, .ref (gA F 75)), (1, .long a.1), (3, .int a.2)] [] S := by
  unfold X8_checksum_19L at h
  exact lp_rule (Xh := fun (a : Int64 × Int32) (S : St) => X F 0 19 [(0, .ref (gA F 75)), (1, .long a.1), (3, .int a.2)] [] S) (K := K) (fun a S r S1 h hk => xX8_checksum_19 hF hN hR (K := fun r S => match r with | .inl a => X F 0 19 [(0, .ref (gA F 75)), (1, .long a.1), (3, .int a.2)] [] S | .inr b => K b S) (fun _ _ h => h) (fun q S h => hex53 q S h) h (by cases r <;> exact hk)) h hk
noncomputable def X8_checksum_56 (x1 : Int64) (x3 : Int32) (S : St) : Option (((Int64 × Int32) ⊕ Int64) × St) :=
  oi ((135 : Int32) ≤ x3) (some (.inr x1, S)) (og (inb x3 135) (some (.inl ((((31 : Int64) * x1) + (gi S 76 (ix x3)).toInt64), (x3 + (1 : Int32))), S)))
set_option maxHeartbeats 4000000 in
set_option maxRecDepth 20000 in
theorem xX8_checksum_56 {F : Cx} (hF : Ok F cX8_checksum RX8) (hN : nLF F 4) (hR : RmF F 8 0) {x1 : Int64} {x3 : Int32} {K : ((Int64 × Int32) ⊕ Int64) → St → Prop} (hag : ∀ (a : Int64 × Int32) (S : St), K (.inl a) S → X F 0 56 [(0, .ref (gA F 75)), (1, .long a.1), (3, .int a.2)] [] S) (hex83 : ∀ (q : Int64) (S : St), K (.inr q) S → X F 0 83 [(0, .ref (gA F 75)), (1, .long q)] [] S) {S : St} {r : (Int64 × Int32) ⊕ Int64} {S1 : St} (h : X8_checksum_56 x1 x3 S = some (r, S1)) (hk : K r S1) : X F 0 56 [(0, .ref (gA F 75)), (1, .long x1), (3, .int x3)] [] S := by
  unfold X8_checksum_56 at h
  refine x_iload_n hF dX8_checksum_56 rfl rfl ?_
  refine x_sipush (v := (135 : Int32)) hF dX8_checksum_57 (by decide) ?_
  refine x_icmp_ge (tgt := 83) hF dX8_checksum_60 (by decide) (fun hc => ?_) (fun hc => ?_)
  · have h := oi_pos hc h
    obtain ⟨rfl, rfl⟩ := sm h
    exact x_sub (hex83 _ _ hk) ⟨rfl, rfl, trivial⟩
  · have h := oi_neg hc h
    refine x_ldc2_w (v := (31 : Int64)) hF dX8_checksum_63 tw_1482 ?_
    refine x_lload_n hF dX8_checksum_66 rfl rfl ?_
    refine x_lmul hF dX8_checksum_67 ?_
    refine x_aload_n hF dX8_checksum_68 rfl rfl ?_
    refine x_getr hF sh75 0 rfl ck7 (by decide) (by decide) tw_1042 rfl dX8_checksum_69 ?_
    refine x_iload_n hF dX8_checksum_72 rfl rfl ?_
    obtain ⟨hg, h⟩ := og_some h
    refine x_iald hF sh76 (by decide) hg rfl dX8_checksum_73 ?_
    refine x_i2l hF dX8_checksum_74 ?_
    refine x_ladd hF dX8_checksum_75 ?_
    refine x_lstore_n [(1, _), (0, _), (3, _)] hF hN dX8_checksum_76 rfl (by decide) rfl ?_
    refine x_iinc [(3, _), (1, _), (0, _)] (v := (1 : Int32)) hF hN dX8_checksum_77 rfl (by decide) (by decide) rfl ?_
    refine x_goto (tgt := 56) hF dX8_checksum_80 (by decide) ?_
    obtain ⟨rfl, rfl⟩ := sm h
    exact x_sub (hag _ _ hk) ⟨rfl, rfl, rfl, trivial⟩
noncomputable def X8_checksum_56L (a : Int64 × Int32) (S : St) : Option (Int64 × St) :=
  lp (fun (a : Int64 × Int32) (S : St) => X8_checksum_56 a.1 a.2 S) a S
theorem xX8_checksum_56L {F : Cx} (hF : Ok F cX8_checksum RX8) (hN : nLF F 4) (hR : RmF F 8 0) {K : Int64 → St → Prop} (hex83 : ∀ (q : Int64) (S : St), K (q) S → X F 0 83 [(0, .ref (gA F 75)), (1, .long q)] [] S) {a : Int64 × Int32} {S : St} {b : Int64} {S1 : St} (h : X8_checksum_56L  a S = some (b, S1)) (hk : K b S1) : X F 0 56 [(0, .ref (gA F 75)), (1, .long a.1), (3, .int a.2)] [] S := by
  unfold X8_checksum_56L at h
  exact lp_rule (Xh := fun (a : Int64 × Int32) (S : St) => X F 0 56 [(0, .ref (gA F 75)), (1, .long a.1), (3, .int a.2)] [] S) (K := K) (fun a S r S1 h hk => xX8_checksum_56 hF hN hR (K := fun r S => match r with | .inl a => X F 0 56 [(0, .ref (gA F 75)), (1, .long a.1), (3, .int a.2)] [] S | .inr b => K b S) (fun _ _ h => h) (fun q S h => hex83 q S h) h (by cases r <;> exact hk)) h hk
noncomputable def X8_checksum_85 (x1 : Int64) (x3 : Int32) (S : St) : Option (((Int64 × Int32) ⊕ Int64) × St) :=
  oi ((63 : Int32) < x3) (some (.inr x1, S)) (ob (X8_worthOf x3 (-1 : Int32) S) (fun r6 S7 => some (.inl ((((31 : Int64) * x1) + r6.toInt64), (x3 + (1 : Int32))), S7)))
set_option maxHeartbeats 4000000 in
set_option maxRecDepth 20000 in
theorem xX8_checksum_85 {F : Cx} (hF : Ok F cX8_checksum RX8) (hN : nLF F 4) (hR : RmF F 8 0) {x1 : Int64} {x3 : Int32} {K : ((Int64 × Int32) ⊕ Int64) → St → Prop} (hag : ∀ (a : Int64 × Int32) (S : St), K (.inl a) S → X F 0 85 [(0, .ref (gA F 75)), (1, .long a.1), (3, .int a.2)] [] S) (hex111 : ∀ (q : Int64) (S : St), K (.inr q) S → X F 0 111 [(0, .ref (gA F 75)), (1, .long q)] [] S) {S : St} {r : (Int64 × Int32) ⊕ Int64} {S1 : St} (h : X8_checksum_85 x1 x3 S = some (r, S1)) (hk : K r S1) : X F 0 85 [(0, .ref (gA F 75)), (1, .long x1), (3, .int x3)] [] S := by
  unfold X8_checksum_85 at h
  refine x_iload_n hF dX8_checksum_85 rfl rfl ?_
  refine x_bipush (v := (63 : Int32)) hF dX8_checksum_86 (by decide) ?_
  refine x_icmp_gt (tgt := 111) hF dX8_checksum_88 (by decide) (fun hc => ?_) (fun hc => ?_)
  · have h := oi_pos hc h
    obtain ⟨rfl, rfl⟩ := sm h
    exact x_sub (hex111 _ _ hk) ⟨rfl, rfl, trivial⟩
  · have h := oi_neg hc h
    refine x_ldc2_w (v := (31 : Int64)) hF dX8_checksum_91 tw_1482 ?_
    refine x_lload_n hF dX8_checksum_94 rfl rfl ?_
    refine x_lmul hF dX8_checksum_95 ?_
    refine x_aload_n hF dX8_checksum_96 rfl rfl ?_
    refine x_iload_n hF dX8_checksum_97 rfl rfl ?_
    refine x_iconst (v := (-1 : Int32)) hF dX8_checksum_98 (by decide) ?_
    obtain ⟨r6, S7, hcall, h⟩ := ob_some h
    refine x_cVi hF hN hR (ctX8_worthOf hF.tr hcall) mwX8_worthOf miX8_worthOf sh75 ck7 (by decide) tw_1327 ⟨by decide, by decide⟩ rfl rfl (Nat.le_of_ble_eq_true rfl) dX8_checksum_99 ?_
    refine x_i2l hF dX8_checksum_102 ?_
    refine x_ladd hF dX8_checksum_103 ?_
    refine x_lstore_n [(1, _), (0, _), (3, _)] hF hN dX8_checksum_104 rfl (by decide) rfl ?_
    refine x_iinc [(3, _), (1, _), (0, _)] (v := (1 : Int32)) hF hN dX8_checksum_105 rfl (by decide) (by decide) rfl ?_
    refine x_goto (tgt := 85) hF dX8_checksum_108 (by decide) ?_
    obtain ⟨rfl, rfl⟩ := sm h
    exact x_sub (hag _ _ hk) ⟨rfl, rfl, rfl, trivial⟩
noncomputable def X8_checksum_85L (a : Int64 × Int32) (S : St) : Option (Int64 × St) :=
  lp (fun (a : Int64 × Int32) (S : St) => X8_checksum_85 a.1 a.2 S) a S
theorem xX8_checksum_85L {F : Cx} (hF : Ok F cX8_checksum RX8) (hN : nLF F 4) (hR : RmF F 8 0) {K : Int64 → St → Prop} (hex111 : ∀ (q : Int64) (S : St), K (q) S → X F 0 111 [(0, .ref (gA F 75)), (1, .long q)] [] S) {a : Int64 × Int32} {S : St} {b : Int64} {S1 : St} (h : X8_checksum_85L  a S = some (b, S1)) (hk : K b S1) : X F 0 85 [(0, .ref (gA F 75)), (1, .long a.1), (3, .int a.2)] [] S := by
  unfold X8_checksum_85L at h
  exact lp_rule (Xh := fun (a : Int64 × Int32) (S : St) => X F 0 85 [(0, .ref (gA F 75)), (1, .long a.1), (3, .int a.2)] [] S) (K := K) (fun a S r S1 h hk => xX8_checksum_85 hF hN hR (K := fun r S => match r with | .inl a => X F 0 85 [(0, .ref (gA F 75)), (1, .long a.1), (3, .int a.2)] [] S | .inr b => K b S) (fun _ _ h => h) (fun q S h => hex111 q S h) h (by cases r <;> exact hk)) h hk
noncomputable def X8_checksum (S : St) : Option (Int64 × St) :=
  ol (si S 75 3 (0 : Int32)) (fun T1 => ob (X8_checksum_19L (((573655 : Int64) + (gi T1 76 0).toInt64), (0 : Int32)) T1) (fun b2 S3 => ob (X8_checksum_56L (b2, (121 : Int32)) S3) (fun b4 S5 => ob (X8_checksum_85L (b4, (0 : Int32)) S5) (fun b8 S9 => some ((((31 : Int64) * (((31 : Int64) * b8) + (gi S9 75 27).toInt64)) + (gi S9 75 2).toInt64), S9)))))
set_option maxHeartbeats 4000000 in
set_option maxRecDepth 20000 in
theorem ctX8_checksum {l : Launch} {G : Ga} (hl : l.stackTraces = false) {S : St} {r : Int64} {S1 : St} (h : X8_checksum  S = some (r, S1)) : CT l G 8 yX8_checksum cX8_checksum 4 (some .long) [.ref (G.1 75)] S (some (.long r)) S1 := by
  refine ct_of hl (by decide) (Nat.le_of_ble_eq_true rfl) (fun F hFl hFG hF hN hR hret => ?_)
  subst hFl hFG
  show X F 0 0 [(0, .ref (gA F 75))] [] S
  have hret : ∀ (v : Int64) (S : St) (pc : Nat) (ls : List (Nat × Value)), (v = r ∧ S = S1) → decode cX8_checksum pc = .ok (.lreturn, 1) → X F 0 pc ls [.long v] S := fun v S2 pc ls hq hd => by obtain ⟨rfl, rfl⟩ := hq; exact hret.2.2.1 pc ls v rfl rfl hd
  have hk : r = r ∧ S1 = S1 := ⟨rfl, rfl⟩
  unfold X8_checksum at h
  refine x_aload_n hF dX8_checksum_0 rfl rfl ?_
  refine x_iconst (v := (0 : Int32)) hF dX8_checksum_1 (by decide) ?_
  obtain ⟨T1, eT1, h⟩ := ol_some h
  refine x_puti hF sh75 3 rfl ck7 (by decide) (by decide) tw_1045 rfl rfl rfl rfl rfl eT1 dX8_checksum_2 ?_
  refine x_ldc2_w (v := (573655 : Int64)) hF dX8_checksum_5 tw_1481 ?_
  refine x_aload_n hF dX8_checksum_8 rfl rfl ?_
  refine x_getr hF sh75 0 rfl ck7 (by decide) (by decide) tw_1042 rfl dX8_checksum_9 ?_
  refine x_iconst (v := (0 : Int32)) hF dX8_checksum_12 (by decide) ?_
  refine x_iald (j := 0) hF sh76 (by decide) (by decide) (by decide) dX8_checksum_13 ?_
  refine x_i2l hF dX8_checksum_14 ?_
  refine x_ladd hF dX8_checksum_15 ?_
  refine x_lstore_n [(1, _), (0, _)] hF hN dX8_checksum_16 rfl (by decide) rfl ?_
  refine x_iconst (v := (0 : Int32)) hF dX8_checksum_17 (by decide) ?_
  refine x_istore_n [(3, _), (1, _), (0, _)] hF hN dX8_checksum_18 rfl (by decide) rfl ?_
  obtain ⟨b2, S3, hlb2, h⟩ := ob_some h
  refine x_sub (xX8_checksum_19L hF hN hR (K := fun bb SS => bb = b2 ∧ SS = S3) ?_ hlb2 ⟨rfl, rfl⟩) ⟨rfl, rfl, rfl, trivial⟩
  rintro _ _ ⟨rfl, rfl⟩
  refine x_bipush (v := (121 : Int32)) hF dX8_checksum_53 (by decide) ?_
  refine x_istore_n [(3, _), (0, _), (1, _)] hF hN dX8_checksum_55 rfl (by decide) rfl ?_
  obtain ⟨b4, S5, hlb4, h⟩ := ob_some h
  refine x_sub (xX8_checksum_56L hF hN hR (K := fun bb SS => bb = b4 ∧ SS = S5) ?_ hlb4 ⟨rfl, rfl⟩) ⟨rfl, rfl, rfl, trivial⟩
  rintro _ _ ⟨rfl, rfl⟩
  refine x_iconst (v := (0 : Int32)) hF dX8_checksum_83 (by decide) ?_
  refine x_istore_n [(3, _), (0, _), (1, _)] hF hN dX8_checksum_84 rfl (by decide) rfl ?_
  obtain ⟨b8, S9, hlb8, h⟩ := ob_some h
  refine x_sub (xX8_checksum_85L hF hN hR (K := fun bb SS => bb = b8 ∧ SS = S9) ?_ hlb8 ⟨rfl, rfl⟩) ⟨rfl, rfl, rfl, trivial⟩
  rintro _ _ ⟨rfl, rfl⟩
  refine x_ldc2_w (v := (31 : Int64)) hF dX8_checksum_111 tw_1482 ?_
  refine x_lload_n hF dX8_checksum_114 rfl rfl ?_
  refine x_lmul hF dX8_checksum_115 ?_
  refine x_aload_n hF dX8_checksum_116 rfl rfl ?_
  refine x_geti hF sh75 27 rfl ck7 (by decide) (by decide) tw_1069 rfl dX8_checksum_117 ?_
  refine x_i2l hF dX8_checksum_120 ?_
  refine x_ladd hF dX8_checksum_121 ?_
  refine x_lstore_n [(1, _), (0, _)] hF hN dX8_checksum_122 rfl (by decide) rfl ?_
  refine x_ldc2_w (v := (31 : Int64)) hF dX8_checksum_123 tw_1482 ?_
  refine x_lload_n hF dX8_checksum_126 rfl rfl ?_
  refine x_lmul hF dX8_checksum_127 ?_
  refine x_aload_n hF dX8_checksum_128 rfl rfl ?_
  refine x_geti hF sh75 2 rfl ck7 (by decide) (by decide) tw_1044 rfl dX8_checksum_129 ?_
  refine x_i2l hF dX8_checksum_132 ?_
  refine x_ladd hF dX8_checksum_133 ?_
  obtain ⟨rfl, rfl⟩ := sm h
  exact hret _ _ _ _ hk dX8_checksum_134
