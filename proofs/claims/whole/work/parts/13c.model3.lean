noncomputable def X8_replay_62 (x2 : Int32) (S : St) : Option (((Int32) ⊕ Unit) × St) :=
  oi ((gi S 75 16) ≤ x2) (some (.inr (), S)) (og (inb x2 40) (og (inb x2 40) (ol (si S 83 (ix x2) (gi S 78 (ix x2))) (fun T11 => some (.inl (x2 + (1 : Int32)), T11)))))
set_option maxHeartbeats 4000000 in
set_option maxRecDepth 20000 in
theorem xX8_replay_62 {F : Cx} (hF : Ok F cX8_replay RX8) (hN : nLF F 3) (hR : RmF F 7 0) {x2 : Int32} {K : ((Int32) ⊕ Unit) → St → Prop} (hag : ∀ (a : Int32) (S : St), K (.inl a) S → X F 0 62 [(0, .ref (gA F 75)), (2, .int a)] [] S) (hex88 : ∀ (q : Unit) (S : St), K (.inr q) S → X F 0 88 [(0, .ref (gA F 75))] [] S) {S : St} {r : (Int32) ⊕ Unit} {S1 : St} (h : X8_replay_62 x2 S = some (r, S1)) (hk : K r S1) : X F 0 62 [(0, .ref (gA F 75)), (2, .int x2)] [] S := by
  unfold X8_replay_62 at h
  refine x_iload_n hF dX8_replay_62 rfl rfl ?_
  refine x_aload_n hF dX8_replay_63 rfl rfl ?_
  refine x_geti hF sh75 16 rfl ck7 (by decide) (by decide) tw_1058 rfl dX8_replay_64 ?_
  refine x_icmp_ge (tgt := 88) hF dX8_replay_67 (by decide) (fun hc => ?_) (fun hc => ?_)
  · have h := oi_pos hc h
    obtain ⟨rfl, rfl⟩ := sm h
    exact x_sub (hex88 _ _ hk) ⟨rfl, trivial⟩
  · have h := oi_neg hc h
    refine x_aload_n hF dX8_replay_70 rfl rfl ?_
    refine x_getr hF sh75 17 rfl ck7 (by decide) (by decide) tw_1059 rfl dX8_replay_71 ?_
    refine x_iload_n hF dX8_replay_74 rfl rfl ?_
    refine x_aload_n hF dX8_replay_75 rfl rfl ?_
    refine x_getr hF sh75 4 rfl ck7 (by decide) (by decide) tw_1046 rfl dX8_replay_76 ?_
    refine x_iload_n hF dX8_replay_79 rfl rfl ?_
    obtain ⟨hg, h⟩ := og_some h
    refine x_iald hF sh78 (by decide) hg rfl dX8_replay_80 ?_
    obtain ⟨hg, h⟩ := og_some h
    obtain ⟨T11, eT11, h⟩ := ol_some h
    refine x_iast hF sh83 (by decide) hg rfl eT11 dX8_replay_81 ?_
    refine x_iinc [(2, _), (0, _)] (v := (1 : Int32)) hF hN dX8_replay_82 rfl (by decide) (by decide) rfl ?_
    refine x_goto (tgt := 62) hF dX8_replay_85 (by decide) ?_
    obtain ⟨rfl, rfl⟩ := sm h
    exact x_sub (hag _ _ hk) ⟨rfl, rfl, trivial⟩
noncomputable def X8_replay_62L (a : Int32) (S : St) : Option (Unit × St) :=
  lp (fun (a : Int32) (S : St) => X8_replay_62 a S) a S
theorem xX8_replay_62L {F : Cx} (hF : Ok F cX8_replay RX8) (hN : nLF F 3) (hR : RmF F 7 0) {K : Unit → St → Prop} (hex88 : ∀ (q : Unit) (S : St), K (q) S → X F 0 88 [(0, .ref (gA F 75))] [] S) {a : Int32} {S : St} {b : Unit} {S1 : St} (h : X8_replay_62L  a S = some (b, S1)) (hk : K b S1) : X F 0 62 [(0, .ref (gA F 75)), (2, .int a)] [] S := by
  unfold X8_replay_62L at h
  exact lp_rule (Xh := fun (a : Int32) (S : St) => X F 0 62 [(0, .ref (gA F 75)), (2, .int a)] [] S) (K := K) (fun a S r S1 h hk => xX8_replay_62 hF hN hR (K := fun r S => match r with | .inl a => X F 0 62 [(0, .ref (gA F 75)), (2, .int a)] [] S | .inr b => K b S) (fun _ _ h => h) (fun q S h => hex88 q S h) h (by cases r <;> exact hk)) h hk
noncomputable def X8_replay_90 (x2 : Int32) (S : St) : Option (((Int32) ⊕ Unit) × St) :=
  oi ((gi S 75 6) ≤ x2) (some (.inr (), S)) (og (inb x2 40) (og (inb x2 40) (ol (si S 84 (ix x2) (gi S 79 (ix x2))) (fun T14 => some (.inl (x2 + (1 : Int32)), T14)))))
set_option maxHeartbeats 4000000 in
set_option maxRecDepth 20000 in
theorem xX8_replay_90 {F : Cx} (hF : Ok F cX8_replay RX8) (hN : nLF F 3) (hR : RmF F 7 0) {x2 : Int32} {K : ((Int32) ⊕ Unit) → St → Prop} (hag : ∀ (a : Int32) (S : St), K (.inl a) S → X F 0 90 [(0, .ref (gA F 75)), (2, .int a)] [] S) (hex116 : ∀ (q : Unit) (S : St), K (.inr q) S → X F 0 116 [(0, .ref (gA F 75))] [] S) {S : St} {r : (Int32) ⊕ Unit} {S1 : St} (h : X8_replay_90 x2 S = some (r, S1)) (hk : K r S1) : X F 0 90 [(0, .ref (gA F 75)), (2, .int x2)] [] S := by
  unfold X8_replay_90 at h
  refine x_iload_n hF dX8_replay_90 rfl rfl ?_
  refine x_aload_n hF dX8_replay_91 rfl rfl ?_
  refine x_geti hF sh75 6 rfl ck7 (by decide) (by decide) tw_1048 rfl dX8_replay_92 ?_
  refine x_icmp_ge (tgt := 116) hF dX8_replay_95 (by decide) (fun hc => ?_) (fun hc => ?_)
  · have h := oi_pos hc h
    obtain ⟨rfl, rfl⟩ := sm h
    exact x_sub (hex116 _ _ hk) ⟨rfl, trivial⟩
  · have h := oi_neg hc h
    refine x_aload_n hF dX8_replay_98 rfl rfl ?_
    refine x_getr hF sh75 19 rfl ck7 (by decide) (by decide) tw_1061 rfl dX8_replay_99 ?_
    refine x_iload_n hF dX8_replay_102 rfl rfl ?_
    refine x_aload_n hF dX8_replay_103 rfl rfl ?_
    refine x_getr hF sh75 5 rfl ck7 (by decide) (by decide) tw_1047 rfl dX8_replay_104 ?_
    refine x_iload_n hF dX8_replay_107 rfl rfl ?_
    obtain ⟨hg, h⟩ := og_some h
    refine x_iald hF sh79 (by decide) hg rfl dX8_replay_108 ?_
    obtain ⟨hg, h⟩ := og_some h
    obtain ⟨T14, eT14, h⟩ := ol_some h
    refine x_iast hF sh84 (by decide) hg rfl eT14 dX8_replay_109 ?_
    refine x_iinc [(2, _), (0, _)] (v := (1 : Int32)) hF hN dX8_replay_110 rfl (by decide) (by decide) rfl ?_
    refine x_goto (tgt := 90) hF dX8_replay_113 (by decide) ?_
    obtain ⟨rfl, rfl⟩ := sm h
    exact x_sub (hag _ _ hk) ⟨rfl, rfl, trivial⟩
noncomputable def X8_replay_90L (a : Int32) (S : St) : Option (Unit × St) :=
  lp (fun (a : Int32) (S : St) => X8_replay_90 a S) a S
theorem xX8_replay_90L {F : Cx} (hF : Ok F cX8_replay RX8) (hN : nLF F 3) (hR : RmF F 7 0) {K : Unit → St → Prop} (hex116 : ∀ (q : Unit) (S : St), K (q) S → X F 0 116 [(0, .ref (gA F 75))] [] S) {a : Int32} {S : St} {b : Unit} {S1 : St} (h : X8_replay_90L  a S = some (b, S1)) (hk : K b S1) : X F 0 90 [(0, .ref (gA F 75)), (2, .int a)] [] S := by
  unfold X8_replay_90L at h
  exact lp_rule (Xh := fun (a : Int32) (S : St) => X F 0 90 [(0, .ref (gA F 75)), (2, .int a)] [] S) (K := K) (fun a S r S1 h hk => xX8_replay_90 hF hN hR (K := fun r S => match r with | .inl a => X F 0 90 [(0, .ref (gA F 75)), (2, .int a)] [] S | .inr b => K b S) (fun _ _ h => h) (fun q S h => hex116 q S h) h (by cases r <;> exact hk)) h hk
noncomputable def X8_replay_118 (x2 : Int32) (S : St) : Option (((Int32) ⊕ Unit) × St) :=
  oi ((gi S 75 8) ≤ x2) (some (.inr (), S)) (og (inb x2 4700) (og (inb x2 4700) (ol (si S 85 (ix x2) (gi S 80 (ix x2))) (fun T17 => some (.inl (x2 + (1 : Int32)), T17)))))
set_option maxHeartbeats 4000000 in
set_option maxRecDepth 20000 in
theorem xX8_replay_118 {F : Cx} (hF : Ok F cX8_replay RX8) (hN : nLF F 3) (hR : RmF F 7 0) {x2 : Int32} {K : ((Int32) ⊕ Unit) → St → Prop} (hag : ∀ (a : Int32) (S : St), K (.inl a) S → X F 0 118 [(0, .ref (gA F 75)), (2, .int a)] [] S) (hex144 : ∀ (q : Unit) (S : St), K (.inr q) S → X F 0 144 [(0, .ref (gA F 75))] [] S) {S : St} {r : (Int32) ⊕ Unit} {S1 : St} (h : X8_replay_118 x2 S = some (r, S1)) (hk : K r S1) : X F 0 118 [(0, .ref (gA F 75)), (2, .int x2)] [] S := by
  unfold X8_replay_118 at h
  refine x_iload_n hF dX8_replay_118 rfl rfl ?_
  refine x_aload_n hF dX8_replay_119 rfl rfl ?_
  refine x_geti hF sh75 8 rfl ck7 (by decide) (by decide) tw_1050 rfl dX8_replay_120 ?_
  refine x_icmp_ge (tgt := 144) hF dX8_replay_123 (by decide) (fun hc => ?_) (fun hc => ?_)
  · have h := oi_pos hc h
    obtain ⟨rfl, rfl⟩ := sm h
    exact x_sub (hex144 _ _ hk) ⟨rfl, trivial⟩
  · have h := oi_neg hc h
    refine x_aload_n hF dX8_replay_126 rfl rfl ?_
    refine x_getr hF sh75 21 rfl ck7 (by decide) (by decide) tw_1063 rfl dX8_replay_127 ?_
    refine x_iload_n hF dX8_replay_130 rfl rfl ?_
    refine x_aload_n hF dX8_replay_131 rfl rfl ?_
    refine x_getr hF sh75 7 rfl ck7 (by decide) (by decide) tw_1049 rfl dX8_replay_132 ?_
    refine x_iload_n hF dX8_replay_135 rfl rfl ?_
    obtain ⟨hg, h⟩ := og_some h
    refine x_iald hF sh80 (by decide) hg rfl dX8_replay_136 ?_
    obtain ⟨hg, h⟩ := og_some h
    obtain ⟨T17, eT17, h⟩ := ol_some h
    refine x_iast hF sh85 (by decide) hg rfl eT17 dX8_replay_137 ?_
    refine x_iinc [(2, _), (0, _)] (v := (1 : Int32)) hF hN dX8_replay_138 rfl (by decide) (by decide) rfl ?_
    refine x_goto (tgt := 118) hF dX8_replay_141 (by decide) ?_
    obtain ⟨rfl, rfl⟩ := sm h
    exact x_sub (hag _ _ hk) ⟨rfl, rfl, trivial⟩
noncomputable def X8_replay_118L (a : Int32) (S : St) : Option (Unit × St) :=
  lp (fun (a : Int32) (S : St) => X8_replay_118 a S) a S
theorem xX8_replay_118L {F : Cx} (hF : Ok F cX8_replay RX8) (hN : nLF F 3) (hR : RmF F 7 0) {K : Unit → St → Prop} (hex144 : ∀ (q : Unit) (S : St), K (q) S → X F 0 144 [(0, .ref (gA F 75))] [] S) {a : Int32} {S : St} {b : Unit} {S1 : St} (h : X8_replay_118L  a S = some (b, S1)) (hk : K b S1) : X F 0 118 [(0, .ref (gA F 75)), (2, .int a)] [] S := by
  unfold X8_replay_118L at h
  exact lp_rule (Xh := fun (a : Int32) (S : St) => X F 0 118 [(0, .ref (gA F 75)), (2, .int a)] [] S) (K := K) (fun a S r S1 h hk => xX8_replay_118 hF hN hR (K := fun r S => match r with | .inl a => X F 0 118 [(0, .ref (gA F 75)), (2, .int a)] [] S | .inr b => K b S) (fun _ _ h => h) (fun q S h => hex144 q S h) h (by cases r <;> exact hk)) h hk
noncomputable def X8_replay_16 (x1 : Int32) (z1 : Int32) (S : St) : Option (Int32 × St) :=
  ob (X8_refuses z1 S) (fun r3 S4 => oi (r3 = 0) (ob (X8_replays x1 S4) (fun r5 S6 => ol (si S6 75 15 (1 : Int32)) (fun T7 => ol (si T7 75 16 (gi T7 76 0)) (fun T8 => ol (si T8 75 18 (gi T8 75 6)) (fun T9 => ol (si T9 75 20 (gi T9 75 8)) (fun T10 => ob (X8_replay_62L (0 : Int32) T10) (fun b12 S13 => ob (X8_replay_90L (0 : Int32) S13) (fun b15 S16 => ob (X8_replay_118L (0 : Int32) S16) (fun b18 S19 => some ((gi S19 75 6), S19)))))))))) (some ((0 : Int32), S4)))
set_option maxHeartbeats 4000000 in
set_option maxRecDepth 20000 in
theorem xX8_replay_16 {F : Cx} (hF : Ok F cX8_replay RX8) (hN : nLF F 3) (hR : RmF F 7 0) {x1 : Int32} {z1 : Int32} {K : Int32 → St → Prop} (hret : ∀ (v : Int32) (S : St) (pc : Nat) (ls : List (Nat × Value)), K v S → decode cX8_replay pc = .ok (.ireturn, 1) → X F 0 pc ls [.int v] S) {S : St} {r : Int32} {S1 : St} (h : X8_replay_16 x1 z1 S = some (r, S1)) (hk : K r S1) : X F 0 16 [(0, .ref (gA F 75)), (1, .int x1)] [.int z1, .ref (gA F 75)] S := by
  unfold X8_replay_16 at h
  obtain ⟨r3, S4, hcall, h⟩ := ob_some h
  refine x_cVi hF hN hR (ctX8_refuses hF.tr hcall) mwX8_refuses miX8_refuses sh75 ck7 (by decide) tw_1154 ⟨by decide, by decide⟩ rfl rfl (Nat.le_of_ble_eq_true rfl) dX8_replay_16 ?_
  refine x_if_eq (tgt := 24) hF dX8_replay_19 (by decide) (fun hc => ?_) (fun hc => ?_)
  · have h := oi_pos hc h
    refine x_aload_n hF dX8_replay_24 rfl rfl ?_
    refine x_iload_n hF dX8_replay_25 rfl rfl ?_
    obtain ⟨r5, S6, hcall, h⟩ := ob_some h
    refine x_cVv hF hN hR (ctX8_replays hF.tr hcall) mwX8_replays miX8_replays sh75 ck7 (by decide) tw_1243 ⟨by decide, by decide⟩ rfl rfl (Nat.le_of_ble_eq_true rfl) dX8_replay_26 ?_
    refine x_aload_n hF dX8_replay_29 rfl rfl ?_
    refine x_iconst (v := (1 : Int32)) hF dX8_replay_30 (by decide) ?_
    have hg : isB (1 : Int32) := by decide
    obtain ⟨T7, eT7, h⟩ := ol_some h
    refine x_puti hF sh75 15 rfl ck7 (by decide) (by decide) tw_1057 rfl rfl rfl (isB_n hg) (isB_f hg) eT7 dX8_replay_31 ?_
    refine x_aload_n hF dX8_replay_34 rfl rfl ?_
    refine x_aload_n hF dX8_replay_35 rfl rfl ?_
    refine x_getr hF sh75 0 rfl ck7 (by decide) (by decide) tw_1042 rfl dX8_replay_36 ?_
    refine x_iconst (v := (0 : Int32)) hF dX8_replay_39 (by decide) ?_
    refine x_iald (j := 0) hF sh76 (by decide) (by decide) (by decide) dX8_replay_40 ?_
    obtain ⟨T8, eT8, h⟩ := ol_some h
    refine x_puti hF sh75 16 rfl ck7 (by decide) (by decide) tw_1058 rfl rfl rfl rfl rfl eT8 dX8_replay_41 ?_
    refine x_aload_n hF dX8_replay_44 rfl rfl ?_
    refine x_aload_n hF dX8_replay_45 rfl rfl ?_
    refine x_geti hF sh75 6 rfl ck7 (by decide) (by decide) tw_1048 rfl dX8_replay_46 ?_
    obtain ⟨T9, eT9, h⟩ := ol_some h
    refine x_puti hF sh75 18 rfl ck7 (by decide) (by decide) tw_1060 rfl rfl rfl rfl rfl eT9 dX8_replay_49 ?_
    refine x_aload_n hF dX8_replay_52 rfl rfl ?_
    refine x_aload_n hF dX8_replay_53 rfl rfl ?_
    refine x_geti hF sh75 8 rfl ck7 (by decide) (by decide) tw_1050 rfl dX8_replay_54 ?_
    obtain ⟨T10, eT10, h⟩ := ol_some h
    refine x_puti hF sh75 20 rfl ck7 (by decide) (by decide) tw_1062 rfl rfl rfl rfl rfl eT10 dX8_replay_57 ?_
    refine x_iconst (v := (0 : Int32)) hF dX8_replay_60 (by decide) ?_
    refine x_istore_n [(2, _), (0, _), (1, _)] hF hN dX8_replay_61 rfl (by decide) rfl ?_
    obtain ⟨b12, S13, hlb12, h⟩ := ob_some h
    refine x_sub (xX8_replay_62L hF hN hR (K := fun bb SS => bb = b12 ∧ SS = S13) ?_ hlb12 ⟨rfl, rfl⟩) ⟨rfl, rfl, trivial⟩
    rintro _ _ ⟨_, rfl⟩
    refine x_iconst (v := (0 : Int32)) hF dX8_replay_88 (by decide) ?_
    refine x_istore_n [(2, _), (0, _)] hF hN dX8_replay_89 rfl (by decide) rfl ?_
    obtain ⟨b15, S16, hlb15, h⟩ := ob_some h
    refine x_sub (xX8_replay_90L hF hN hR (K := fun bb SS => bb = b15 ∧ SS = S16) ?_ hlb15 ⟨rfl, rfl⟩) ⟨rfl, rfl, trivial⟩
    rintro _ _ ⟨_, rfl⟩
    refine x_iconst (v := (0 : Int32)) hF dX8_replay_116 (by decide) ?_
    refine x_istore_n [(2, _), (0, _)] hF hN dX8_replay_117 rfl (by decide) rfl ?_
    obtain ⟨b18, S19, hlb18, h⟩ := ob_some h
    refine x_sub (xX8_replay_118L hF hN hR (K := fun bb SS => bb = b18 ∧ SS = S19) ?_ hlb18 ⟨rfl, rfl⟩) ⟨rfl, rfl, trivial⟩
    rintro _ _ ⟨_, rfl⟩
    refine x_aload_n hF dX8_replay_144 rfl rfl ?_
    refine x_geti hF sh75 6 rfl ck7 (by decide) (by decide) tw_1048 rfl dX8_replay_145 ?_
    obtain ⟨rfl, rfl⟩ := sm h
    exact hret _ _ _ _ hk dX8_replay_148
  · have h := oi_neg hc h
    refine x_iconst (v := (0 : Int32)) hF dX8_replay_22 (by decide) ?_
    obtain ⟨rfl, rfl⟩ := sm h
    exact hret _ _ _ _ hk dX8_replay_23
noncomputable def X8_replay (x1 : Int32) (S : St) : Option (Int32 × St) :=
  ob (X8_in x1 (0 : Int32) (63 : Int32) S) (fun r1 S2 => oi (r1 = 0) (X8_replay_16 x1 (1 : Int32) S2) (X8_replay_16 x1 (0 : Int32) S2))
set_option maxHeartbeats 4000000 in
set_option maxRecDepth 20000 in
theorem ctX8_replay {l : Launch} {G : Ga} {x1 : Int32} (hl : l.stackTraces = false) {S : St} {r : Int32} {S1 : St} (h : X8_replay x1 S = some (r, S1)) : CT l G 7 yX8_replay cX8_replay 3 (some .int) [.ref (G.1 75), .int x1] S (some (.int r)) S1 := by
  refine ct_of hl (by decide) (Nat.le_of_ble_eq_true rfl) (fun F hFl hFG hF hN hR hret => ?_)
  subst hFl hFG
  show X F 0 0 [(0, .ref (gA F 75)), (1, .int x1)] [] S
  have hret : ∀ (v : Int32) (S : St) (pc : Nat) (ls : List (Nat × Value)), (v = r ∧ S = S1) → decode cX8_replay pc = .ok (.ireturn, 1) → X F 0 pc ls [.int v] S := fun v S2 pc ls hq hd => by obtain ⟨rfl, rfl⟩ := hq; exact hret.1 pc ls v rfl rfl hd
  have hk : r = r ∧ S1 = S1 := ⟨rfl, rfl⟩
  unfold X8_replay at h
  refine x_aload_n hF dX8_replay_0 rfl rfl ?_
  refine x_iload_n hF dX8_replay_1 rfl rfl ?_
  refine x_iconst (v := (0 : Int32)) hF dX8_replay_2 (by decide) ?_
  refine x_bipush (v := (63 : Int32)) hF dX8_replay_3 (by decide) ?_
  obtain ⟨r1, S2, hcall, h⟩ := ob_some h
  refine x_cSi hF hN hR (ctX8_in hF.tr hcall) mwX8_in tw_1152 tw_1151 ⟨by decide, by decide⟩ rfl rfl (Nat.le_of_ble_eq_true rfl) dX8_replay_5 ?_
  refine x_if_eq (tgt := 15) hF dX8_replay_8 (by decide) (fun hc => ?_) (fun hc => ?_)
  · have h := oi_pos hc h
    refine x_iconst (v := (1 : Int32)) hF dX8_replay_15 (by decide) ?_
    exact x_sub (xX8_replay_16 hF hN hR (K := fun v9 S9 => v9 = r ∧ S9 = S1) hret h hk) ⟨rfl, rfl, trivial⟩
  · have h := oi_neg hc h
    refine x_iconst (v := (0 : Int32)) hF dX8_replay_11 (by decide) ?_
    refine x_goto (tgt := 16) hF dX8_replay_12 (by decide) ?_
    exact x_sub (xX8_replay_16 hF hN hR (K := fun v9 S9 => v9 = r ∧ S9 = S1) hret h hk) ⟨rfl, rfl, trivial⟩
noncomputable def X8_fate (x1 : Int32) (S : St) : Option (Int32 × St) :=
  ol (si S 75 3 (0 : Int32)) (fun T1 => oi ((gi T1 75 15) = 0) (some ((-1 : Int32), T1)) (ob (X8_in x1 (0 : Int32) ((gi T1 75 16) - (1 : Int32)) T1) (fun r2 S3 => oi (r2 = 0) (some ((-1 : Int32), S3)) (og (inb x1 40) (some ((gi S3 83 (ix x1)), S3))))))
set_option maxHeartbeats 4000000 in
set_option maxRecDepth 20000 in
theorem ctX8_fate {l : Launch} {G : Ga} {x1 : Int32} (hl : l.stackTraces = false) {S : St} {r : Int32} {S1 : St} (h : X8_fate x1 S = some (r, S1)) : CT l G 1 yX8_fate cX8_fate 2 (some .int) [.ref (G.1 75), .int x1] S (some (.int r)) S1 := by
  refine ct_of hl (by decide) (Nat.le_of_ble_eq_true rfl) (fun F hFl hFG hF hN hR hret => ?_)
  subst hFl hFG
  show X F 0 0 [(0, .ref (gA F 75)), (1, .int x1)] [] S
  have hret : ∀ (v : Int32) (S : St) (pc : Nat) (ls : List (Nat × Value)), (v = r ∧ S = S1) → decode cX8_fate pc = .ok (.ireturn, 1) → X F 0 pc ls [.int v] S := fun v S2 pc ls hq hd => by obtain ⟨rfl, rfl⟩ := hq; exact hret.1 pc ls v rfl rfl hd
  have hk : r = r ∧ S1 = S1 := ⟨rfl, rfl⟩
  unfold X8_fate at h
  refine x_aload_n hF dX8_fate_0 rfl rfl ?_
  refine x_iconst (v := (0 : Int32)) hF dX8_fate_1 (by decide) ?_
  obtain ⟨T1, eT1, h⟩ := ol_some h
  refine x_puti hF sh75 3 rfl ck7 (by decide) (by decide) tw_1045 rfl rfl rfl rfl rfl eT1 dX8_fate_2 ?_
  refine x_aload_n hF dX8_fate_5 rfl rfl ?_
  refine x_geti hF sh75 15 rfl ck7 (by decide) (by decide) tw_1057 rfl dX8_fate_6 ?_
  refine x_if_eq (tgt := 35) hF dX8_fate_9 (by decide) (fun hc => ?_) (fun hc => ?_)
  · have h := oi_pos hc h
    refine x_iconst (v := (-1 : Int32)) hF dX8_fate_35 (by decide) ?_
    obtain ⟨rfl, rfl⟩ := sm h
    exact hret _ _ _ _ hk dX8_fate_36
  · have h := oi_neg hc h
    refine x_iload_n hF dX8_fate_12 rfl rfl ?_
    refine x_iconst (v := (0 : Int32)) hF dX8_fate_13 (by decide) ?_
    refine x_aload_n hF dX8_fate_14 rfl rfl ?_
    refine x_geti hF sh75 16 rfl ck7 (by decide) (by decide) tw_1058 rfl dX8_fate_15 ?_
    refine x_iconst (v := (1 : Int32)) hF dX8_fate_18 (by decide) ?_
    refine x_isub hF dX8_fate_19 ?_
    obtain ⟨r2, S3, hcall, h⟩ := ob_some h
    refine x_cSi hF hN hR (ctX8_in hF.tr hcall) mwX8_in tw_1152 tw_1151 ⟨by decide, by decide⟩ rfl rfl (Nat.le_of_ble_eq_true rfl) dX8_fate_20 ?_
    refine x_if_eq (tgt := 35) hF dX8_fate_23 (by decide) (fun hc => ?_) (fun hc => ?_)
    · have h := oi_pos hc h
      refine x_iconst (v := (-1 : Int32)) hF dX8_fate_35 (by decide) ?_
      obtain ⟨rfl, rfl⟩ := sm h
      exact hret _ _ _ _ hk dX8_fate_36
    · have h := oi_neg hc h
      refine x_aload_n hF dX8_fate_26 rfl rfl ?_
      refine x_getr hF sh75 17 rfl ck7 (by decide) (by decide) tw_1059 rfl dX8_fate_27 ?_
      refine x_iload_n hF dX8_fate_30 rfl rfl ?_
      obtain ⟨hg, h⟩ := og_some h
      refine x_iald hF sh83 (by decide) hg rfl dX8_fate_31 ?_
      refine x_goto (tgt := 36) hF dX8_fate_32 (by decide) ?_
      obtain ⟨rfl, rfl⟩ := sm h
      exact hret _ _ _ _ hk dX8_fate_36
noncomputable def X8_loadAt (x1 : Int32) (S : St) : Option (Int32 × St) :=
  ol (si S 75 3 (0 : Int32)) (fun T1 => oi ((gi T1 75 15) = 0) (some ((-1 : Int32), T1)) (oi (0 ≤ x1) (oi ((gi T1 75 20) ≤ x1) (some ((0 : Int32), T1)) (og (inb x1 4700) (some ((gi T1 85 (ix x1)), T1)))) (some ((-1 : Int32), T1))))
set_option maxHeartbeats 4000000 in
set_option maxRecDepth 20000 in
theorem ctX8_loadAt {l : Launch} {G : Ga} {x1 : Int32} (hl : l.stackTraces = false) {S : St} {r : Int32} {S1 : St} (h : X8_loadAt x1 S = some (r, S1)) : CT l G 0 yX8_loadAt cX8_loadAt 2 (some .int) [.ref (G.1 75), .int x1] S (some (.int r)) S1 := by
  refine ct_of hl (by decide) (Nat.le_of_ble_eq_true rfl) (fun F hFl hFG hF hN hR hret => ?_)
  subst hFl hFG
  show X F 0 0 [(0, .ref (gA F 75)), (1, .int x1)] [] S
  have hret : ∀ (v : Int32) (S : St) (pc : Nat) (ls : List (Nat × Value)), (v = r ∧ S = S1) → decode cX8_loadAt pc = .ok (.ireturn, 1) → X F 0 pc ls [.int v] S := fun v S2 pc ls hq hd => by obtain ⟨rfl, rfl⟩ := hq; exact hret.1 pc ls v rfl rfl hd
  have hk : r = r ∧ S1 = S1 := ⟨rfl, rfl⟩
  unfold X8_loadAt at h
  refine x_aload_n hF dX8_loadAt_0 rfl rfl ?_
  refine x_iconst (v := (0 : Int32)) hF dX8_loadAt_1 (by decide) ?_
  obtain ⟨T1, eT1, h⟩ := ol_some h
  refine x_puti hF sh75 3 rfl ck7 (by decide) (by decide) tw_1045 rfl rfl rfl rfl rfl eT1 dX8_loadAt_2 ?_
  refine x_aload_n hF dX8_loadAt_5 rfl rfl ?_
  refine x_geti hF sh75 15 rfl ck7 (by decide) (by decide) tw_1057 rfl dX8_loadAt_6 ?_
  refine x_if_eq (tgt := 16) hF dX8_loadAt_9 (by decide) (fun hc => ?_) (fun hc => ?_)
  · have h := oi_pos hc h
    refine x_iconst (v := (-1 : Int32)) hF dX8_loadAt_16 (by decide) ?_
    refine x_goto (tgt := 38) hF dX8_loadAt_17 (by decide) ?_
    obtain ⟨rfl, rfl⟩ := sm h
    exact hret _ _ _ _ hk dX8_loadAt_38
  · have h := oi_neg hc h
    refine x_iload_n hF dX8_loadAt_12 rfl rfl ?_
    refine x_if_ge (tgt := 20) hF dX8_loadAt_13 (by decide) (fun hc => ?_) (fun hc => ?_)
    · have h := oi_pos hc h
      refine x_iload_n hF dX8_loadAt_20 rfl rfl ?_
      refine x_aload_n hF dX8_loadAt_21 rfl rfl ?_
      refine x_geti hF sh75 20 rfl ck7 (by decide) (by decide) tw_1062 rfl dX8_loadAt_22 ?_
      refine x_icmp_ge (tgt := 37) hF dX8_loadAt_25 (by decide) (fun hc => ?_) (fun hc => ?_)
      · have h := oi_pos hc h
        refine x_iconst (v := (0 : Int32)) hF dX8_loadAt_37 (by decide) ?_
        obtain ⟨rfl, rfl⟩ := sm h
        exact hret _ _ _ _ hk dX8_loadAt_38
      · have h := oi_neg hc h
        refine x_aload_n hF dX8_loadAt_28 rfl rfl ?_
        refine x_getr hF sh75 21 rfl ck7 (by decide) (by decide) tw_1063 rfl dX8_loadAt_29 ?_
        refine x_iload_n hF dX8_loadAt_32 rfl rfl ?_
        obtain ⟨hg, h⟩ := og_some h
        refine x_iald hF sh85 (by decide) hg rfl dX8_loadAt_33 ?_
        refine x_goto (tgt := 38) hF dX8_loadAt_34 (by decide) ?_
        obtain ⟨rfl, rfl⟩ := sm h
        exact hret _ _ _ _ hk dX8_loadAt_38
    · have h := oi_neg hc h
      refine x_iconst (v := (-1 : Int32)) hF dX8_loadAt_16 (by decide) ?_
      refine x_goto (tgt := 38) hF dX8_loadAt_17 (by decide) ?_
      obtain ⟨rfl, rfl⟩ := sm h
      exact hret _ _ _ _ hk dX8_loadAt_38
noncomputable def X8_peak_20 (x1 : Int32) (x2 : Int32) (S : St) : Option (((Int32 × Int32) ⊕ Int32) × St) :=
  oi ((gi S 75 20) ≤ x2) (some (.inr x1, S)) (og (inb x2 4700) (oi ((gi S 85 (ix x2)) ≤ x1) (some (.inl (x1, (x2 + (1 : Int32))), S)) (og (inb x2 4700) (some (.inl ((gi S 85 (ix x2)), (x2 + (1 : Int32))), S)))))
set_option maxHeartbeats 4000000 in
set_option maxRecDepth 20000 in
theorem xX8_peak_20 {F : Cx} (hF : Ok F cX8_peak RX8) (hN : nLF F 3) (hR : RmF F 0 0) {x1 : Int32} {x2 : Int32} {K : ((Int32 × Int32) ⊕ Int32) → St → Prop} (hag : ∀ (a : Int32 × Int32) (S : St), K (.inl a) S → X F 0 20 [(0, .ref (gA F 75)), (1, .int a.1), (2, .int a.2)] [] S) (hex55 : ∀ (q : Int32) (S : St), K (.inr q) S → X F 0 55 [(1, .int q)] [] S) {S : St} {r : (Int32 × Int32) ⊕ Int32} {S1 : St} (h : X8_peak_20 x1 x2 S = some (r, S1)) (hk : K r S1) : X F 0 20 [(0, .ref (gA F 75)), (1, .int x1), (2, .int x2)] [] S := by
  unfold X8_peak_20 at h
  refine x_iload_n hF dX8_peak_20 rfl rfl ?_
  refine x_aload_n hF dX8_peak_21 rfl rfl ?_
  refine x_geti hF sh75 20 rfl ck7 (by decide) (by decide) tw_1062 rfl dX8_peak_22 ?_
  refine x_icmp_ge (tgt := 55) hF dX8_peak_25 (by decide) (fun hc => ?_) (fun hc => ?_)
  · have h := oi_pos hc h
    obtain ⟨rfl, rfl⟩ := sm h
    exact x_sub (hex55 _ _ hk) ⟨rfl, trivial⟩
  · have h := oi_neg hc h
    refine x_aload_n hF dX8_peak_28 rfl rfl ?_
    refine x_getr hF sh75 21 rfl ck7 (by decide) (by decide) tw_1063 rfl dX8_peak_29 ?_
    refine x_iload_n hF dX8_peak_32 rfl rfl ?_
    obtain ⟨hg, h⟩ := og_some h
    refine x_iald hF sh85 (by decide) hg rfl dX8_peak_33 ?_
    refine x_iload_n hF dX8_peak_34 rfl rfl ?_
    refine x_icmp_le (tgt := 47) hF dX8_peak_35 (by decide) (fun hc => ?_) (fun hc => ?_)
    · have h := oi_pos hc h
      refine x_iload_n hF dX8_peak_47 rfl rfl ?_
      refine x_istore_n [(1, _), (0, _), (2, _)] hF hN dX8_peak_48 rfl (by decide) rfl ?_
      refine x_iinc [(2, _), (1, _), (0, _)] (v := (1 : Int32)) hF hN dX8_peak_49 rfl (by decide) (by decide) rfl ?_
      refine x_goto (tgt := 20) hF dX8_peak_52 (by decide) ?_
      obtain ⟨rfl, rfl⟩ := sm h
      exact x_sub (hag _ _ hk) ⟨rfl, rfl, rfl, trivial⟩
    · have h := oi_neg hc h
      refine x_aload_n hF dX8_peak_38 rfl rfl ?_
      refine x_getr hF sh75 21 rfl ck7 (by decide) (by decide) tw_1063 rfl dX8_peak_39 ?_
      refine x_iload_n hF dX8_peak_42 rfl rfl ?_
      obtain ⟨hg, h⟩ := og_some h
      refine x_iald hF sh85 (by decide) hg rfl dX8_peak_43 ?_
      refine x_goto (tgt := 48) hF dX8_peak_44 (by decide) ?_
      refine x_istore_n [(1, _), (0, _), (2, _)] hF hN dX8_peak_48 rfl (by decide) rfl ?_
      refine x_iinc [(2, _), (1, _), (0, _)] (v := (1 : Int32)) hF hN dX8_peak_49 rfl (by decide) (by decide) rfl ?_
      refine x_goto (tgt := 20) hF dX8_peak_52 (by decide) ?_
      obtain ⟨rfl, rfl⟩ := sm h
      exact x_sub (hag _ _ hk) ⟨rfl, rfl, rfl, trivial⟩
noncomputable def X8_peak_20L (a : Int32 × Int32) (S : St) : Option (Int32 × St) :=
  lp (fun (a : Int32 × Int32) (S : St) => X8_peak_20 a.1 a.2 S) a S
theorem xX8_peak_20L {F : Cx} (hF : Ok F cX8_peak RX8) (hN : nLF F 3) (hR : RmF F 0 0) {K : Int32 → St → Prop} (hex55 : ∀ (q : Int32) (S : St), K (q) S → X F 0 55 [(1, .int q)] [] S) {a : Int32 × Int32} {S : St} {b : Int32} {S1 : St} (h : X8_peak_20L  a S = some (b, S1)) (hk : K b S1) : X F 0 20 [(0, .ref (gA F 75)), (1, .int a.1), (2, .int a.2)] [] S := by
  unfold X8_peak_20L at h
  exact lp_rule (Xh := fun (a : Int32 × Int32) (S : St) => X F 0 20 [(0, .ref (gA F 75)), (1, .int a.1), (2, .int a.2)] [] S) (K := K) (fun a S r S1 h hk => xX8_peak_20 hF hN hR (K := fun r S => match r with | .inl a => X F 0 20 [(0, .ref (gA F 75)), (1, .int a.1), (2, .int a.2)] [] S | .inr b => K b S) (fun _ _ h => h) (fun q S h => hex55 q S h) h (by cases r <;> exact hk)) h hk
noncomputable def X8_peak_17 (z0 : Int32) (S : St) : Option (Int32 × St) :=
  ob (X8_peak_20L (z0, (0 : Int32)) S) (fun b2 S3 => some (b2, S3))
set_option maxHeartbeats 4000000 in
set_option maxRecDepth 20000 in
theorem xX8_peak_17 {F : Cx} (hF : Ok F cX8_peak RX8) (hN : nLF F 3) (hR : RmF F 0 0) {z0 : Int32} {K : Int32 → St → Prop} (hret : ∀ (v : Int32) (S : St) (pc : Nat) (ls : List (Nat × Value)), K v S → decode cX8_peak pc = .ok (.ireturn, 1) → X F 0 pc ls [.int v] S) {S : St} {r : Int32} {S1 : St} (h : X8_peak_17 z0 S = some (r, S1)) (hk : K r S1) : X F 0 17 [(0, .ref (gA F 75))] [.int z0] S := by
  unfold X8_peak_17 at h
  refine x_istore_n [(1, _), (0, _)] hF hN dX8_peak_17 rfl (by decide) rfl ?_
  refine x_iconst (v := (0 : Int32)) hF dX8_peak_18 (by decide) ?_
  refine x_istore_n [(2, _), (1, _), (0, _)] hF hN dX8_peak_19 rfl (by decide) rfl ?_
  obtain ⟨b2, S3, hlb2, h⟩ := ob_some h
  refine x_sub (xX8_peak_20L hF hN hR (K := fun bb SS => bb = b2 ∧ SS = S3) ?_ hlb2 ⟨rfl, rfl⟩) ⟨rfl, rfl, rfl, trivial⟩
  rintro _ _ ⟨rfl, rfl⟩
  refine x_iload_n hF dX8_peak_55 rfl rfl ?_
  obtain ⟨rfl, rfl⟩ := sm h
  exact hret _ _ _ _ hk dX8_peak_56
noncomputable def X8_peak (S : St) : Option (Int32 × St) :=
  ol (si S 75 3 (0 : Int32)) (fun T1 => oi ((gi T1 75 15) = 0) (X8_peak_17 (-1 : Int32) T1) (X8_peak_17 (0 : Int32) T1))
set_option maxHeartbeats 4000000 in
set_option maxRecDepth 20000 in
theorem ctX8_peak {l : Launch} {G : Ga} (hl : l.stackTraces = false) {S : St} {r : Int32} {S1 : St} (h : X8_peak  S = some (r, S1)) : CT l G 0 yX8_peak cX8_peak 3 (some .int) [.ref (G.1 75)] S (some (.int r)) S1 := by
  refine ct_of hl (by decide) (Nat.le_of_ble_eq_true rfl) (fun F hFl hFG hF hN hR hret => ?_)
  subst hFl hFG
  show X F 0 0 [(0, .ref (gA F 75))] [] S
  have hret : ∀ (v : Int32) (S : St) (pc : Nat) (ls : List (Nat × Value)), (v = r ∧ S = S1) → decode cX8_peak pc = .ok (.ireturn, 1) → X F 0 pc ls [.int v] S := fun v S2 pc ls hq hd => by obtain ⟨rfl, rfl⟩ := hq; exact hret.1 pc ls v rfl rfl hd
  have hk : r = r ∧ S1 = S1 := ⟨rfl, rfl⟩
  unfold X8_peak at h
  refine x_aload_n hF dX8_peak_0 rfl rfl ?_
  refine x_iconst (v := (0 : Int32)) hF dX8_peak_1 (by decide) ?_
  obtain ⟨T1, eT1, h⟩ := ol_some h
  refine x_puti hF sh75 3 rfl ck7 (by decide) (by decide) tw_1045 rfl rfl rfl rfl rfl eT1 dX8_peak_2 ?_
  refine x_aload_n hF dX8_peak_5 rfl rfl ?_
  refine x_geti hF sh75 15 rfl ck7 (by decide) (by decide) tw_1057 rfl dX8_peak_6 ?_
  refine x_if_eq (tgt := 16) hF dX8_peak_9 (by decide) (fun hc => ?_) (fun hc => ?_)
  · have h := oi_pos hc h
    refine x_iconst (v := (-1 : Int32)) hF dX8_peak_16 (by decide) ?_
    exact x_sub (xX8_peak_17 hF hN hR (K := fun v9 S9 => v9 = r ∧ S9 = S1) hret h hk) ⟨rfl, trivial⟩
  · have h := oi_neg hc h
    refine x_iconst (v := (0 : Int32)) hF dX8_peak_12 (by decide) ?_
    refine x_goto (tgt := 17) hF dX8_peak_13 (by decide) ?_
    exact x_sub (xX8_peak_17 hF hN hR (K := fun v9 S9 => v9 = r ∧ S9 = S1) hret h hk) ⟨rfl, trivial⟩
noncomputable def X8_dropped (x1 : Int32) (S : St) : Option (Int32 × St) :=
  ol (si S 75 3 (0 : Int32)) (fun T1 => oi ((gi T1 75 15) = 0) (some ((-1 : Int32), T1)) (ob (X8_in x1 (0 : Int32) ((gi T1 75 18) - (1 : Int32)) T1) (fun r2 S3 => oi (r2 = 0) (some ((-1 : Int32), S3)) (og (inb x1 40) (some ((gi S3 84 (ix x1)), S3))))))
set_option maxHeartbeats 4000000 in
set_option maxRecDepth 20000 in
theorem ctX8_dropped {l : Launch} {G : Ga} {x1 : Int32} (hl : l.stackTraces = false) {S : St} {r : Int32} {S1 : St} (h : X8_dropped x1 S = some (r, S1)) : CT l G 1 yX8_dropped cX8_dropped 2 (some .int) [.ref (G.1 75), .int x1] S (some (.int r)) S1 := by
  refine ct_of hl (by decide) (Nat.le_of_ble_eq_true rfl) (fun F hFl hFG hF hN hR hret => ?_)
  subst hFl hFG
  show X F 0 0 [(0, .ref (gA F 75)), (1, .int x1)] [] S
  have hret : ∀ (v : Int32) (S : St) (pc : Nat) (ls : List (Nat × Value)), (v = r ∧ S = S1) → decode cX8_dropped pc = .ok (.ireturn, 1) → X F 0 pc ls [.int v] S := fun v S2 pc ls hq hd => by obtain ⟨rfl, rfl⟩ := hq; exact hret.1 pc ls v rfl rfl hd
  have hk : r = r ∧ S1 = S1 := ⟨rfl, rfl⟩
  unfold X8_dropped at h
  refine x_aload_n hF dX8_dropped_0 rfl rfl ?_
  refine x_iconst (v := (0 : Int32)) hF dX8_dropped_1 (by decide) ?_
  obtain ⟨T1, eT1, h⟩ := ol_some h
  refine x_puti hF sh75 3 rfl ck7 (by decide) (by decide) tw_1045 rfl rfl rfl rfl rfl eT1 dX8_dropped_2 ?_
  refine x_aload_n hF dX8_dropped_5 rfl rfl ?_
  refine x_geti hF sh75 15 rfl ck7 (by decide) (by decide) tw_1057 rfl dX8_dropped_6 ?_
  refine x_if_eq (tgt := 35) hF dX8_dropped_9 (by decide) (fun hc => ?_) (fun hc => ?_)
  · have h := oi_pos hc h
    refine x_iconst (v := (-1 : Int32)) hF dX8_dropped_35 (by decide) ?_
    obtain ⟨rfl, rfl⟩ := sm h
    exact hret _ _ _ _ hk dX8_dropped_36
  · have h := oi_neg hc h
    refine x_iload_n hF dX8_dropped_12 rfl rfl ?_
    refine x_iconst (v := (0 : Int32)) hF dX8_dropped_13 (by decide) ?_
    refine x_aload_n hF dX8_dropped_14 rfl rfl ?_
    refine x_geti hF sh75 18 rfl ck7 (by decide) (by decide) tw_1060 rfl dX8_dropped_15 ?_
    refine x_iconst (v := (1 : Int32)) hF dX8_dropped_18 (by decide) ?_
    refine x_isub hF dX8_dropped_19 ?_
    obtain ⟨r2, S3, hcall, h⟩ := ob_some h
    refine x_cSi hF hN hR (ctX8_in hF.tr hcall) mwX8_in tw_1152 tw_1151 ⟨by decide, by decide⟩ rfl rfl (Nat.le_of_ble_eq_true rfl) dX8_dropped_20 ?_
    refine x_if_eq (tgt := 35) hF dX8_dropped_23 (by decide) (fun hc => ?_) (fun hc => ?_)
    · have h := oi_pos hc h
      refine x_iconst (v := (-1 : Int32)) hF dX8_dropped_35 (by decide) ?_
      obtain ⟨rfl, rfl⟩ := sm h
      exact hret _ _ _ _ hk dX8_dropped_36
    · have h := oi_neg hc h
      refine x_aload_n hF dX8_dropped_26 rfl rfl ?_
      refine x_getr hF sh75 19 rfl ck7 (by decide) (by decide) tw_1061 rfl dX8_dropped_27 ?_
      refine x_iload_n hF dX8_dropped_30 rfl rfl ?_
      obtain ⟨hg, h⟩ := og_some h
      refine x_iald hF sh84 (by decide) hg rfl dX8_dropped_31 ?_
      refine x_goto (tgt := 36) hF dX8_dropped_32 (by decide) ?_
      obtain ⟨rfl, rfl⟩ := sm h
      exact hret _ _ _ _ hk dX8_dropped_36
noncomputable def X8_worth_16 (x1 : Int32) (z1 : Int32) (S : St) : Option (Int32 × St) :=
  ob (X8_refuses z1 S) (fun r3 S4 => oi (r3 = 0) (ob (X8_worthOf x1 (-1 : Int32) S4) (fun r5 S6 => some (r5, S6))) (some ((0 : Int32), S4)))
set_option maxHeartbeats 4000000 in
set_option maxRecDepth 20000 in
theorem xX8_worth_16 {F : Cx} (hF : Ok F cX8_worth RX8) (hN : nLF F 2) (hR : RmF F 8 0) {x1 : Int32} {z1 : Int32} {K : Int32 → St → Prop} (hret : ∀ (v : Int32) (S : St) (pc : Nat) (ls : List (Nat × Value)), K v S → decode cX8_worth pc = .ok (.ireturn, 1) → X F 0 pc ls [.int v] S) {S : St} {r : Int32} {S1 : St} (h : X8_worth_16 x1 z1 S = some (r, S1)) (hk : K r S1) : X F 0 16 [(0, .ref (gA F 75)), (1, .int x1)] [.int z1, .ref (gA F 75)] S := by
  unfold X8_worth_16 at h
  obtain ⟨r3, S4, hcall, h⟩ := ob_some h
  refine x_cVi hF hN hR (ctX8_refuses hF.tr hcall) mwX8_refuses miX8_refuses sh75 ck7 (by decide) tw_1154 ⟨by decide, by decide⟩ rfl rfl (Nat.le_of_ble_eq_true rfl) dX8_worth_16 ?_
  refine x_if_eq (tgt := 26) hF dX8_worth_19 (by decide) (fun hc => ?_) (fun hc => ?_)
  · have h := oi_pos hc h
    refine x_aload_n hF dX8_worth_26 rfl rfl ?_
    refine x_iload_n hF dX8_worth_27 rfl rfl ?_
    refine x_iconst (v := (-1 : Int32)) hF dX8_worth_28 (by decide) ?_
    obtain ⟨r5, S6, hcall, h⟩ := ob_some h
    refine x_cVi hF hN hR (ctX8_worthOf hF.tr hcall) mwX8_worthOf miX8_worthOf sh75 ck7 (by decide) tw_1327 ⟨by decide, by decide⟩ rfl rfl (Nat.le_of_ble_eq_true rfl) dX8_worth_29 ?_
    obtain ⟨rfl, rfl⟩ := sm h
    exact hret _ _ _ _ hk dX8_worth_32
  · have h := oi_neg hc h
    refine x_iconst (v := (0 : Int32)) hF dX8_worth_22 (by decide) ?_
    refine x_goto (tgt := 32) hF dX8_worth_23 (by decide) ?_
    obtain ⟨rfl, rfl⟩ := sm h
    exact hret _ _ _ _ hk dX8_worth_32
noncomputable def X8_worth (x1 : Int32) (S : St) : Option (Int32 × St) :=
  ob (X8_in x1 (0 : Int32) (63 : Int32) S) (fun r1 S2 => oi (r1 = 0) (X8_worth_16 x1 (1 : Int32) S2) (X8_worth_16 x1 (0 : Int32) S2))
set_option maxHeartbeats 4000000 in
set_option maxRecDepth 20000 in
theorem ctX8_worth {l : Launch} {G : Ga} {x1 : Int32} (hl : l.stackTraces = false) {S : St} {r : Int32} {S1 : St} (h : X8_worth x1 S = some (r, S1)) : CT l G 8 yX8_worth cX8_worth 2 (some .int) [.ref (G.1 75), .int x1] S (some (.int r)) S1 := by
  refine ct_of hl (by decide) (Nat.le_of_ble_eq_true rfl) (fun F hFl hFG hF hN hR hret => ?_)
  subst hFl hFG
  show X F 0 0 [(0, .ref (gA F 75)), (1, .int x1)] [] S
  have hret : ∀ (v : Int32) (S : St) (pc : Nat) (ls : List (Nat × Value)), (v = r ∧ S = S1) → decode cX8_worth pc = .ok (.ireturn, 1) → X F 0 pc ls [.int v] S := fun v S2 pc ls hq hd => by obtain ⟨rfl, rfl⟩ := hq; exact hret.1 pc ls v rfl rfl hd
  have hk : r = r ∧ S1 = S1 := ⟨rfl, rfl⟩
  unfold X8_worth at h
  refine x_aload_n hF dX8_worth_0 rfl rfl ?_
  refine x_iload_n hF dX8_worth_1 rfl rfl ?_
  refine x_iconst (v := (0 : Int32)) hF dX8_worth_2 (by decide) ?_
  refine x_bipush (v := (63 : Int32)) hF dX8_worth_3 (by decide) ?_
  obtain ⟨r1, S2, hcall, h⟩ := ob_some h
  refine x_cSi hF hN hR (ctX8_in hF.tr hcall) mwX8_in tw_1152 tw_1151 ⟨by decide, by decide⟩ rfl rfl (Nat.le_of_ble_eq_true rfl) dX8_worth_5 ?_
  refine x_if_eq (tgt := 15) hF dX8_worth_8 (by decide) (fun hc => ?_) (fun hc => ?_)
  · have h := oi_pos hc h
    refine x_iconst (v := (1 : Int32)) hF dX8_worth_15 (by decide) ?_
    exact x_sub (xX8_worth_16 hF hN hR (K := fun v9 S9 => v9 = r ∧ S9 = S1) hret h hk) ⟨rfl, rfl, trivial⟩
  · have h := oi_neg hc h
    refine x_iconst (v := (0 : Int32)) hF dX8_worth_11 (by decide) ?_
    refine x_goto (tgt := 16) hF dX8_worth_12 (by decide) ?_
    exact x_sub (xX8_worth_16 hF hN hR (K := fun v9 S9 => v9 = r ∧ S9 = S1) hret h hk) ⟨rfl, rfl, trivial⟩
noncomputable def X8_worthFor_27 (x1 : Int32) (x2 : Int32) (z1 : Int32) (S : St) : Option (Int32 × St) :=
  ob (X8_refuses z1 S) (fun r5 S6 => oi (r5 = 0) (ob (X8_worthOf x1 x2 S6) (fun r7 S8 => some (r7, S8))) (some ((0 : Int32), S6)))
set_option maxHeartbeats 4000000 in
set_option maxRecDepth 20000 in
theorem xX8_worthFor_27 {F : Cx} (hF : Ok F cX8_worthFor RX8) (hN : nLF F 3) (hR : RmF F 8 0) {x1 : Int32} {x2 : Int32} {z1 : Int32} {K : Int32 → St → Prop} (hret : ∀ (v : Int32) (S : St) (pc : Nat) (ls : List (Nat × Value)), K v S → decode cX8_worthFor pc = .ok (.ireturn, 1) → X F 0 pc ls [.int v] S) {S : St} {r : Int32} {S1 : St} (h : X8_worthFor_27 x1 x2 z1 S = some (r, S1)) (hk : K r S1) : X F 0 27 [(0, .ref (gA F 75)), (1, .int x1), (2, .int x2)] [.int z1, .ref (gA F 75)] S := by
  unfold X8_worthFor_27 at h
  obtain ⟨r5, S6, hcall, h⟩ := ob_some h
  refine x_cVi hF hN hR (ctX8_refuses hF.tr hcall) mwX8_refuses miX8_refuses sh75 ck7 (by decide) tw_1154 ⟨by decide, by decide⟩ rfl rfl (Nat.le_of_ble_eq_true rfl) dX8_worthFor_27 ?_
  refine x_if_eq (tgt := 37) hF dX8_worthFor_30 (by decide) (fun hc => ?_) (fun hc => ?_)
  · have h := oi_pos hc h
    refine x_aload_n hF dX8_worthFor_37 rfl rfl ?_
    refine x_iload_n hF dX8_worthFor_38 rfl rfl ?_
    refine x_iload_n hF dX8_worthFor_39 rfl rfl ?_
    obtain ⟨r7, S8, hcall, h⟩ := ob_some h
    refine x_cVi hF hN hR (ctX8_worthOf hF.tr hcall) mwX8_worthOf miX8_worthOf sh75 ck7 (by decide) tw_1327 ⟨by decide, by decide⟩ rfl rfl (Nat.le_of_ble_eq_true rfl) dX8_worthFor_40 ?_
    obtain ⟨rfl, rfl⟩ := sm h
    exact hret _ _ _ _ hk dX8_worthFor_43
  · have h := oi_neg hc h
    refine x_iconst (v := (0 : Int32)) hF dX8_worthFor_33 (by decide) ?_
    refine x_goto (tgt := 43) hF dX8_worthFor_34 (by decide) ?_
    obtain ⟨rfl, rfl⟩ := sm h
    exact hret _ _ _ _ hk dX8_worthFor_43
noncomputable def X8_worthFor (x1 : Int32) (x2 : Int32) (S : St) : Option (Int32 × St) :=
  ob (X8_isFlow x2 S) (fun r1 S2 => oi (r1 = 0) (X8_worthFor_27 x1 x2 (1 : Int32) S2) (ob (X8_in x1 (0 : Int32) (63 : Int32) S2) (fun r3 S4 => oi (r3 = 0) (X8_worthFor_27 x1 x2 (2 : Int32) S4) (X8_worthFor_27 x1 x2 (0 : Int32) S4))))
set_option maxHeartbeats 4000000 in
set_option maxRecDepth 20000 in
theorem ctX8_worthFor {l : Launch} {G : Ga} {x1 : Int32} {x2 : Int32} (hl : l.stackTraces = false) {S : St} {r : Int32} {S1 : St} (h : X8_worthFor x1 x2 S = some (r, S1)) : CT l G 8 yX8_worthFor cX8_worthFor 3 (some .int) [.ref (G.1 75), .int x1, .int x2] S (some (.int r)) S1 := by
  refine ct_of hl (by decide) (Nat.le_of_ble_eq_true rfl) (fun F hFl hFG hF hN hR hret => ?_)
  subst hFl hFG
  show X F 0 0 [(0, .ref (gA F 75)), (1, .int x1), (2, .int x2)] [] S
  have hret : ∀ (v : Int32) (S : St) (pc : Nat) (ls : List (Nat × Value)), (v = r ∧ S = S1) → decode cX8_worthFor pc = .ok (.ireturn, 1) → X F 0 pc ls [.int v] S := fun v S2 pc ls hq hd => by obtain ⟨rfl, rfl⟩ := hq; exact hret.1 pc ls v rfl rfl hd
  have hk : r = r ∧ S1 = S1 := ⟨rfl, rfl⟩
  unfold X8_worthFor at h
  refine x_aload_n hF dX8_worthFor_0 rfl rfl ?_
  refine x_iload_n hF dX8_worthFor_1 rfl rfl ?_
  obtain ⟨r1, S2, hcall, h⟩ := ob_some h
  refine x_cSi hF hN hR (ctX8_isFlow hF.tr hcall) mwX8_isFlow tw_1149 tw_1148 ⟨by decide, by decide⟩ rfl rfl (Nat.le_of_ble_eq_true rfl) dX8_worthFor_2 ?_
  refine x_if_ne (tgt := 12) hF dX8_worthFor_5 (by decide) (fun hc => ?_) (fun hc => ?_)
  · have h := oi_neg hc h
    refine x_iload_n hF dX8_worthFor_12 rfl rfl ?_
    refine x_iconst (v := (0 : Int32)) hF dX8_worthFor_13 (by decide) ?_
    refine x_bipush (v := (63 : Int32)) hF dX8_worthFor_14 (by decide) ?_
    obtain ⟨r3, S4, hcall, h⟩ := ob_some h
    refine x_cSi hF hN hR (ctX8_in hF.tr hcall) mwX8_in tw_1152 tw_1151 ⟨by decide, by decide⟩ rfl rfl (Nat.le_of_ble_eq_true rfl) dX8_worthFor_16 ?_
    refine x_if_eq (tgt := 26) hF dX8_worthFor_19 (by decide) (fun hc => ?_) (fun hc => ?_)
    · have h := oi_pos hc h
      refine x_iconst (v := (2 : Int32)) hF dX8_worthFor_26 (by decide) ?_
      exact x_sub (xX8_worthFor_27 hF hN hR (K := fun v9 S9 => v9 = r ∧ S9 = S1) hret h hk) ⟨rfl, rfl, rfl, trivial⟩
    · have h := oi_neg hc h
      refine x_iconst (v := (0 : Int32)) hF dX8_worthFor_22 (by decide) ?_
      refine x_goto (tgt := 27) hF dX8_worthFor_23 (by decide) ?_
      exact x_sub (xX8_worthFor_27 hF hN hR (K := fun v9 S9 => v9 = r ∧ S9 = S1) hret h hk) ⟨rfl, rfl, rfl, trivial⟩
  · have h := oi_pos hc h
    refine x_iconst (v := (1 : Int32)) hF dX8_worthFor_8 (by decide) ?_
    refine x_goto (tgt := 27) hF dX8_worthFor_9 (by decide) ?_
    exact x_sub (xX8_worthFor_27 hF hN hR (K := fun v9 S9 => v9 = r ∧ S9 = S1) hret h hk) ⟨rfl, rfl, rfl, trivial⟩
noncomputable def X8_weighsAll_2 (x1 : Int32) (x2 : Int32) (S : St) : Option (((Int32) ⊕ Unit) × St) :=
  oi ((63 : Int32) < x2) (some (.inr (), S)) (ob (X8_worthOf x2 x1 S) (fun r1 S2 => og (inb x2 64) (ol (si S2 86 (ix x2) r1) (fun T3 => some (.inl (x2 + (1 : Int32)), T3)))))
set_option maxHeartbeats 4000000 in
set_option maxRecDepth 20000 in
theorem xX8_weighsAll_2 {F : Cx} (hF : Ok F cX8_weighsAll RX8) (hN : nLF F 3) (hR : RmF F 8 0) {x1 : Int32} {x2 : Int32} {K : ((Int32) ⊕ Unit) → St → Prop} (hag : ∀ (a : Int32) (S : St), K (.inl a) S → X F 0 2 [(0, .ref (gA F 75)), (1, .int x1), (2, .int a)] [] S) (hex26 : ∀ (q : Unit) (S : St), K (.inr q) S → X F 0 26 [] [] S) {S : St} {r : (Int32) ⊕ Unit} {S1 : St} (h : X8_weighsAll_2 x1 x2 S = some (r, S1)) (hk : K r S1) : X F 0 2 [(0, .ref (gA F 75)), (1, .int x1), (2, .int x2)] [] S := by
  unfold X8_weighsAll_2 at h
  refine x_iload_n hF dX8_weighsAll_2 rfl rfl ?_
  refine x_bipush (v := (63 : Int32)) hF dX8_weighsAll_3 (by decide) ?_
  refine x_icmp_gt (tgt := 26) hF dX8_weighsAll_5 (by decide) (fun hc => ?_) (fun hc => ?_)
  · have h := oi_pos hc h
    obtain ⟨rfl, rfl⟩ := sm h
    exact x_sub (hex26 _ _ hk) trivial
  · have h := oi_neg hc h
    refine x_aload_n hF dX8_weighsAll_8 rfl rfl ?_
    refine x_getr hF sh75 22 rfl ck7 (by decide) (by decide) tw_1064 rfl dX8_weighsAll_9 ?_
    refine x_iload_n hF dX8_weighsAll_12 rfl rfl ?_
    refine x_aload_n hF dX8_weighsAll_13 rfl rfl ?_
    refine x_iload_n hF dX8_weighsAll_14 rfl rfl ?_
    refine x_iload_n hF dX8_weighsAll_15 rfl rfl ?_
    obtain ⟨r1, S2, hcall, h⟩ := ob_some h
    refine x_cVi hF hN hR (ctX8_worthOf hF.tr hcall) mwX8_worthOf miX8_worthOf sh75 ck7 (by decide) tw_1327 ⟨by decide, by decide⟩ rfl rfl (Nat.le_of_ble_eq_true rfl) dX8_weighsAll_16 ?_
    obtain ⟨hg, h⟩ := og_some h
    obtain ⟨T3, eT3, h⟩ := ol_some h
    refine x_iast hF sh86 (by decide) hg rfl eT3 dX8_weighsAll_19 ?_
    refine x_iinc [(2, _), (0, _), (1, _)] (v := (1 : Int32)) hF hN dX8_weighsAll_20 rfl (by decide) (by decide) rfl ?_
    refine x_goto (tgt := 2) hF dX8_weighsAll_23 (by decide) ?_
    obtain ⟨rfl, rfl⟩ := sm h
    exact x_sub (hag _ _ hk) ⟨rfl, rfl, rfl, trivial⟩
noncomputable def X8_weighsAll_2L (x1 : Int32) (a : Int32) (S : St) : Option (Unit × St) :=
  lp (fun (a : Int32) (S : St) => X8_weighsAll_2 x1 a S) a S
theorem xX8_weighsAll_2L {F : Cx} (hF : Ok F cX8_weighsAll RX8) (hN : nLF F 3) (hR : RmF F 8 0) {x1 : Int32} {K : Unit → St → Prop} (hex26 : ∀ (q : Unit) (S : St), K (q) S → X F 0 26 [] [] S) {a : Int32} {S : St} {b : Unit} {S1 : St} (h : X8_weighsAll_2L x1 a S = some (b, S1)) (hk : K b S1) : X F 0 2 [(0, .ref (gA F 75)), (1, .int x1), (2, .int a)] [] S := by
  unfold X8_weighsAll_2L at h
  exact lp_rule (Xh := fun (a : Int32) (S : St) => X F 0 2 [(0, .ref (gA F 75)), (1, .int x1), (2, .int a)] [] S) (K := K) (fun a S r S1 h hk => xX8_weighsAll_2 hF hN hR (K := fun r S => match r with | .inl a => X F 0 2 [(0, .ref (gA F 75)), (1, .int x1), (2, .int a)] [] S | .inr b => K b S) (fun _ _ h => h) (fun q S h => hex26 q S h) h (by cases r <;> exact hk)) h hk
noncomputable def X8_weighsAll (x1 : Int32) (S : St) : Option (Unit × St) :=
  ob (X8_weighsAll_2L x1 (0 : Int32) S) (fun b4 S5 => some ((), S5))
set_option maxHeartbeats 4000000 in
set_option maxRecDepth 20000 in
theorem ctX8_weighsAll {l : Launch} {G : Ga} {x1 : Int32} (hl : l.stackTraces = false) {S : St} {r : Unit} {S1 : St} (h : X8_weighsAll x1 S = some (r, S1)) : CT l G 8 yX8_weighsAll cX8_weighsAll 3 none [.ref (G.1 75), .int x1] S none S1 := by
  refine ct_of hl (by decide) (Nat.le_of_ble_eq_true rfl) (fun F hFl hFG hF hN hR hret => ?_)
  subst hFl hFG
  show X F 0 0 [(0, .ref (gA F 75)), (1, .int x1)] [] S
  have hret : ∀ (v : Unit) (S : St) (pc : Nat) (ls : List (Nat × Value)), (v = r ∧ S = S1) → decode cX8_weighsAll pc = .ok (.return_, 1) → X F 0 pc ls [] S := fun v S2 pc ls hq hd => by obtain ⟨rfl, rfl⟩ := hq; exact hret.2.2.2.2.1 pc ls rfl rfl hd
  have hk : r = r ∧ S1 = S1 := ⟨rfl, rfl⟩
  unfold X8_weighsAll at h
  refine x_iconst (v := (0 : Int32)) hF dX8_weighsAll_0 (by decide) ?_
  refine x_istore_n [(2, _), (0, _), (1, _)] hF hN dX8_weighsAll_1 rfl (by decide) rfl ?_
  obtain ⟨b4, S5, hlb4, h⟩ := ob_some h
  refine x_sub (xX8_weighsAll_2L hF hN hR (K := fun bb SS => bb = b4 ∧ SS = S5) ?_ hlb4 ⟨rfl, rfl⟩) ⟨rfl, rfl, rfl, trivial⟩
  rintro _ _ ⟨_, rfl⟩
  obtain ⟨rfl, rfl⟩ := sm h
  exact hret _ _ _ _ hk dX8_weighsAll_26
noncomputable def X8_size_4 (x0 : Int32) (x1 : Int32) (x2 : Int32) (S : St) : Option (((Int32 × Int32) ⊕ Int32) × St) :=
  oi ((6 : Int32) ≤ x2) (some (.inr x1, S)) (some (.inl ((x1 + ((x0 >>> (x2 &&& 31)) &&& (1 : Int32))), (x2 + (1 : Int32))), S))
set_option maxHeartbeats 4000000 in
set_option maxRecDepth 20000 in
theorem xX8_size_4 {F : Cx} (hF : Ok F cX8_size RX8) (hN : nLF F 3) (hR : RmF F 0 0) {x0 : Int32} {x1 : Int32} {x2 : Int32} {K : ((Int32 × Int32) ⊕ Int32) → St → Prop} (hag : ∀ (a : Int32 × Int32) (S : St), K (.inl a) S → X F 0 4 [(0, .int x0), (1, .int a.1), (2, .int a.2)] [] S) (hex24 : ∀ (q : Int32) (S : St), K (.inr q) S → X F 0 24 [(1, .int q)] [] S) {S : St} {r : (Int32 × Int32) ⊕ Int32} {S1 : St} (h : X8_size_4 x0 x1 x2 S = some (r, S1)) (hk : K r S1) : X F 0 4 [(0, .int x0), (1, .int x1), (2, .int x2)] [] S := by
  unfold X8_size_4 at h
  refine x_iload_n hF dX8_size_4 rfl rfl ?_
  refine x_bipush (v := (6 : Int32)) hF dX8_size_5 (by decide) ?_
  refine x_icmp_ge (tgt := 24) hF dX8_size_7 (by decide) (fun hc => ?_) (fun hc => ?_)
  · have h := oi_pos hc h
    obtain ⟨rfl, rfl⟩ := sm h
    exact x_sub (hex24 _ _ hk) ⟨rfl, trivial⟩
  · have h := oi_neg hc h
    refine x_iload_n hF dX8_size_10 rfl rfl ?_
    refine x_iload_n hF dX8_size_11 rfl rfl ?_
    refine x_iload_n hF dX8_size_12 rfl rfl ?_
    refine x_ishr hF dX8_size_13 ?_
    refine x_iconst (v := (1 : Int32)) hF dX8_size_14 (by decide) ?_
    refine x_iand hF dX8_size_15 ?_
    refine x_iadd hF dX8_size_16 ?_
    refine x_istore_n [(1, _), (0, _), (2, _)] hF hN dX8_size_17 rfl (by decide) rfl ?_
    refine x_iinc [(2, _), (1, _), (0, _)] (v := (1 : Int32)) hF hN dX8_size_18 rfl (by decide) (by decide) rfl ?_
    refine x_goto (tgt := 4) hF dX8_size_21 (by decide) ?_
    obtain ⟨rfl, rfl⟩ := sm h
    exact x_sub (hag _ _ hk) ⟨rfl, rfl, rfl, trivial⟩
noncomputable def X8_size_4L (x0 : Int32) (a : Int32 × Int32) (S : St) : Option (Int32 × St) :=
  lp (fun (a : Int32 × Int32) (S : St) => X8_size_4 x0 a.1 a.2 S) a S
theorem xX8_size_4L {F : Cx} (hF : Ok F cX8_size RX8) (hN : nLF F 3) (hR : RmF F 0 0) {x0 : Int32} {K : Int32 → St → Prop} (hex24 : ∀ (q : Int32) (S : St), K (q) S → X F 0 24 [(1, .int q)] [] S) {a : Int32 × Int32} {S : St} {b : Int32} {S1 : St} (h : X8_size_4L x0 a S = some (b, S1)) (hk : K b S1) : X F 0 4 [(0, .int x0), (1, .int a.1), (2, .int a.2)] [] S := by
  unfold X8_size_4L at h
  exact lp_rule (Xh := fun (a : Int32 × Int32) (S : St) => X F 0 4 [(0, .int x0), (1, .int a.1), (2, .int a.2)] [] S) (K := K) (fun a S r S1 h hk => xX8_size_4 hF hN hR (K := fun r S => match r with | .inl a => X F 0 4 [(0, .int x0), (1, .int a.1), (2, .int a.2)] [] S | .inr b => K b S) (fun _ _ h => h) (fun q S h => hex24 q S h) h (by cases r <;> exact hk)) h hk
noncomputable def X8_size (x0 : Int32) (S : St) : Option (Int32 × St) :=
  ob (X8_size_4L x0 ((0 : Int32), (0 : Int32)) S) (fun b1 S2 => some (b1, S2))
set_option maxHeartbeats 4000000 in
set_option maxRecDepth 20000 in
theorem ctX8_size {l : Launch} {G : Ga} {x0 : Int32} (hl : l.stackTraces = false) {S : St} {r : Int32} {S1 : St} (h : X8_size x0 S = some (r, S1)) : CT l G 0 yX8_size cX8_size 3 (some .int) [.int x0] S (some (.int r)) S1 := by
  refine ct_of hl (by decide) (Nat.le_of_ble_eq_true rfl) (fun F hFl hFG hF hN hR hret => ?_)
  subst hFl hFG
  show X F 0 0 [(0, .int x0)] [] S
  have hret : ∀ (v : Int32) (S : St) (pc : Nat) (ls : List (Nat × Value)), (v = r ∧ S = S1) → decode cX8_size pc = .ok (.ireturn, 1) → X F 0 pc ls [.int v] S := fun v S2 pc ls hq hd => by obtain ⟨rfl, rfl⟩ := hq; exact hret.1 pc ls v rfl rfl hd
  have hk : r = r ∧ S1 = S1 := ⟨rfl, rfl⟩
  unfold X8_size at h
  refine x_iconst (v := (0 : Int32)) hF dX8_size_0 (by decide) ?_
  refine x_istore_n [(1, _), (0, _)] hF hN dX8_size_1 rfl (by decide) rfl ?_
  refine x_iconst (v := (0 : Int32)) hF dX8_size_2 (by decide) ?_
  refine x_istore_n [(2, _), (1, _), (0, _)] hF hN dX8_size_3 rfl (by decide) rfl ?_
  obtain ⟨b1, S2, hlb1, h⟩ := ob_some h
  refine x_sub (xX8_size_4L hF hN hR (K := fun bb SS => bb = b1 ∧ SS = S2) ?_ hlb1 ⟨rfl, rfl⟩) ⟨rfl, rfl, rfl, trivial⟩
  rintro _ _ ⟨rfl, rfl⟩
  refine x_iload_n hF dX8_size_24 rfl rfl ?_
  obtain ⟨rfl, rfl⟩ := sm h
  exact hret _ _ _ _ hk dX8_size_25
noncomputable def X8_orders_4 (x0 : Int32) (x1 : Int32) (x2 : Int32) (S : St) : Option (((Int32 × Int32) ⊕ Int32) × St) :=
  oi (x0 < x2) (some (.inr x1, S)) (some (.inl ((x1 * x2), (x2 + (1 : Int32))), S))
set_option maxHeartbeats 4000000 in
set_option maxRecDepth 20000 in
theorem xX8_orders_4 {F : Cx} (hF : Ok F cX8_orders RX8) (hN : nLF F 3) (hR : RmF F 0 0) {x0 : Int32} {x1 : Int32} {x2 : Int32} {K : ((Int32 × Int32) ⊕ Int32) → St → Prop} (hag : ∀ (a : Int32 × Int32) (S : St), K (.inl a) S → X F 0 4 [(0, .int x0), (1, .int a.1), (2, .int a.2)] [] S) (hex19 : ∀ (q : Int32) (S : St), K (.inr q) S → X F 0 19 [(0, .int x0), (1, .int q)] [] S) {S : St} {r : (Int32 × Int32) ⊕ Int32} {S1 : St} (h : X8_orders_4 x0 x1 x2 S = some (r, S1)) (hk : K r S1) : X F 0 4 [(0, .int x0), (1, .int x1), (2, .int x2)] [] S := by
  unfold X8_orders_4 at h
  refine x_iload_n hF dX8_orders_4 rfl rfl ?_
  refine x_iload_n hF dX8_orders_5 rfl rfl ?_
  refine x_icmp_gt (tgt := 19) hF dX8_orders_6 (by decide) (fun hc => ?_) (fun hc => ?_)
  · have h := oi_pos hc h
    obtain ⟨rfl, rfl⟩ := sm h
    exact x_sub (hex19 _ _ hk) ⟨rfl, rfl, trivial⟩
  · have h := oi_neg hc h
    refine x_iload_n hF dX8_orders_9 rfl rfl ?_
    refine x_iload_n hF dX8_orders_10 rfl rfl ?_
    refine x_imul hF dX8_orders_11 ?_
    refine x_istore_n [(1, _), (0, _), (2, _)] hF hN dX8_orders_12 rfl (by decide) rfl ?_
    refine x_iinc [(2, _), (1, _), (0, _)] (v := (1 : Int32)) hF hN dX8_orders_13 rfl (by decide) (by decide) rfl ?_
    refine x_goto (tgt := 4) hF dX8_orders_16 (by decide) ?_
    obtain ⟨rfl, rfl⟩ := sm h
    exact x_sub (hag _ _ hk) ⟨rfl, rfl, rfl, trivial⟩
noncomputable def X8_orders_4L (x0 : Int32) (a : Int32 × Int32) (S : St) : Option (Int32 × St) :=
  lp (fun (a : Int32 × Int32) (S : St) => X8_orders_4 x0 a.1 a.2 S) a S
theorem xX8_orders_4L {F : Cx} (hF : Ok F cX8_orders RX8) (hN : nLF F 3) (hR : RmF F 0 0) {x0 : Int32} {K : Int32 → St → Prop} (hex19 : ∀ (q : Int32) (S : St), K (q) S → X F 0 19 [(0, .int x0), (1, .int q)] [] S) {a : Int32 × Int32} {S : St} {b : Int32} {S1 : St} (h : X8_orders_4L x0 a S = some (b, S1)) (hk : K b S1) : X F 0 4 [(0, .int x0), (1, .int a.1), (2, .int a.2)] [] S := by
  unfold X8_orders_4L at h
  exact lp_rule (Xh := fun (a : Int32 × Int32) (S : St) => X F 0 4 [(0, .int x0), (1, .int a.1), (2, .int a.2)] [] S) (K := K) (fun a S r S1 h hk => xX8_orders_4 hF hN hR (K := fun r S => match r with | .inl a => X F 0 4 [(0, .int x0), (1, .int a.1), (2, .int a.2)] [] S | .inr b => K b S) (fun _ _ h => h) (fun q S h => hex19 q S h) h (by cases r <;> exact hk)) h hk
noncomputable def X8_orders_21 (x0 : Int32) (x1 : Int32) (x2 : Int32) (S : St) : Option (((Int32 × Int32) ⊕ Int32) × St) :=
  oi (((5 : Int32) - x0) < x2) (some (.inr x1, S)) (some (.inl ((x1 * x2), (x2 + (1 : Int32))), S))
set_option maxHeartbeats 4000000 in
set_option maxRecDepth 20000 in
theorem xX8_orders_21 {F : Cx} (hF : Ok F cX8_orders RX8) (hN : nLF F 3) (hR : RmF F 0 0) {x0 : Int32} {x1 : Int32} {x2 : Int32} {K : ((Int32 × Int32) ⊕ Int32) → St → Prop} (hag : ∀ (a : Int32 × Int32) (S : St), K (.inl a) S → X F 0 21 [(0, .int x0), (1, .int a.1), (2, .int a.2)] [] S) (hex38 : ∀ (q : Int32) (S : St), K (.inr q) S → X F 0 38 [(1, .int q)] [] S) {S : St} {r : (Int32 × Int32) ⊕ Int32} {S1 : St} (h : X8_orders_21 x0 x1 x2 S = some (r, S1)) (hk : K r S1) : X F 0 21 [(0, .int x0), (1, .int x1), (2, .int x2)] [] S := by
  unfold X8_orders_21 at h
  refine x_iload_n hF dX8_orders_21 rfl rfl ?_
  refine x_iconst (v := (5 : Int32)) hF dX8_orders_22 (by decide) ?_
  refine x_iload_n hF dX8_orders_23 rfl rfl ?_
  refine x_isub hF dX8_orders_24 ?_
  refine x_icmp_gt (tgt := 38) hF dX8_orders_25 (by decide) (fun hc => ?_) (fun hc => ?_)
  · have h := oi_pos hc h
    obtain ⟨rfl, rfl⟩ := sm h
    exact x_sub (hex38 _ _ hk) ⟨rfl, trivial⟩
  · have h := oi_neg hc h
    refine x_iload_n hF dX8_orders_28 rfl rfl ?_
    refine x_iload_n hF dX8_orders_29 rfl rfl ?_
    refine x_imul hF dX8_orders_30 ?_
    refine x_istore_n [(1, _), (0, _), (2, _)] hF hN dX8_orders_31 rfl (by decide) rfl ?_
    refine x_iinc [(2, _), (1, _), (0, _)] (v := (1 : Int32)) hF hN dX8_orders_32 rfl (by decide) (by decide) rfl ?_
    refine x_goto (tgt := 21) hF dX8_orders_35 (by decide) ?_
    obtain ⟨rfl, rfl⟩ := sm h
    exact x_sub (hag _ _ hk) ⟨rfl, rfl, rfl, trivial⟩
noncomputable def X8_orders_21L (x0 : Int32) (a : Int32 × Int32) (S : St) : Option (Int32 × St) :=
  lp (fun (a : Int32 × Int32) (S : St) => X8_orders_21 x0 a.1 a.2 S) a S
theorem xX8_orders_21L {F : Cx} (hF : Ok F cX8_orders RX8) (hN : nLF F 3) (hR : RmF F 0 0) {x0 : Int32} {K : Int32 → St → Prop} (hex38 : ∀ (q : Int32) (S : St), K (q) S → X F 0 38 [(1, .int q)] [] S) {a : Int32 × Int32} {S : St} {b : Int32} {S1 : St} (h : X8_orders_21L x0 a S = some (b, S1)) (hk : K b S1) : X F 0 21 [(0, .int x0), (1, .int a.1), (2, .int a.2)] [] S := by
  unfold X8_orders_21L at h
  exact lp_rule (Xh := fun (a : Int32 × Int32) (S : St) => X F 0 21 [(0, .int x0), (1, .int a.1), (2, .int a.2)] [] S) (K := K) (fun a S r S1 h hk => xX8_orders_21 hF hN hR (K := fun r S => match r with | .inl a => X F 0 21 [(0, .int x0), (1, .int a.1), (2, .int a.2)] [] S | .inr b => K b S) (fun _ _ h => h) (fun q S h => hex38 q S h) h (by cases r <;> exact hk)) h hk
noncomputable def X8_orders (x0 : Int32) (S : St) : Option (Int32 × St) :=
  ob (X8_orders_4L x0 ((1 : Int32), (2 : Int32)) S) (fun b1 S2 => ob (X8_orders_21L x0 (b1, (2 : Int32)) S2) (fun b3 S4 => some (b3, S4)))
set_option maxHeartbeats 4000000 in
set_option maxRecDepth 20000 in
theorem ctX8_orders {l : Launch} {G : Ga} {x0 : Int32} (hl : l.stackTraces = false) {S : St} {r : Int32} {S1 : St} (h : X8_orders x0 S = some (r, S1)) : CT l G 0 yX8_orders cX8_orders 3 (some .int) [.int x0] S (some (.int r)) S1 := by
  refine ct_of hl (by decide) (Nat.le_of_ble_eq_true rfl) (fun F hFl hFG hF hN hR hret => ?_)
  subst hFl hFG
  show X F 0 0 [(0, .int x0)] [] S
  have hret : ∀ (v : Int32) (S : St) (pc : Nat) (ls : List (Nat × Value)), (v = r ∧ S = S1) → decode cX8_orders pc = .ok (.ireturn, 1) → X F 0 pc ls [.int v] S := fun v S2 pc ls hq hd => by obtain ⟨rfl, rfl⟩ := hq; exact hret.1 pc ls v rfl rfl hd
  have hk : r = r ∧ S1 = S1 := ⟨rfl, rfl⟩
  unfold X8_orders at h
  refine x_iconst (v := (1 : Int32)) hF dX8_orders_0 (by decide) ?_
  refine x_istore_n [(1, _), (0, _)] hF hN dX8_orders_1 rfl (by decide) rfl ?_
  refine x_iconst (v := (2 : Int32)) hF dX8_orders_2 (by decide) ?_
  refine x_istore_n [(2, _), (1, _), (0, _)] hF hN dX8_orders_3 rfl (by decide) rfl ?_
  obtain ⟨b1, S2, hlb1, h⟩ := ob_some h
  refine x_sub (xX8_orders_4L hF hN hR (K := fun bb SS => bb = b1 ∧ SS = S2) ?_ hlb1 ⟨rfl, rfl⟩) ⟨rfl, rfl, rfl, trivial⟩
  rintro _ _ ⟨rfl, rfl⟩
  refine x_iconst (v := (2 : Int32)) hF dX8_orders_19 (by decide) ?_
  refine x_istore_n [(2, _), (0, _), (1, _)] hF hN dX8_orders_20 rfl (by decide) rfl ?_
  obtain ⟨b3, S4, hlb3, h⟩ := ob_some h
  refine x_sub (xX8_orders_21L hF hN hR (K := fun bb SS => bb = b3 ∧ SS = S4) ?_ hlb3 ⟨rfl, rfl⟩) ⟨rfl, rfl, rfl, trivial⟩
  rintro _ _ ⟨rfl, rfl⟩
  refine x_iload_n hF dX8_orders_38 rfl rfl ?_
  obtain ⟨rfl, rfl⟩ := sm h
  exact hret _ _ _ _ hk dX8_orders_39
noncomputable def X8_contributions_58 (x1 : Int32) (x2 : Int32) (x5 : Int32) (z0 : Int64) (z1 : Int64) (z2 : Int32) (S : St) : Option (((Int64 × Int32) ⊕ Int64) × St) :=
  some (.inl ((z0 + (z1 * z2.toInt64)), (x5 + (1 : Int32))), S)
set_option maxHeartbeats 4000000 in
set_option maxRecDepth 20000 in
theorem xX8_contributions_58 {F : Cx} (hF : Ok F cX8_contributions RX8) (hN : nLF F 6) (hR : RmF F 1 0) {x1 : Int32} {x2 : Int32} {x5 : Int32} {z0 : Int64} {z1 : Int64} {z2 : Int32} {K : ((Int64 × Int32) ⊕ Int64) → St → Prop} (hag : ∀ (a : Int64 × Int32) (S : St), K (.inl a) S → X F 0 5 [(0, .ref (gA F 75)), (1, .int x1), (2, .int x2), (3, .long a.1), (5, .int a.2)] [] S) (hex68 : ∀ (q : Int64) (S : St), K (.inr q) S → X F 0 68 [(3, .long q)] [] S) {S : St} {r : (Int64 × Int32) ⊕ Int64} {S1 : St} (h : X8_contributions_58 x1 x2 x5 z0 z1 z2 S = some (r, S1)) (hk : K r S1) : X F 0 58 [(0, .ref (gA F 75)), (1, .int x1), (2, .int x2), (5, .int x5)] [.int z2, .long z1, .long z0] S := by
  unfold X8_contributions_58 at h
  refine x_i2l hF dX8_contributions_58 ?_
  refine x_lmul hF dX8_contributions_59 ?_
  refine x_ladd hF dX8_contributions_60 ?_
  refine x_lstore_n [(3, _), (0, _), (1, _), (2, _), (5, _)] hF hN dX8_contributions_61 rfl (by decide) rfl ?_
  refine x_iinc [(5, _), (3, _), (0, _), (1, _), (2, _)] (v := (1 : Int32)) hF hN dX8_contributions_62 rfl (by decide) (by decide) rfl ?_
  refine x_goto (tgt := 5) hF dX8_contributions_65 (by decide) ?_
  obtain ⟨rfl, rfl⟩ := sm h
  exact x_sub (hag _ _ hk) ⟨rfl, rfl, rfl, rfl, rfl, trivial⟩
noncomputable def X8_contributions_5 (x1 : Int32) (x2 : Int32) (x3 : Int64) (x5 : Int32) (S : St) : Option (((Int64 × Int32) ⊕ Int64) × St) :=
  oi ((63 : Int32) < x5) (some (.inr x3, S)) (oi (((x5 >>> (x1 &&& 31)) &&& (1 : Int32)) = 0) (og (inb (x5 ||| ((1 : Int32) <<< (x1 &&& 31))) 64) (og (inb x5 64) (oi (x2 = 0) (X8_contributions_58 x1 x2 x5 x3 (((gi S 86 (ix (x5 ||| ((1 : Int32) <<< (x1 &&& 31))))) - (gi S 86 (ix x5))).toInt64) (1 : Int32) S) (ob (X8_size x5 S) (fun r1 S2 => ob (X8_orders r1 S2) (fun r3 S4 => X8_contributions_58 x1 x2 x5 x3 (((gi S 86 (ix (x5 ||| ((1 : Int32) <<< (x1 &&& 31))))) - (gi S 86 (ix x5))).toInt64) r3 S4)))))) (some (.inl (x3, (x5 + (1 : Int32))), S)))
set_option maxHeartbeats 4000000 in
set_option maxRecDepth 20000 in
theorem xX8_contributions_5 {F : Cx} (hF : Ok F cX8_contributions RX8) (hN : nLF F 6) (hR : RmF F 1 0) {x1 : Int32} {x2 : Int32} {x3 : Int64} {x5 : Int32} {K : ((Int64 × Int32) ⊕ Int64) → St → Prop} (hag : ∀ (a : Int64 × Int32) (S : St), K (.inl a) S → X F 0 5 [(0, .ref (gA F 75)), (1, .int x1), (2, .int x2), (3, .long a.1), (5, .int a.2)] [] S) (hex68 : ∀ (q : Int64) (S : St), K (.inr q) S → X F 0 68 [(3, .long q)] [] S) {S : St} {r : (Int64 × Int32) ⊕ Int64} {S1 : St} (h : X8_contributions_5 x1 x2 x3 x5 S = some (r, S1)) (hk : K r S1) : X F 0 5 [(0, .ref (gA F 75)), (1, .int x1), (2, .int x2), (3, .long x3), (5, .int x5)] [] S := by
  unfold X8_contributions_5 at h
  refine x_iload hF dX8_contributions_5 rfl ?_
  refine x_bipush (v := (63 : Int32)) hF dX8_contributions_7 (by decide) ?_
  refine x_icmp_gt (tgt := 68) hF dX8_contributions_9 (by decide) (fun hc => ?_) (fun hc => ?_)
  · have h := oi_pos hc h
    obtain ⟨rfl, rfl⟩ := sm h
    exact x_sub (hex68 _ _ hk) ⟨rfl, trivial⟩
  · have h := oi_neg hc h
    refine x_iload hF dX8_contributions_12 rfl ?_
    refine x_iload_n hF dX8_contributions_14 rfl rfl ?_
    refine x_ishr hF dX8_contributions_15 ?_
    refine x_iconst (v := (1 : Int32)) hF dX8_contributions_16 (by decide) ?_
    refine x_iand hF dX8_contributions_17 ?_
    refine x_if_ne (tgt := 62) hF dX8_contributions_18 (by decide) (fun hc => ?_) (fun hc => ?_)
    · have h := oi_neg hc h
      refine x_iinc [(5, _), (0, _), (1, _), (2, _), (3, _)] (v := (1 : Int32)) hF hN dX8_contributions_62 rfl (by decide) (by decide) rfl ?_
      refine x_goto (tgt := 5) hF dX8_contributions_65 (by decide) ?_
      obtain ⟨rfl, rfl⟩ := sm h
      exact x_sub (hag _ _ hk) ⟨rfl, rfl, rfl, rfl, rfl, trivial⟩
    · have h := oi_pos hc h
      refine x_lload_n hF dX8_contributions_21 rfl rfl ?_
      refine x_aload_n hF dX8_contributions_22 rfl rfl ?_
      refine x_getr hF sh75 22 rfl ck7 (by decide) (by decide) tw_1064 rfl dX8_contributions_23 ?_
      refine x_iload hF dX8_contributions_26 rfl ?_
      refine x_iconst (v := (1 : Int32)) hF dX8_contributions_28 (by decide) ?_
      refine x_iload_n hF dX8_contributions_29 rfl rfl ?_
      refine x_ishl hF dX8_contributions_30 ?_
      refine x_ior hF dX8_contributions_31 ?_
      obtain ⟨hg, h⟩ := og_some h
      refine x_iald hF sh86 (by decide) hg rfl dX8_contributions_32 ?_
      refine x_aload_n hF dX8_contributions_33 rfl rfl ?_
      refine x_getr hF sh75 22 rfl ck7 (by decide) (by decide) tw_1064 rfl dX8_contributions_34 ?_
      refine x_iload hF dX8_contributions_37 rfl ?_
      obtain ⟨hg, h⟩ := og_some h
      refine x_iald hF sh86 (by decide) hg rfl dX8_contributions_39 ?_
      refine x_isub hF dX8_contributions_40 ?_
      refine x_i2l hF dX8_contributions_41 ?_
      refine x_iload_n hF dX8_contributions_42 rfl rfl ?_
      refine x_if_eq (tgt := 57) hF dX8_contributions_43 (by decide) (fun hc => ?_) (fun hc => ?_)
      · have h := oi_pos hc h
        refine x_iconst (v := (1 : Int32)) hF dX8_contributions_57 (by decide) ?_
        exact x_sub (xX8_contributions_58 hF hN hR (K := K) hag hex68 h hk) ⟨rfl, rfl, rfl, rfl, trivial⟩
      · have h := oi_neg hc h
        refine x_iload hF dX8_contributions_46 rfl ?_
        obtain ⟨r1, S2, hcall, h⟩ := ob_some h
        refine x_cSi hF hN hR (ctX8_size hF.tr hcall) mwX8_size tw_1352 tw_1351 ⟨by decide, by decide⟩ rfl rfl (Nat.le_of_ble_eq_true rfl) dX8_contributions_48 ?_
        obtain ⟨r3, S4, hcall, h⟩ := ob_some h
        refine x_cSi hF hN hR (ctX8_orders hF.tr hcall) mwX8_orders tw_1355 tw_1354 ⟨by decide, by decide⟩ rfl rfl (Nat.le_of_ble_eq_true rfl) dX8_contributions_51 ?_
        refine x_goto (tgt := 58) hF dX8_contributions_54 (by decide) ?_
        exact x_sub (xX8_contributions_58 hF hN hR (K := K) hag hex68 h hk) ⟨rfl, rfl, rfl, rfl, trivial⟩
noncomputable def X8_contributions_5L (x1 : Int32) (x2 : Int32) (a : Int64 × Int32) (S : St) : Option (Int64 × St) :=
  lp (fun (a : Int64 × Int32) (S : St) => X8_contributions_5 x1 x2 a.1 a.2 S) a S
theorem xX8_contributions_5L {F : Cx} (hF : Ok F cX8_contributions RX8) (hN : nLF F 6) (hR : RmF F 1 0) {x1 : Int32} {x2 : Int32} {K : Int64 → St → Prop} (hex68 : ∀ (q : Int64) (S : St), K (q) S → X F 0 68 [(3, .long q)] [] S) {a : Int64 × Int32} {S : St} {b : Int64} {S1 : St} (h : X8_contributions_5L x1 x2 a S = some (b, S1)) (hk : K b S1) : X F 0 5 [(0, .ref (gA F 75)), (1, .int x1), (2, .int x2), (3, .long a.1), (5, .int a.2)] [] S := by
  unfold X8_contributions_5L at h
  exact lp_rule (Xh := fun (a : Int64 × Int32) (S : St) => X F 0 5 [(0, .ref (gA F 75)), (1, .int x1), (2, .int x2), (3, .long a.1), (5, .int a.2)] [] S) (K := K) (fun a S r S1 h hk => xX8_contributions_5 hF hN hR (K := fun r S => match r with | .inl a => X F 0 5 [(0, .ref (gA F 75)), (1, .int x1), (2, .int x2), (3, .long a.1), (5, .int a.2)] [] S | .inr b => K b S) (fun _ _ h => h) (fun q S h => hex68 q S h) h (by cases r <;> exact hk)) h hk
noncomputable def X8_contributions (x1 : Int32) (x2 : Int32) (S : St) : Option (Int64 × St) :=
  ob (X8_contributions_5L x1 x2 ((0 : Int64), (0 : Int32)) S) (fun b5 S6 => some (b5, S6))
set_option maxHeartbeats 4000000 in
set_option maxRecDepth 20000 in
theorem ctX8_contributions {l : Launch} {G : Ga} {x1 : Int32} {x2 : Int32} (hl : l.stackTraces = false) {S : St} {r : Int64} {S1 : St} (h : X8_contributions x1 x2 S = some (r, S1)) : CT l G 1 yX8_contributions cX8_contributions 6 (some .long) [.ref (G.1 75), .int x1, .int x2] S (some (.long r)) S1 := by
  refine ct_of hl (by decide) (Nat.le_of_ble_eq_true rfl) (fun F hFl hFG hF hN hR hret => ?_)
  subst hFl hFG
  show X F 0 0 [(0, .ref (gA F 75)), (1, .int x1), (2, .int x2)] [] S
  have hret : ∀ (v : Int64) (S : St) (pc : Nat) (ls : List (Nat × Value)), (v = r ∧ S = S1) → decode cX8_contributions pc = .ok (.lreturn, 1) → X F 0 pc ls [.long v] S := fun v S2 pc ls hq hd => by obtain ⟨rfl, rfl⟩ := hq; exact hret.2.2.1 pc ls v rfl rfl hd
  have hk : r = r ∧ S1 = S1 := ⟨rfl, rfl⟩
  unfold X8_contributions at h
  refine x_lconst (v := (0 : Int64)) hF dX8_contributions_0 (by decide) ?_
  refine x_lstore_n [(3, _), (0, _), (1, _), (2, _)] hF hN dX8_contributions_1 rfl (by decide) rfl ?_
  refine x_iconst (v := (0 : Int32)) hF dX8_contributions_2 (by decide) ?_
  refine x_istore [(5, _), (3, _), (0, _), (1, _), (2, _)] hF hN dX8_contributions_3 (by decide) rfl ?_
  obtain ⟨b5, S6, hlb5, h⟩ := ob_some h
  refine x_sub (xX8_contributions_5L hF hN hR (K := fun bb SS => bb = b5 ∧ SS = S6) ?_ hlb5 ⟨rfl, rfl⟩) ⟨rfl, rfl, rfl, rfl, rfl, trivial⟩
  rintro _ _ ⟨rfl, rfl⟩
  refine x_lload_n hF dX8_contributions_68 rfl rfl ?_
  obtain ⟨rfl, rfl⟩ := sm h
  exact hret _ _ _ _ hk dX8_contributions_69
noncomputable def X8_partOf_17 (x0 : Int64) (x2 : Int64) (x4 : Int32) (x5 : Int64) (x7 : Int64) (S : St) : Option (((Int64 × Int64) ⊕ Int64) × St) :=
  oi ((lg_cmp x5 (0 : Int64)) = 0) (some (.inr x7, S)) (og (¬ x5 = 0) (some (.inl ((x7 - x7 / x5 * x5), x5), S)))
set_option maxHeartbeats 4000000 in
set_option maxRecDepth 20000 in
theorem xX8_partOf_17 {F : Cx} (hF : Ok F cX8_partOf RX8) (hN : nLF F 11) (hR : RmF F 0 0) {x0 : Int64} {x2 : Int64} {x4 : Int32} {x5 : Int64} {x7 : Int64} {K : ((Int64 × Int64) ⊕ Int64) → St → Prop} (hag : ∀ (a : Int64 × Int64) (S : St), K (.inl a) S → X F 0 17 [(0, .long x0), (2, .long x2), (4, .int x4), (5, .long a.1), (7, .long a.2)] [] S) (hex42 : ∀ (q : Int64) (S : St), K (.inr q) S → X F 0 42 [(0, .long x0), (2, .long x2), (4, .int x4), (7, .long q)] [] S) {S : St} {r : (Int64 × Int64) ⊕ Int64} {S1 : St} (h : X8_partOf_17 x0 x2 x4 x5 x7 S = some (r, S1)) (hk : K r S1) : X F 0 17 [(0, .long x0), (2, .long x2), (4, .int x4), (5, .long x5), (7, .long x7)] [] S := by
  unfold X8_partOf_17 at h
  refine x_lload hF dX8_partOf_17 rfl ?_
  refine x_lconst (v := (0 : Int64)) hF dX8_partOf_19 (by decide) ?_
  refine x_lcmp hF dX8_partOf_20 ?_
  refine x_if_eq (tgt := 42) hF dX8_partOf_21 (by decide) (fun hc => ?_) (fun hc => ?_)
  · have h := oi_pos hc h
    obtain ⟨rfl, rfl⟩ := sm h
    exact x_sub (hex42 _ _ hk) ⟨rfl, rfl, rfl, rfl, trivial⟩
  · have h := oi_neg hc h
    refine x_lload hF dX8_partOf_24 rfl ?_
    refine x_lload hF dX8_partOf_26 rfl ?_
    obtain ⟨hg, h⟩ := og_some h
    refine x_lrem hF dX8_partOf_28 hg ?_
    refine x_lstore [(9, _), (0, _), (2, _), (4, _), (5, _), (7, _)] hF hN dX8_partOf_29 (by decide) rfl ?_
    refine x_lload hF dX8_partOf_31 rfl ?_
    refine x_lstore [(7, _), (9, _), (0, _), (2, _), (4, _), (5, _)] hF hN dX8_partOf_33 (by decide) rfl ?_
    refine x_lload hF dX8_partOf_35 rfl ?_
    refine x_lstore [(5, _), (7, _), (9, _), (0, _), (2, _), (4, _)] hF hN dX8_partOf_37 (by decide) rfl ?_
    refine x_goto (tgt := 17) hF dX8_partOf_39 (by decide) ?_
    obtain ⟨rfl, rfl⟩ := sm h
    exact x_sub (hag _ _ hk) ⟨rfl, rfl, rfl, rfl, rfl, trivial⟩
noncomputable def X8_partOf_17L (x0 : Int64) (x2 : Int64) (x4 : Int32) (a : Int64 × Int64) (S : St) : Option (Int64 × St) :=
  lp (fun (a : Int64 × Int64) (S : St) => X8_partOf_17 x0 x2 x4 a.1 a.2 S) a S
theorem xX8_partOf_17L {F : Cx} (hF : Ok F cX8_partOf RX8) (hN : nLF F 11) (hR : RmF F 0 0) {x0 : Int64} {x2 : Int64} {x4 : Int32} {K : Int64 → St → Prop} (hex42 : ∀ (q : Int64) (S : St), K (q) S → X F 0 42 [(0, .long x0), (2, .long x2), (4, .int x4), (7, .long q)] [] S) {a : Int64 × Int64} {S : St} {b : Int64} {S1 : St} (h : X8_partOf_17L x0 x2 x4 a S = some (b, S1)) (hk : K b S1) : X F 0 17 [(0, .long x0), (2, .long x2), (4, .int x4), (5, .long a.1), (7, .long a.2)] [] S := by
  unfold X8_partOf_17L at h
  exact lp_rule (Xh := fun (a : Int64 × Int64) (S : St) => X F 0 17 [(0, .long x0), (2, .long x2), (4, .int x4), (5, .long a.1), (7, .long a.2)] [] S) (K := K) (fun a S r S1 h hk => xX8_partOf_17 hF hN hR (K := fun r S => match r with | .inl a => X F 0 17 [(0, .long x0), (2, .long x2), (4, .int x4), (5, .long a.1), (7, .long a.2)] [] S | .inr b => K b S) (fun _ _ h => h) (fun q S h => hex42 q S h) h (by cases r <;> exact hk)) h hk
noncomputable def X8_partOf_12 (x0 : Int64) (x2 : Int64) (x4 : Int32) (z0 : Int64) (S : St) : Option (Int32 × St) :=
  ob (X8_partOf_17L x0 x2 x4 (z0, x2) S) (fun b1 S2 => oi (x4 = 0) (og (¬ b1 = 0) (some ((x0 / b1).toInt32, S2))) (og (¬ b1 = 0) (some ((x2 / b1).toInt32, S2))))
set_option maxHeartbeats 4000000 in
set_option maxRecDepth 20000 in
theorem xX8_partOf_12 {F : Cx} (hF : Ok F cX8_partOf RX8) (hN : nLF F 11) (hR : RmF F 0 0) {x0 : Int64} {x2 : Int64} {x4 : Int32} {z0 : Int64} {K : Int32 → St → Prop} (hret : ∀ (v : Int32) (S : St) (pc : Nat) (ls : List (Nat × Value)), K v S → decode cX8_partOf pc = .ok (.ireturn, 1) → X F 0 pc ls [.int v] S) {S : St} {r : Int32} {S1 : St} (h : X8_partOf_12 x0 x2 x4 z0 S = some (r, S1)) (hk : K r S1) : X F 0 12 [(0, .long x0), (2, .long x2), (4, .int x4)] [.long z0] S := by
  unfold X8_partOf_12 at h
  refine x_lstore [(5, _), (0, _), (2, _), (4, _)] hF hN dX8_partOf_12 (by decide) rfl ?_
  refine x_lload_n hF dX8_partOf_14 rfl rfl ?_
  refine x_lstore [(7, _), (5, _), (0, _), (2, _), (4, _)] hF hN dX8_partOf_15 (by decide) rfl ?_
  obtain ⟨b1, S2, hlb1, h⟩ := ob_some h
  refine x_sub (xX8_partOf_17L hF hN hR (K := fun bb SS => bb = b1 ∧ SS = S2) ?_ hlb1 ⟨rfl, rfl⟩) ⟨rfl, rfl, rfl, rfl, rfl, trivial⟩
  rintro _ _ ⟨rfl, rfl⟩
  refine x_iload hF dX8_partOf_42 rfl ?_
  refine x_if_ne (tgt := 54) hF dX8_partOf_44 (by decide) (fun hc => ?_) (fun hc => ?_)
  · have h := oi_neg hc h
    refine x_lload_n hF dX8_partOf_54 rfl rfl ?_
    refine x_lload hF dX8_partOf_55 rfl ?_
    obtain ⟨hg, h⟩ := og_some h
    refine x_ldiv hF dX8_partOf_57 hg ?_
    refine x_l2i hF dX8_partOf_58 ?_
    obtain ⟨rfl, rfl⟩ := sm h
    exact hret _ _ _ _ hk dX8_partOf_59
  · have h := oi_pos hc h
    refine x_lload_n hF dX8_partOf_47 rfl rfl ?_
    refine x_lload hF dX8_partOf_48 rfl ?_
    obtain ⟨hg, h⟩ := og_some h
    refine x_ldiv hF dX8_partOf_50 hg ?_
    refine x_goto (tgt := 58) hF dX8_partOf_51 (by decide) ?_
    refine x_l2i hF dX8_partOf_58 ?_
    obtain ⟨rfl, rfl⟩ := sm h
    exact hret _ _ _ _ hk dX8_partOf_59
noncomputable def X8_partOf (x0 : Int64) (x2 : Int64) (x4 : Int32) (S : St) : Option (Int32 × St) :=
  oi (0 ≤ (lg_cmp x0 (0 : Int64))) (X8_partOf_12 x0 x2 x4 x0 S) (X8_partOf_12 x0 x2 x4 (-x0) S)
set_option maxHeartbeats 4000000 in
set_option maxRecDepth 20000 in
theorem ctX8_partOf {l : Launch} {G : Ga} {x0 : Int64} {x2 : Int64} {x4 : Int32} (hl : l.stackTraces = false) {S : St} {r : Int32} {S1 : St} (h : X8_partOf x0 x2 x4 S = some (r, S1)) : CT l G 0 yX8_partOf cX8_partOf 11 (some .int) [.long x0, .long x2, .int x4] S (some (.int r)) S1 := by
  refine ct_of hl (by decide) (Nat.le_of_ble_eq_true rfl) (fun F hFl hFG hF hN hR hret => ?_)
  subst hFl hFG
  show X F 0 0 [(0, .long x0), (2, .long x2), (4, .int x4)] [] S
  have hret : ∀ (v : Int32) (S : St) (pc : Nat) (ls : List (Nat × Value)), (v = r ∧ S = S1) → decode cX8_partOf pc = .ok (.ireturn, 1) → X F 0 pc ls [.int v] S := fun v S2 pc ls hq hd => by obtain ⟨rfl, rfl⟩ := hq; exact hret.1 pc ls v rfl rfl hd
  have hk : r = r ∧ S1 = S1 := ⟨rfl, rfl⟩
  unfold X8_partOf at h
  refine x_lload_n hF dX8_partOf_0 rfl rfl ?_
  refine x_lconst (v := (0 : Int64)) hF dX8_partOf_1 (by decide) ?_
  refine x_lcmp hF dX8_partOf_2 ?_
  refine x_if_ge (tgt := 11) hF dX8_partOf_3 (by decide) (fun hc => ?_) (fun hc => ?_)
  · have h := oi_pos hc h
    refine x_lload_n hF dX8_partOf_11 rfl rfl ?_
    exact x_sub (xX8_partOf_12 hF hN hR (K := fun v9 S9 => v9 = r ∧ S9 = S1) hret h hk) ⟨rfl, rfl, rfl, trivial⟩
  · have h := oi_neg hc h
    refine x_lload_n hF dX8_partOf_6 rfl rfl ?_
    refine x_lneg hF dX8_partOf_7 ?_
    refine x_goto (tgt := 12) hF dX8_partOf_8 (by decide) ?_
    exact x_sub (xX8_partOf_12 hF hN hR (K := fun v9 S9 => v9 = r ∧ S9 = S1) hret h hk) ⟨rfl, rfl, rfl, trivial⟩
noncomputable def X8_contribution_37 (x1 : Int32) (x2 : Int32) (z1 : Int32) (S : St) : Option (Int32 × St) :=
  ob (X8_refuses z1 S) (fun r5 S6 => oi (r5 = 0) (ob (X8_worthOf (x2 ||| ((1 : Int32) <<< (x1 &&& 31))) (-1 : Int32) S6) (fun r7 S8 => ob (X8_worthOf x2 (-1 : Int32) S8) (fun r9 S10 => some ((r7 - r9), S10)))) (some ((0 : Int32), S6)))
set_option maxHeartbeats 4000000 in
set_option maxRecDepth 20000 in
theorem xX8_contribution_37 {F : Cx} (hF : Ok F cX8_contribution RX8) (hN : nLF F 4) (hR : RmF F 8 0) {x1 : Int32} {x2 : Int32} {z1 : Int32} {K : Int32 → St → Prop} (hret : ∀ (v : Int32) (S : St) (pc : Nat) (ls : List (Nat × Value)), K v S → decode cX8_contribution pc = .ok (.ireturn, 1) → X F 0 pc ls [.int v] S) {S : St} {r : Int32} {S1 : St} (h : X8_contribution_37 x1 x2 z1 S = some (r, S1)) (hk : K r S1) : X F 0 37 [(0, .ref (gA F 75)), (1, .int x1), (2, .int x2)] [.int z1, .ref (gA F 75)] S := by
  unfold X8_contribution_37 at h
  obtain ⟨r5, S6, hcall, h⟩ := ob_some h
  refine x_cVi hF hN hR (ctX8_refuses hF.tr hcall) mwX8_refuses miX8_refuses sh75 ck7 (by decide) tw_1154 ⟨by decide, by decide⟩ rfl rfl (Nat.le_of_ble_eq_true rfl) dX8_contribution_37 ?_
  refine x_if_eq (tgt := 45) hF dX8_contribution_40 (by decide) (fun hc => ?_) (fun hc => ?_)
  · have h := oi_pos hc h
    refine x_aload_n hF dX8_contribution_45 rfl rfl ?_
    refine x_iload_n hF dX8_contribution_46 rfl rfl ?_
    refine x_iconst (v := (1 : Int32)) hF dX8_contribution_47 (by decide) ?_
    refine x_iload_n hF dX8_contribution_48 rfl rfl ?_
    refine x_ishl hF dX8_contribution_49 ?_
    refine x_ior hF dX8_contribution_50 ?_
    refine x_iconst (v := (-1 : Int32)) hF dX8_contribution_51 (by decide) ?_
    obtain ⟨r7, S8, hcall, h⟩ := ob_some h
    refine x_cVi hF hN hR (ctX8_worthOf hF.tr hcall) mwX8_worthOf miX8_worthOf sh75 ck7 (by decide) tw_1327 ⟨by decide, by decide⟩ rfl rfl (Nat.le_of_ble_eq_true rfl) dX8_contribution_52 ?_
    refine x_aload_n hF dX8_contribution_55 rfl rfl ?_
    refine x_iload_n hF dX8_contribution_56 rfl rfl ?_
    refine x_iconst (v := (-1 : Int32)) hF dX8_contribution_57 (by decide) ?_
    obtain ⟨r9, S10, hcall, h⟩ := ob_some h
    refine x_cVi hF hN hR (ctX8_worthOf hF.tr hcall) mwX8_worthOf miX8_worthOf sh75 ck7 (by decide) tw_1327 ⟨by decide, by decide⟩ rfl rfl (Nat.le_of_ble_eq_true rfl) dX8_contribution_58 ?_
    refine x_isub hF dX8_contribution_61 ?_
    obtain ⟨rfl, rfl⟩ := sm h
    exact hret _ _ _ _ hk dX8_contribution_62
  · have h := oi_neg hc h
    refine x_iconst (v := (0 : Int32)) hF dX8_contribution_43 (by decide) ?_
    obtain ⟨rfl, rfl⟩ := sm h
    exact hret _ _ _ _ hk dX8_contribution_44
noncomputable def X8_contribution_36 (x1 : Int32) (x2 : Int32) (S : St) : Option (Int32 × St) :=
  X8_contribution_37 x1 x2 (2 : Int32) S
set_option maxHeartbeats 4000000 in
set_option maxRecDepth 20000 in
theorem xX8_contribution_36 {F : Cx} (hF : Ok F cX8_contribution RX8) (hN : nLF F 4) (hR : RmF F 8 0) {x1 : Int32} {x2 : Int32} {K : Int32 → St → Prop} (hret : ∀ (v : Int32) (S : St) (pc : Nat) (ls : List (Nat × Value)), K v S → decode cX8_contribution pc = .ok (.ireturn, 1) → X F 0 pc ls [.int v] S) {S : St} {r : Int32} {S1 : St} (h : X8_contribution_36 x1 x2 S = some (r, S1)) (hk : K r S1) : X F 0 36 [(0, .ref (gA F 75)), (1, .int x1), (2, .int x2)] [.ref (gA F 75)] S := by
  unfold X8_contribution_36 at h
  refine x_iconst (v := (2 : Int32)) hF dX8_contribution_36 (by decide) ?_
  exact x_sub (xX8_contribution_37 hF hN hR (K := K) hret h hk) ⟨rfl, rfl, rfl, trivial⟩
noncomputable def X8_contribution (x1 : Int32) (x2 : Int32) (S : St) : Option (Int32 × St) :=
  ob (X8_isFlow x1 S) (fun r1 S2 => oi (r1 = 0) (X8_contribution_37 x1 x2 (1 : Int32) S2) (ob (X8_in x2 (0 : Int32) (63 : Int32) S2) (fun r3 S4 => oi (r3 = 0) (X8_contribution_36 x1 x2 S4) (oi (((x2 >>> (x1 &&& 31)) &&& (1 : Int32)) = 0) (X8_contribution_37 x1 x2 (0 : Int32) S4) (X8_contribution_36 x1 x2 S4)))))
set_option maxHeartbeats 4000000 in
set_option maxRecDepth 20000 in
theorem ctX8_contribution {l : Launch} {G : Ga} {x1 : Int32} {x2 : Int32} (hl : l.stackTraces = false) {S : St} {r : Int32} {S1 : St} (h : X8_contribution x1 x2 S = some (r, S1)) : CT l G 8 yX8_contribution cX8_contribution 4 (some .int) [.ref (G.1 75), .int x1, .int x2] S (some (.int r)) S1 := by
  refine ct_of hl (by decide) (Nat.le_of_ble_eq_true rfl) (fun F hFl hFG hF hN hR hret => ?_)
  subst hFl hFG
  show X F 0 0 [(0, .ref (gA F 75)), (1, .int x1), (2, .int x2)] [] S
  have hret : ∀ (v : Int32) (S : St) (pc : Nat) (ls : List (Nat × Value)), (v = r ∧ S = S1) → decode cX8_contribution pc = .ok (.ireturn, 1) → X F 0 pc ls [.int v] S := fun v S2 pc ls hq hd => by obtain ⟨rfl, rfl⟩ := hq; exact hret.1 pc ls v rfl rfl hd
  have hk : r = r ∧ S1 = S1 := ⟨rfl, rfl⟩
  unfold X8_contribution at h
  refine x_iload_n hF dX8_contribution_0 rfl rfl ?_
  obtain ⟨r1, S2, hcall, h⟩ := ob_some h
  refine x_cSi hF hN hR (ctX8_isFlow hF.tr hcall) mwX8_isFlow tw_1149 tw_1148 ⟨by decide, by decide⟩ rfl rfl (Nat.le_of_ble_eq_true rfl) dX8_contribution_1 ?_
  refine x_istore_n [(3, _), (0, _), (1, _), (2, _)] hF hN dX8_contribution_4 rfl (by decide) rfl ?_
  refine x_aload_n hF dX8_contribution_5 rfl rfl ?_
  refine x_iload_n hF dX8_contribution_6 rfl rfl ?_
  refine x_if_ne (tgt := 14) hF dX8_contribution_7 (by decide) (fun hc => ?_) (fun hc => ?_)
  · have h := oi_neg hc h
    refine x_iload_n hF dX8_contribution_14 rfl rfl ?_
    refine x_iconst (v := (0 : Int32)) hF dX8_contribution_15 (by decide) ?_
    refine x_bipush (v := (63 : Int32)) hF dX8_contribution_16 (by decide) ?_
    obtain ⟨r3, S4, hcall, h⟩ := ob_some h
    refine x_cSi hF hN hR (ctX8_in hF.tr hcall) mwX8_in tw_1152 tw_1151 ⟨by decide, by decide⟩ rfl rfl (Nat.le_of_ble_eq_true rfl) dX8_contribution_18 ?_
    refine x_if_eq (tgt := 36) hF dX8_contribution_21 (by decide) (fun hc => ?_) (fun hc => ?_)
    · have h := oi_pos hc h
      exact x_sub (xX8_contribution_36 hF hN hR (K := fun v9 S9 => v9 = r ∧ S9 = S1) hret h hk) ⟨rfl, rfl, rfl, trivial⟩
    · have h := oi_neg hc h
      refine x_iload_n hF dX8_contribution_24 rfl rfl ?_
      refine x_iload_n hF dX8_contribution_25 rfl rfl ?_
      refine x_ishr hF dX8_contribution_26 ?_
      refine x_iconst (v := (1 : Int32)) hF dX8_contribution_27 (by decide) ?_
      refine x_iand hF dX8_contribution_28 ?_
      refine x_if_ne (tgt := 36) hF dX8_contribution_29 (by decide) (fun hc => ?_) (fun hc => ?_)
      · have h := oi_neg hc h
        exact x_sub (xX8_contribution_36 hF hN hR (K := fun v9 S9 => v9 = r ∧ S9 = S1) hret h hk) ⟨rfl, rfl, rfl, trivial⟩
      · have h := oi_pos hc h
        refine x_iconst (v := (0 : Int32)) hF dX8_contribution_32 (by decide) ?_
        refine x_goto (tgt := 37) hF dX8_contribution_33 (by decide) ?_
        exact x_sub (xX8_contribution_37 hF hN hR (K := fun v9 S9 => v9 = r ∧ S9 = S1) hret h hk) ⟨rfl, rfl, rfl, trivial⟩
  · have h := oi_pos hc h
    refine x_iconst (v := (1 : Int32)) hF dX8_contribution_10 (by decide) ?_
    refine x_goto (tgt := 37) hF dX8_contribution_11 (by decide) ?_
    exact x_sub (xX8_contribution_37 hF hN hR (K := fun v9 S9 => v9 = r ∧ S9 = S1) hret h hk) ⟨rfl, rfl, rfl, trivial⟩
noncomputable def X8_blame_26 (x1 : Int32) (x2 : Int32) (z1 : Int32) (S : St) : Option (Int32 × St) :=
  ob (X8_refuses z1 S) (fun r5 S6 => oi (r5 = 0) (ob (X8_weighsAll (-1 : Int32) S6) (fun r7 S8 => ob (X8_contributions x1 (1 : Int32) S8) (fun r9 S10 => ob (X8_partOf r9 (720 : Int64) x2 S10) (fun r11 S12 => some (r11, S12))))) (some ((0 : Int32), S6)))
set_option maxHeartbeats 4000000 in
set_option maxRecDepth 20000 in
theorem xX8_blame_26 {F : Cx} (hF : Ok F cX8_blame RX8) (hN : nLF F 3) (hR : RmF F 9 0) {x1 : Int32} {x2 : Int32} {z1 : Int32} {K : Int32 → St → Prop} (hret : ∀ (v : Int32) (S : St) (pc : Nat) (ls : List (Nat × Value)), K v S → decode cX8_blame pc = .ok (.ireturn, 1) → X F 0 pc ls [.int v] S) {S : St} {r : Int32} {S1 : St} (h : X8_blame_26 x1 x2 z1 S = some (r, S1)) (hk : K r S1) : X F 0 26 [(0, .ref (gA F 75)), (1, .int x1), (2, .int x2)] [.int z1, .ref (gA F 75)] S := by
  unfold X8_blame_26 at h
  obtain ⟨r5, S6, hcall, h⟩ := ob_some h
  refine x_cVi hF hN hR (ctX8_refuses hF.tr hcall) mwX8_refuses miX8_refuses sh75 ck7 (by decide) tw_1154 ⟨by decide, by decide⟩ rfl rfl (Nat.le_of_ble_eq_true rfl) dX8_blame_26 ?_
  refine x_if_eq (tgt := 34) hF dX8_blame_29 (by decide) (fun hc => ?_) (fun hc => ?_)
  · have h := oi_pos hc h
    refine x_aload_n hF dX8_blame_34 rfl rfl ?_
    refine x_iconst (v := (-1 : Int32)) hF dX8_blame_35 (by decide) ?_
    obtain ⟨r7, S8, hcall, h⟩ := ob_some h
    refine x_cVv hF hN hR (ctX8_weighsAll hF.tr hcall) mwX8_weighsAll miX8_weighsAll sh75 ck7 (by decide) tw_1343 ⟨by decide, by decide⟩ rfl rfl (Nat.le_of_ble_eq_true rfl) dX8_blame_36 ?_
    refine x_aload_n hF dX8_blame_39 rfl rfl ?_
    refine x_iload_n hF dX8_blame_40 rfl rfl ?_
    refine x_iconst (v := (1 : Int32)) hF dX8_blame_41 (by decide) ?_
    obtain ⟨r9, S10, hcall, h⟩ := ob_some h
    refine x_cVl hF hN hR (ctX8_contributions hF.tr hcall) mwX8_contributions miX8_contributions sh75 ck7 (by decide) tw_1347 ⟨by decide, by decide⟩ rfl rfl (Nat.le_of_ble_eq_true rfl) dX8_blame_42 ?_
    refine x_ldc2_w (v := (720 : Int64)) hF dX8_blame_45 tw_1357 ?_
    refine x_iload_n hF dX8_blame_48 rfl rfl ?_
    obtain ⟨r11, S12, hcall, h⟩ := ob_some h
    refine x_cSi hF hN hR (ctX8_partOf hF.tr hcall) mwX8_partOf tw_1359 tw_1358 ⟨by decide, by decide⟩ rfl rfl (Nat.le_of_ble_eq_true rfl) dX8_blame_49 ?_
    obtain ⟨rfl, rfl⟩ := sm h
    exact hret _ _ _ _ hk dX8_blame_52
  · have h := oi_neg hc h
    refine x_iconst (v := (0 : Int32)) hF dX8_blame_32 (by decide) ?_
    obtain ⟨rfl, rfl⟩ := sm h
    exact hret _ _ _ _ hk dX8_blame_33
noncomputable def X8_blame (x1 : Int32) (x2 : Int32) (S : St) : Option (Int32 × St) :=
  ob (X8_isFlow x1 S) (fun r1 S2 => oi (r1 = 0) (X8_blame_26 x1 x2 (1 : Int32) S2) (ob (X8_in x2 (0 : Int32) (1 : Int32) S2) (fun r3 S4 => oi (r3 = 0) (X8_blame_26 x1 x2 (2 : Int32) S4) (X8_blame_26 x1 x2 (0 : Int32) S4))))
set_option maxHeartbeats 4000000 in
set_option maxRecDepth 20000 in
theorem ctX8_blame {l : Launch} {G : Ga} {x1 : Int32} {x2 : Int32} (hl : l.stackTraces = false) {S : St} {r : Int32} {S1 : St} (h : X8_blame x1 x2 S = some (r, S1)) : CT l G 9 yX8_blame cX8_blame 3 (some .int) [.ref (G.1 75), .int x1, .int x2] S (some (.int r)) S1 := by
  refine ct_of hl (by decide) (Nat.le_of_ble_eq_true rfl) (fun F hFl hFG hF hN hR hret => ?_)
  subst hFl hFG
  show X F 0 0 [(0, .ref (gA F 75)), (1, .int x1), (2, .int x2)] [] S
  have hret : ∀ (v : Int32) (S : St) (pc : Nat) (ls : List (Nat × Value)), (v = r ∧ S = S1) → decode cX8_blame pc = .ok (.ireturn, 1) → X F 0 pc ls [.int v] S := fun v S2 pc ls hq hd => by obtain ⟨rfl, rfl⟩ := hq; exact hret.1 pc ls v rfl rfl hd
  have hk : r = r ∧ S1 = S1 := ⟨rfl, rfl⟩
  unfold X8_blame at h
  refine x_aload_n hF dX8_blame_0 rfl rfl ?_
  refine x_iload_n hF dX8_blame_1 rfl rfl ?_
  obtain ⟨r1, S2, hcall, h⟩ := ob_some h
  refine x_cSi hF hN hR (ctX8_isFlow hF.tr hcall) mwX8_isFlow tw_1149 tw_1148 ⟨by decide, by decide⟩ rfl rfl (Nat.le_of_ble_eq_true rfl) dX8_blame_2 ?_
  refine x_if_ne (tgt := 12) hF dX8_blame_5 (by decide) (fun hc => ?_) (fun hc => ?_)
  · have h := oi_neg hc h
    refine x_iload_n hF dX8_blame_12 rfl rfl ?_
    refine x_iconst (v := (0 : Int32)) hF dX8_blame_13 (by decide) ?_
    refine x_iconst (v := (1 : Int32)) hF dX8_blame_14 (by decide) ?_
    obtain ⟨r3, S4, hcall, h⟩ := ob_some h
    refine x_cSi hF hN hR (ctX8_in hF.tr hcall) mwX8_in tw_1152 tw_1151 ⟨by decide, by decide⟩ rfl rfl (Nat.le_of_ble_eq_true rfl) dX8_blame_15 ?_
    refine x_if_eq (tgt := 25) hF dX8_blame_18 (by decide) (fun hc => ?_) (fun hc => ?_)
    · have h := oi_pos hc h
      refine x_iconst (v := (2 : Int32)) hF dX8_blame_25 (by decide) ?_
      exact x_sub (xX8_blame_26 hF hN hR (K := fun v9 S9 => v9 = r ∧ S9 = S1) hret h hk) ⟨rfl, rfl, rfl, trivial⟩
    · have h := oi_neg hc h
      refine x_iconst (v := (0 : Int32)) hF dX8_blame_21 (by decide) ?_
      refine x_goto (tgt := 26) hF dX8_blame_22 (by decide) ?_
      exact x_sub (xX8_blame_26 hF hN hR (K := fun v9 S9 => v9 = r ∧ S9 = S1) hret h hk) ⟨rfl, rfl, rfl, trivial⟩
  · have h := oi_pos hc h
    refine x_iconst (v := (1 : Int32)) hF dX8_blame_8 (by decide) ?_
    refine x_goto (tgt := 26) hF dX8_blame_9 (by decide) ?_
    exact x_sub (xX8_blame_26 hF hN hR (K := fun v9 S9 => v9 = r ∧ S9 = S1) hret h hk) ⟨rfl, rfl, rfl, trivial⟩
noncomputable def X8_blameFor_33 (x1 : Int32) (x2 : Int32) (x3 : Int32) (z1 : Int32) (S : St) : Option (Int32 × St) :=
  ob (X8_refuses z1 S) (fun r3 S4 => oi (r3 = 0) (ob (X8_weighsAll x2 S4) (fun r5 S6 => ob (X8_contributions x1 (1 : Int32) S6) (fun r7 S8 => ob (X8_partOf r7 (720 : Int64) x3 S8) (fun r9 S10 => some (r9, S10))))) (some ((0 : Int32), S4)))
set_option maxHeartbeats 4000000 in
set_option maxRecDepth 20000 in
theorem xX8_blameFor_33 {F : Cx} (hF : Ok F cX8_blameFor RX8) (hN : nLF F 4) (hR : RmF F 9 0) {x1 : Int32} {x2 : Int32} {x3 : Int32} {z1 : Int32} {K : Int32 → St → Prop} (hret : ∀ (v : Int32) (S : St) (pc : Nat) (ls : List (Nat × Value)), K v S → decode cX8_blameFor pc = .ok (.ireturn, 1) → X F 0 pc ls [.int v] S) {S : St} {r : Int32} {S1 : St} (h : X8_blameFor_33 x1 x2 x3 z1 S = some (r, S1)) (hk : K r S1) : X F 0 33 [(0, .ref (gA F 75)), (1, .int x1), (2, .int x2), (3, .int x3)] [.int z1, .ref (gA F 75)] S := by
  unfold X8_blameFor_33 at h
  obtain ⟨r3, S4, hcall, h⟩ := ob_some h
  refine x_cVi hF hN hR (ctX8_refuses hF.tr hcall) mwX8_refuses miX8_refuses sh75 ck7 (by decide) tw_1154 ⟨by decide, by decide⟩ rfl rfl (Nat.le_of_ble_eq_true rfl) dX8_blameFor_33 ?_
  refine x_if_eq (tgt := 41) hF dX8_blameFor_36 (by decide) (fun hc => ?_) (fun hc => ?_)
  · have h := oi_pos hc h
    refine x_aload_n hF dX8_blameFor_41 rfl rfl ?_
    refine x_iload_n hF dX8_blameFor_42 rfl rfl ?_
    obtain ⟨r5, S6, hcall, h⟩ := ob_some h
    refine x_cVv hF hN hR (ctX8_weighsAll hF.tr hcall) mwX8_weighsAll miX8_weighsAll sh75 ck7 (by decide) tw_1343 ⟨by decide, by decide⟩ rfl rfl (Nat.le_of_ble_eq_true rfl) dX8_blameFor_43 ?_
    refine x_aload_n hF dX8_blameFor_46 rfl rfl ?_
    refine x_iload_n hF dX8_blameFor_47 rfl rfl ?_
    refine x_iconst (v := (1 : Int32)) hF dX8_blameFor_48 (by decide) ?_
    obtain ⟨r7, S8, hcall, h⟩ := ob_some h
    refine x_cVl hF hN hR (ctX8_contributions hF.tr hcall) mwX8_contributions miX8_contributions sh75 ck7 (by decide) tw_1347 ⟨by decide, by decide⟩ rfl rfl (Nat.le_of_ble_eq_true rfl) dX8_blameFor_49 ?_
    refine x_ldc2_w (v := (720 : Int64)) hF dX8_blameFor_52 tw_1357 ?_
    refine x_iload_n hF dX8_blameFor_55 rfl rfl ?_
    obtain ⟨r9, S10, hcall, h⟩ := ob_some h
    refine x_cSi hF hN hR (ctX8_partOf hF.tr hcall) mwX8_partOf tw_1359 tw_1358 ⟨by decide, by decide⟩ rfl rfl (Nat.le_of_ble_eq_true rfl) dX8_blameFor_56 ?_
    obtain ⟨rfl, rfl⟩ := sm h
    exact hret _ _ _ _ hk dX8_blameFor_59
  · have h := oi_neg hc h
    refine x_iconst (v := (0 : Int32)) hF dX8_blameFor_39 (by decide) ?_
    obtain ⟨rfl, rfl⟩ := sm h
    exact hret _ _ _ _ hk dX8_blameFor_40
noncomputable def X8_blameFor_15 (x1 : Int32) (x2 : Int32) (x3 : Int32) (S : St) : Option (Int32 × St) :=
  X8_blameFor_33 x1 x2 x3 (1 : Int32) S
set_option maxHeartbeats 4000000 in
set_option maxRecDepth 20000 in
theorem xX8_blameFor_15 {F : Cx} (hF : Ok F cX8_blameFor RX8) (hN : nLF F 4) (hR : RmF F 9 0) {x1 : Int32} {x2 : Int32} {x3 : Int32} {K : Int32 → St → Prop} (hret : ∀ (v : Int32) (S : St) (pc : Nat) (ls : List (Nat × Value)), K v S → decode cX8_blameFor pc = .ok (.ireturn, 1) → X F 0 pc ls [.int v] S) {S : St} {r : Int32} {S1 : St} (h : X8_blameFor_15 x1 x2 x3 S = some (r, S1)) (hk : K r S1) : X F 0 15 [(0, .ref (gA F 75)), (1, .int x1), (2, .int x2), (3, .int x3)] [.ref (gA F 75)] S := by
  unfold X8_blameFor_15 at h
  refine x_iconst (v := (1 : Int32)) hF dX8_blameFor_15 (by decide) ?_
  refine x_goto (tgt := 33) hF dX8_blameFor_16 (by decide) ?_
  exact x_sub (xX8_blameFor_33 hF hN hR (K := K) hret h hk) ⟨rfl, rfl, rfl, rfl, trivial⟩
noncomputable def X8_blameFor (x1 : Int32) (x2 : Int32) (x3 : Int32) (S : St) : Option (Int32 × St) :=
  ob (X8_isFlow x1 S) (fun r1 S2 => oi (r1 = 0) (X8_blameFor_15 x1 x2 x3 S2) (ob (X8_isFlow x2 S2) (fun r11 S12 => oi (r11 = 0) (X8_blameFor_15 x1 x2 x3 S12) (ob (X8_in x3 (0 : Int32) (1 : Int32) S12) (fun r13 S14 => oi (r13 = 0) (X8_blameFor_33 x1 x2 x3 (2 : Int32) S14) (X8_blameFor_33 x1 x2 x3 (0 : Int32) S14))))))
set_option maxHeartbeats 4000000 in
set_option maxRecDepth 20000 in
theorem ctX8_blameFor {l : Launch} {G : Ga} {x1 : Int32} {x2 : Int32} {x3 : Int32} (hl : l.stackTraces = false) {S : St} {r : Int32} {S1 : St} (h : X8_blameFor x1 x2 x3 S = some (r, S1)) : CT l G 9 yX8_blameFor cX8_blameFor 4 (some .int) [.ref (G.1 75), .int x1, .int x2, .int x3] S (some (.int r)) S1 := by
  refine ct_of hl (by decide) (Nat.le_of_ble_eq_true rfl) (fun F hFl hFG hF hN hR hret => ?_)
  subst hFl hFG
  show X F 0 0 [(0, .ref (gA F 75)), (1, .int x1), (2, .int x2), (3, .int x3)] [] S
  have hret : ∀ (v : Int32) (S : St) (pc : Nat) (ls : List (Nat × Value)), (v = r ∧ S = S1) → decode cX8_blameFor pc = .ok (.ireturn, 1) → X F 0 pc ls [.int v] S := fun v S2 pc ls hq hd => by obtain ⟨rfl, rfl⟩ := hq; exact hret.1 pc ls v rfl rfl hd
  have hk : r = r ∧ S1 = S1 := ⟨rfl, rfl⟩
  unfold X8_blameFor at h
  refine x_aload_n hF dX8_blameFor_0 rfl rfl ?_
  refine x_iload_n hF dX8_blameFor_1 rfl rfl ?_
  obtain ⟨r1, S2, hcall, h⟩ := ob_some h
  refine x_cSi hF hN hR (ctX8_isFlow hF.tr hcall) mwX8_isFlow tw_1149 tw_1148 ⟨by decide, by decide⟩ rfl rfl (Nat.le_of_ble_eq_true rfl) dX8_blameFor_2 ?_
  refine x_if_eq (tgt := 15) hF dX8_blameFor_5 (by decide) (fun hc => ?_) (fun hc => ?_)
  · have h := oi_pos hc h
    exact x_sub (xX8_blameFor_15 hF hN hR (K := fun v9 S9 => v9 = r ∧ S9 = S1) hret h hk) ⟨rfl, rfl, rfl, rfl, trivial⟩
  · have h := oi_neg hc h
    refine x_iload_n hF dX8_blameFor_8 rfl rfl ?_
    obtain ⟨r11, S12, hcall, h⟩ := ob_some h
    refine x_cSi hF hN hR (ctX8_isFlow hF.tr hcall) mwX8_isFlow tw_1149 tw_1148 ⟨by decide, by decide⟩ rfl rfl (Nat.le_of_ble_eq_true rfl) dX8_blameFor_9 ?_
    refine x_if_ne (tgt := 19) hF dX8_blameFor_12 (by decide) (fun hc => ?_) (fun hc => ?_)
    · have h := oi_neg hc h
      refine x_iload_n hF dX8_blameFor_19 rfl rfl ?_
      refine x_iconst (v := (0 : Int32)) hF dX8_blameFor_20 (by decide) ?_
      refine x_iconst (v := (1 : Int32)) hF dX8_blameFor_21 (by decide) ?_
      obtain ⟨r13, S14, hcall, h⟩ := ob_some h
      refine x_cSi hF hN hR (ctX8_in hF.tr hcall) mwX8_in tw_1152 tw_1151 ⟨by decide, by decide⟩ rfl rfl (Nat.le_of_ble_eq_true rfl) dX8_blameFor_22 ?_
      refine x_if_eq (tgt := 32) hF dX8_blameFor_25 (by decide) (fun hc => ?_) (fun hc => ?_)
      · have h := oi_pos hc h
        refine x_iconst (v := (2 : Int32)) hF dX8_blameFor_32 (by decide) ?_
        exact x_sub (xX8_blameFor_33 hF hN hR (K := fun v9 S9 => v9 = r ∧ S9 = S1) hret h hk) ⟨rfl, rfl, rfl, rfl, trivial⟩
      · have h := oi_neg hc h
        refine x_iconst (v := (0 : Int32)) hF dX8_blameFor_28 (by decide) ?_
        refine x_goto (tgt := 33) hF dX8_blameFor_29 (by decide) ?_
        exact x_sub (xX8_blameFor_33 hF hN hR (K := fun v9 S9 => v9 = r ∧ S9 = S1) hret h hk) ⟨rfl, rfl, rfl, rfl, trivial⟩
    · have h := oi_pos hc h
      exact x_sub (xX8_blameFor_15 hF hN hR (K := fun v9 S9 => v9 = r ∧ S9 = S1) hret h hk) ⟨rfl, rfl, rfl, rfl, trivial⟩
noncomputable def X8_index_26 (x1 : Int32) (x2 : Int32) (z1 : Int32) (S : St) : Option (Int32 × St) :=
  ob (X8_refuses z1 S) (fun r5 S6 => oi (r5 = 0) (ob (X8_weighsAll (-1 : Int32) S6) (fun r7 S8 => ob (X8_contributions x1 (0 : Int32) S8) (fun r9 S10 => ob (X8_partOf r9 (32 : Int64) x2 S10) (fun r11 S12 => some (r11, S12))))) (some ((0 : Int32), S6)))
set_option maxHeartbeats 4000000 in
set_option maxRecDepth 20000 in
theorem xX8_index_26 {F : Cx} (hF : Ok F cX8_index RX8) (hN : nLF F 3) (hR : RmF F 9 0) {x1 : Int32} {x2 : Int32} {z1 : Int32} {K : Int32 → St → Prop} (hret : ∀ (v : Int32) (S : St) (pc : Nat) (ls : List (Nat × Value)), K v S → decode cX8_index pc = .ok (.ireturn, 1) → X F 0 pc ls [.int v] S) {S : St} {r : Int32} {S1 : St} (h : X8_index_26 x1 x2 z1 S = some (r, S1)) (hk : K r S1) : X F 0 26 [(0, .ref (gA F 75)), (1, .int x1), (2, .int x2)] [.int z1, .ref (gA F 75)] S := by
  unfold X8_index_26 at h
  obtain ⟨r5, S6, hcall, h⟩ := ob_some h
  refine x_cVi hF hN hR (ctX8_refuses hF.tr hcall) mwX8_refuses miX8_refuses sh75 ck7 (by decide) tw_1154 ⟨by decide, by decide⟩ rfl rfl (Nat.le_of_ble_eq_true rfl) dX8_index_26 ?_
  refine x_if_eq (tgt := 34) hF dX8_index_29 (by decide) (fun hc => ?_) (fun hc => ?_)
  · have h := oi_pos hc h
    refine x_aload_n hF dX8_index_34 rfl rfl ?_
    refine x_iconst (v := (-1 : Int32)) hF dX8_index_35 (by decide) ?_
    obtain ⟨r7, S8, hcall, h⟩ := ob_some h
    refine x_cVv hF hN hR (ctX8_weighsAll hF.tr hcall) mwX8_weighsAll miX8_weighsAll sh75 ck7 (by decide) tw_1343 ⟨by decide, by decide⟩ rfl rfl (Nat.le_of_ble_eq_true rfl) dX8_index_36 ?_
    refine x_aload_n hF dX8_index_39 rfl rfl ?_
    refine x_iload_n hF dX8_index_40 rfl rfl ?_
    refine x_iconst (v := (0 : Int32)) hF dX8_index_41 (by decide) ?_
    obtain ⟨r9, S10, hcall, h⟩ := ob_some h
    refine x_cVl hF hN hR (ctX8_contributions hF.tr hcall) mwX8_contributions miX8_contributions sh75 ck7 (by decide) tw_1347 ⟨by decide, by decide⟩ rfl rfl (Nat.le_of_ble_eq_true rfl) dX8_index_42 ?_
    refine x_ldc2_w (v := (32 : Int64)) hF dX8_index_45 tw_1369 ?_
    refine x_iload_n hF dX8_index_48 rfl rfl ?_
    obtain ⟨r11, S12, hcall, h⟩ := ob_some h
    refine x_cSi hF hN hR (ctX8_partOf hF.tr hcall) mwX8_partOf tw_1359 tw_1358 ⟨by decide, by decide⟩ rfl rfl (Nat.le_of_ble_eq_true rfl) dX8_index_49 ?_
    obtain ⟨rfl, rfl⟩ := sm h
    exact hret _ _ _ _ hk dX8_index_52
  · have h := oi_neg hc h
    refine x_iconst (v := (0 : Int32)) hF dX8_index_32 (by decide) ?_
    obtain ⟨rfl, rfl⟩ := sm h
    exact hret _ _ _ _ hk dX8_index_33
noncomputable def X8_index (x1 : Int32) (x2 : Int32) (S : St) : Option (Int32 × St) :=
  ob (X8_isFlow x1 S) (fun r1 S2 => oi (r1 = 0) (X8_index_26 x1 x2 (1 : Int32) S2) (ob (X8_in x2 (0 : Int32) (1 : Int32) S2) (fun r3 S4 => oi (r3 = 0) (X8_index_26 x1 x2 (2 : Int32) S4) (X8_index_26 x1 x2 (0 : Int32) S4))))
set_option maxHeartbeats 4000000 in
set_option maxRecDepth 20000 in
theorem ctX8_index {l : Launch} {G : Ga} {x1 : Int32} {x2 : Int32} (hl : l.stackTraces = false) {S : St} {r : Int32} {S1 : St} (h : X8_index x1 x2 S = some (r, S1)) : CT l G 9 yX8_index cX8_index 3 (some .int) [.ref (G.1 75), .int x1, .int x2] S (some (.int r)) S1 := by
  refine ct_of hl (by decide) (Nat.le_of_ble_eq_true rfl) (fun F hFl hFG hF hN hR hret => ?_)
  subst hFl hFG
  show X F 0 0 [(0, .ref (gA F 75)), (1, .int x1), (2, .int x2)] [] S
  have hret : ∀ (v : Int32) (S : St) (pc : Nat) (ls : List (Nat × Value)), (v = r ∧ S = S1) → decode cX8_index pc = .ok (.ireturn, 1) → X F 0 pc ls [.int v] S := fun v S2 pc ls hq hd => by obtain ⟨rfl, rfl⟩ := hq; exact hret.1 pc ls v rfl rfl hd
  have hk : r = r ∧ S1 = S1 := ⟨rfl, rfl⟩
  unfold X8_index at h
  refine x_aload_n hF dX8_index_0 rfl rfl ?_
  refine x_iload_n hF dX8_index_1 rfl rfl ?_
  obtain ⟨r1, S2, hcall, h⟩ := ob_some h
  refine x_cSi hF hN hR (ctX8_isFlow hF.tr hcall) mwX8_isFlow tw_1149 tw_1148 ⟨by decide, by decide⟩ rfl rfl (Nat.le_of_ble_eq_true rfl) dX8_index_2 ?_
  refine x_if_ne (tgt := 12) hF dX8_index_5 (by decide) (fun hc => ?_) (fun hc => ?_)
  · have h := oi_neg hc h
    refine x_iload_n hF dX8_index_12 rfl rfl ?_
    refine x_iconst (v := (0 : Int32)) hF dX8_index_13 (by decide) ?_
    refine x_iconst (v := (1 : Int32)) hF dX8_index_14 (by decide) ?_
    obtain ⟨r3, S4, hcall, h⟩ := ob_some h
    refine x_cSi hF hN hR (ctX8_in hF.tr hcall) mwX8_in tw_1152 tw_1151 ⟨by decide, by decide⟩ rfl rfl (Nat.le_of_ble_eq_true rfl) dX8_index_15 ?_
    refine x_if_eq (tgt := 25) hF dX8_index_18 (by decide) (fun hc => ?_) (fun hc => ?_)
    · have h := oi_pos hc h
      refine x_iconst (v := (2 : Int32)) hF dX8_index_25 (by decide) ?_
      exact x_sub (xX8_index_26 hF hN hR (K := fun v9 S9 => v9 = r ∧ S9 = S1) hret h hk) ⟨rfl, rfl, rfl, trivial⟩
    · have h := oi_neg hc h
      refine x_iconst (v := (0 : Int32)) hF dX8_index_21 (by decide) ?_
      refine x_goto (tgt := 26) hF dX8_index_22 (by decide) ?_
      exact x_sub (xX8_index_26 hF hN hR (K := fun v9 S9 => v9 = r ∧ S9 = S1) hret h hk) ⟨rfl, rfl, rfl, trivial⟩
  · have h := oi_pos hc h
    refine x_iconst (v := (1 : Int32)) hF dX8_index_8 (by decide) ?_
    refine x_goto (tgt := 26) hF dX8_index_9 (by decide) ?_
    exact x_sub (xX8_index_26 hF hN hR (K := fun v9 S9 => v9 = r ∧ S9 = S1) hret h hk) ⟨rfl, rfl, rfl, trivial⟩
noncomputable def X8_interaction_67 (x3 : Int32) (x4 : Int32) (x5 : Int32) (x6 : Int64) (x8 : Int32) (S : St) : Option (((Int64 × Int32) ⊕ Int64) × St) :=
  oi ((63 : Int32) < x8) (some (.inr x6, S)) (oi ((x8 &&& x4) = 0) (oi ((x8 &&& x5) = 0) (og (inb ((x8 ||| x4) ||| x5) 64) (og (inb (x8 ||| x4) 64) (og (inb (x8 ||| x5) 64) (og (inb x8 64) (some (.inl ((x6 + ((((gi S 86 (ix ((x8 ||| x4) ||| x5))) - (gi S 86 (ix (x8 ||| x4)))) - (gi S 86 (ix (x8 ||| x5)))) + (gi S 86 (ix x8))).toInt64), (x8 + (1 : Int32))), S)))))) (some (.inl (x6, (x8 + (1 : Int32))), S))) (some (.inl (x6, (x8 + (1 : Int32))), S)))
set_option maxHeartbeats 4000000 in
set_option maxRecDepth 20000 in
theorem xX8_interaction_67 {F : Cx} (hF : Ok F cX8_interaction RX8) (hN : nLF F 9) (hR : RmF F 9 0) {x3 : Int32} {x4 : Int32} {x5 : Int32} {x6 : Int64} {x8 : Int32} {K : ((Int64 × Int32) ⊕ Int64) → St → Prop} (hag : ∀ (a : Int64 × Int32) (S : St), K (.inl a) S → X F 0 67 [(0, .ref (gA F 75)), (3, .int x3), (4, .int x4), (5, .int x5), (6, .long a.1), (8, .int a.2)] [] S) (hex145 : ∀ (q : Int64) (S : St), K (.inr q) S → X F 0 145 [(3, .int x3), (6, .long q)] [] S) {S : St} {r : (Int64 × Int32) ⊕ Int64} {S1 : St} (h : X8_interaction_67 x3 x4 x5 x6 x8 S = some (r, S1)) (hk : K r S1) : X F 0 67 [(0, .ref (gA F 75)), (3, .int x3), (4, .int x4), (5, .int x5), (6, .long x6), (8, .int x8)] [] S := by
  unfold X8_interaction_67 at h
  refine x_iload hF dX8_interaction_67 rfl ?_
  refine x_bipush (v := (63 : Int32)) hF dX8_interaction_69 (by decide) ?_
  refine x_icmp_gt (tgt := 145) hF dX8_interaction_71 (by decide) (fun hc => ?_) (fun hc => ?_)
  · have h := oi_pos hc h
    obtain ⟨rfl, rfl⟩ := sm h
    exact x_sub (hex145 _ _ hk) ⟨rfl, rfl, trivial⟩
  · have h := oi_neg hc h
    refine x_iload hF dX8_interaction_74 rfl ?_
    refine x_iload hF dX8_interaction_76 rfl ?_
    refine x_iand hF dX8_interaction_78 ?_
    refine x_if_ne (tgt := 139) hF dX8_interaction_79 (by decide) (fun hc => ?_) (fun hc => ?_)
    · have h := oi_neg hc h
      refine x_iinc [(8, _), (0, _), (3, _), (4, _), (5, _), (6, _)] (v := (1 : Int32)) hF hN dX8_interaction_139 rfl (by decide) (by decide) rfl ?_
      refine x_goto (tgt := 67) hF dX8_interaction_142 (by decide) ?_
      obtain ⟨rfl, rfl⟩ := sm h
      exact x_sub (hag _ _ hk) ⟨rfl, rfl, rfl, rfl, rfl, rfl, trivial⟩
    · have h := oi_pos hc h
      refine x_iload hF dX8_interaction_82 rfl ?_
      refine x_iload hF dX8_interaction_84 rfl ?_
      refine x_iand hF dX8_interaction_86 ?_
      refine x_if_ne (tgt := 139) hF dX8_interaction_87 (by decide) (fun hc => ?_) (fun hc => ?_)
      · have h := oi_neg hc h
        refine x_iinc [(8, _), (0, _), (3, _), (4, _), (5, _), (6, _)] (v := (1 : Int32)) hF hN dX8_interaction_139 rfl (by decide) (by decide) rfl ?_
        refine x_goto (tgt := 67) hF dX8_interaction_142 (by decide) ?_
        obtain ⟨rfl, rfl⟩ := sm h
        exact x_sub (hag _ _ hk) ⟨rfl, rfl, rfl, rfl, rfl, rfl, trivial⟩
      · have h := oi_pos hc h
        refine x_lload hF dX8_interaction_90 rfl ?_
        refine x_aload_n hF dX8_interaction_92 rfl rfl ?_
        refine x_getr hF sh75 22 rfl ck7 (by decide) (by decide) tw_1064 rfl dX8_interaction_93 ?_
        refine x_iload hF dX8_interaction_96 rfl ?_
        refine x_iload hF dX8_interaction_98 rfl ?_
        refine x_ior hF dX8_interaction_100 ?_
        refine x_iload hF dX8_interaction_101 rfl ?_
        refine x_ior hF dX8_interaction_103 ?_
        obtain ⟨hg, h⟩ := og_some h
        refine x_iald hF sh86 (by decide) hg rfl dX8_interaction_104 ?_
        refine x_aload_n hF dX8_interaction_105 rfl rfl ?_
        refine x_getr hF sh75 22 rfl ck7 (by decide) (by decide) tw_1064 rfl dX8_interaction_106 ?_
        refine x_iload hF dX8_interaction_109 rfl ?_
        refine x_iload hF dX8_interaction_111 rfl ?_
        refine x_ior hF dX8_interaction_113 ?_
        obtain ⟨hg, h⟩ := og_some h
        refine x_iald hF sh86 (by decide) hg rfl dX8_interaction_114 ?_
        refine x_isub hF dX8_interaction_115 ?_
        refine x_aload_n hF dX8_interaction_116 rfl rfl ?_
        refine x_getr hF sh75 22 rfl ck7 (by decide) (by decide) tw_1064 rfl dX8_interaction_117 ?_
        refine x_iload hF dX8_interaction_120 rfl ?_
        refine x_iload hF dX8_interaction_122 rfl ?_
        refine x_ior hF dX8_interaction_124 ?_
        obtain ⟨hg, h⟩ := og_some h
        refine x_iald hF sh86 (by decide) hg rfl dX8_interaction_125 ?_
        refine x_isub hF dX8_interaction_126 ?_
        refine x_aload_n hF dX8_interaction_127 rfl rfl ?_
        refine x_getr hF sh75 22 rfl ck7 (by decide) (by decide) tw_1064 rfl dX8_interaction_128 ?_
        refine x_iload hF dX8_interaction_131 rfl ?_
        obtain ⟨hg, h⟩ := og_some h
        refine x_iald hF sh86 (by decide) hg rfl dX8_interaction_133 ?_
        refine x_iadd hF dX8_interaction_134 ?_
        refine x_i2l hF dX8_interaction_135 ?_
        refine x_ladd hF dX8_interaction_136 ?_
        refine x_lstore [(6, _), (0, _), (3, _), (4, _), (5, _), (8, _)] hF hN dX8_interaction_137 (by decide) rfl ?_
        refine x_iinc [(8, _), (6, _), (0, _), (3, _), (4, _), (5, _)] (v := (1 : Int32)) hF hN dX8_interaction_139 rfl (by decide) (by decide) rfl ?_
        refine x_goto (tgt := 67) hF dX8_interaction_142 (by decide) ?_
        obtain ⟨rfl, rfl⟩ := sm h
        exact x_sub (hag _ _ hk) ⟨rfl, rfl, rfl, rfl, rfl, rfl, trivial⟩
noncomputable def X8_interaction_67L (x3 : Int32) (x4 : Int32) (x5 : Int32) (a : Int64 × Int32) (S : St) : Option (Int64 × St) :=
  lp (fun (a : Int64 × Int32) (S : St) => X8_interaction_67 x3 x4 x5 a.1 a.2 S) a S
theorem xX8_interaction_67L {F : Cx} (hF : Ok F cX8_interaction RX8) (hN : nLF F 9) (hR : RmF F 9 0) {x3 : Int32} {x4 : Int32} {x5 : Int32} {K : Int64 → St → Prop} (hex145 : ∀ (q : Int64) (S : St), K (q) S → X F 0 145 [(3, .int x3), (6, .long q)] [] S) {a : Int64 × Int32} {S : St} {b : Int64} {S1 : St} (h : X8_interaction_67L x3 x4 x5 a S = some (b, S1)) (hk : K b S1) : X F 0 67 [(0, .ref (gA F 75)), (3, .int x3), (4, .int x4), (5, .int x5), (6, .long a.1), (8, .int a.2)] [] S := by
  unfold X8_interaction_67L at h
  exact lp_rule (Xh := fun (a : Int64 × Int32) (S : St) => X F 0 67 [(0, .ref (gA F 75)), (3, .int x3), (4, .int x4), (5, .int x5), (6, .long a.1), (8, .int a.2)] [] S) (K := K) (fun a S r S1 h hk => xX8_interaction_67 hF hN hR (K := fun r S => match r with | .inl a => X F 0 67 [(0, .ref (gA F 75)), (3, .int x3), (4, .int x4), (5, .int x5), (6, .long a.1), (8, .int a.2)] [] S | .inr b => K b S) (fun _ _ h => h) (fun q S h => hex145 q S h) h (by cases r <;> exact hk)) h hk
noncomputable def X8_interaction_38 (x1 : Int32) (x2 : Int32) (x3 : Int32) (z1 : Int32) (S : St) : Option (Int32 × St) :=
  ob (X8_refuses z1 S) (fun r3 S4 => oi (r3 = 0) (ob (X8_weighsAll (-1 : Int32) S4) (fun r5 S6 => ob (X8_interaction_67L x3 ((1 : Int32) <<< (x1 &&& 31)) ((1 : Int32) <<< (x2 &&& 31)) ((0 : Int64), (0 : Int32)) S6) (fun b7 S8 => ob (X8_partOf b7 (16 : Int64) x3 S8) (fun r9 S10 => some (r9, S10))))) (some ((0 : Int32), S4)))
set_option maxHeartbeats 4000000 in
set_option maxRecDepth 20000 in
theorem xX8_interaction_38 {F : Cx} (hF : Ok F cX8_interaction RX8) (hN : nLF F 9) (hR : RmF F 9 0) {x1 : Int32} {x2 : Int32} {x3 : Int32} {z1 : Int32} {K : Int32 → St → Prop} (hret : ∀ (v : Int32) (S : St) (pc : Nat) (ls : List (Nat × Value)), K v S → decode cX8_interaction pc = .ok (.ireturn, 1) → X F 0 pc ls [.int v] S) {S : St} {r : Int32} {S1 : St} (h : X8_interaction_38 x1 x2 x3 z1 S = some (r, S1)) (hk : K r S1) : X F 0 38 [(0, .ref (gA F 75)), (1, .int x1), (2, .int x2), (3, .int x3)] [.int z1, .ref (gA F 75)] S := by
  unfold X8_interaction_38 at h
  obtain ⟨r3, S4, hcall, h⟩ := ob_some h
  refine x_cVi hF hN hR (ctX8_refuses hF.tr hcall) mwX8_refuses miX8_refuses sh75 ck7 (by decide) tw_1154 ⟨by decide, by decide⟩ rfl rfl (Nat.le_of_ble_eq_true rfl) dX8_interaction_38 ?_
  refine x_if_eq (tgt := 46) hF dX8_interaction_41 (by decide) (fun hc => ?_) (fun hc => ?_)
  · have h := oi_pos hc h
    refine x_aload_n hF dX8_interaction_46 rfl rfl ?_
    refine x_iconst (v := (-1 : Int32)) hF dX8_interaction_47 (by decide) ?_
    obtain ⟨r5, S6, hcall, h⟩ := ob_some h
    refine x_cVv hF hN hR (ctX8_weighsAll hF.tr hcall) mwX8_weighsAll miX8_weighsAll sh75 ck7 (by decide) tw_1343 ⟨by decide, by decide⟩ rfl rfl (Nat.le_of_ble_eq_true rfl) dX8_interaction_48 ?_
    refine x_iconst (v := (1 : Int32)) hF dX8_interaction_51 (by decide) ?_
    refine x_iload_n hF dX8_interaction_52 rfl rfl ?_
    refine x_ishl hF dX8_interaction_53 ?_
    refine x_istore [(4, _), (0, _), (1, _), (2, _), (3, _)] hF hN dX8_interaction_54 (by decide) rfl ?_
    refine x_iconst (v := (1 : Int32)) hF dX8_interaction_56 (by decide) ?_
    refine x_iload_n hF dX8_interaction_57 rfl rfl ?_
    refine x_ishl hF dX8_interaction_58 ?_
    refine x_istore [(5, _), (4, _), (0, _), (1, _), (2, _), (3, _)] hF hN dX8_interaction_59 (by decide) rfl ?_
    refine x_lconst (v := (0 : Int64)) hF dX8_interaction_61 (by decide) ?_
    refine x_lstore [(6, _), (5, _), (4, _), (0, _), (1, _), (2, _), (3, _)] hF hN dX8_interaction_62 (by decide) rfl ?_
    refine x_iconst (v := (0 : Int32)) hF dX8_interaction_64 (by decide) ?_
    refine x_istore [(8, _), (6, _), (5, _), (4, _), (0, _), (1, _), (2, _), (3, _)] hF hN dX8_interaction_65 (by decide) rfl ?_
    obtain ⟨b7, S8, hlb7, h⟩ := ob_some h
    refine x_sub (xX8_interaction_67L hF hN hR (K := fun bb SS => bb = b7 ∧ SS = S8) ?_ hlb7 ⟨rfl, rfl⟩) ⟨rfl, rfl, rfl, rfl, rfl, rfl, trivial⟩
    rintro _ _ ⟨rfl, rfl⟩
    refine x_lload hF dX8_interaction_145 rfl ?_
    refine x_ldc2_w (v := (16 : Int64)) hF dX8_interaction_147 tw_1374 ?_
    refine x_iload_n hF dX8_interaction_150 rfl rfl ?_
    obtain ⟨r9, S10, hcall, h⟩ := ob_some h
    refine x_cSi hF hN hR (ctX8_partOf hF.tr hcall) mwX8_partOf tw_1359 tw_1358 ⟨by decide, by decide⟩ rfl rfl (Nat.le_of_ble_eq_true rfl) dX8_interaction_151 ?_
    obtain ⟨rfl, rfl⟩ := sm h
    exact hret _ _ _ _ hk dX8_interaction_154
  · have h := oi_neg hc h
    refine x_iconst (v := (0 : Int32)) hF dX8_interaction_44 (by decide) ?_
    obtain ⟨rfl, rfl⟩ := sm h
    exact hret _ _ _ _ hk dX8_interaction_45
noncomputable def X8_interaction_15 (x1 : Int32) (x2 : Int32) (x3 : Int32) (S : St) : Option (Int32 × St) :=
  X8_interaction_38 x1 x2 x3 (1 : Int32) S
set_option maxHeartbeats 4000000 in
set_option maxRecDepth 20000 in
theorem xX8_interaction_15 {F : Cx} (hF : Ok F cX8_interaction RX8) (hN : nLF F 9) (hR : RmF F 9 0) {x1 : Int32} {x2 : Int32} {x3 : Int32} {K : Int32 → St → Prop} (hret : ∀ (v : Int32) (S : St) (pc : Nat) (ls : List (Nat × Value)), K v S → decode cX8_interaction pc = .ok (.ireturn, 1) → X F 0 pc ls [.int v] S) {S : St} {r : Int32} {S1 : St} (h : X8_interaction_15 x1 x2 x3 S = some (r, S1)) (hk : K r S1) : X F 0 15 [(0, .ref (gA F 75)), (1, .int x1), (2, .int x2), (3, .int x3)] [.ref (gA F 75)] S := by
  unfold X8_interaction_15 at h
  refine x_iconst (v := (1 : Int32)) hF dX8_interaction_15 (by decide) ?_
  refine x_goto (tgt := 38) hF dX8_interaction_16 (by decide) ?_
  exact x_sub (xX8_interaction_38 hF hN hR (K := K) hret h hk) ⟨rfl, rfl, rfl, rfl, trivial⟩
noncomputable def X8_interaction_33 (x1 : Int32) (x2 : Int32) (x3 : Int32) (S : St) : Option (Int32 × St) :=
  X8_interaction_38 x1 x2 x3 (2 : Int32) S
set_option maxHeartbeats 4000000 in
set_option maxRecDepth 20000 in
theorem xX8_interaction_33 {F : Cx} (hF : Ok F cX8_interaction RX8) (hN : nLF F 9) (hR : RmF F 9 0) {x1 : Int32} {x2 : Int32} {x3 : Int32} {K : Int32 → St → Prop} (hret : ∀ (v : Int32) (S : St) (pc : Nat) (ls : List (Nat × Value)), K v S → decode cX8_interaction pc = .ok (.ireturn, 1) → X F 0 pc ls [.int v] S) {S : St} {r : Int32} {S1 : St} (h : X8_interaction_33 x1 x2 x3 S = some (r, S1)) (hk : K r S1) : X F 0 33 [(0, .ref (gA F 75)), (1, .int x1), (2, .int x2), (3, .int x3)] [.ref (gA F 75)] S := by
  unfold X8_interaction_33 at h
  refine x_iconst (v := (2 : Int32)) hF dX8_interaction_33 (by decide) ?_
  refine x_goto (tgt := 38) hF dX8_interaction_34 (by decide) ?_
  exact x_sub (xX8_interaction_38 hF hN hR (K := K) hret h hk) ⟨rfl, rfl, rfl, rfl, trivial⟩
noncomputable def X8_interaction (x1 : Int32) (x2 : Int32) (x3 : Int32) (S : St) : Option (Int32 × St) :=
  ob (X8_isFlow x1 S) (fun r1 S2 => oi (r1 = 0) (X8_interaction_15 x1 x2 x3 S2) (ob (X8_isFlow x2 S2) (fun r11 S12 => oi (r11 = 0) (X8_interaction_15 x1 x2 x3 S12) (oi (x1 = x2) (X8_interaction_33 x1 x2 x3 S12) (ob (X8_in x3 (0 : Int32) (1 : Int32) S12) (fun r13 S14 => oi (r13 = 0) (X8_interaction_33 x1 x2 x3 S14) (X8_interaction_38 x1 x2 x3 (0 : Int32) S14)))))))
set_option maxHeartbeats 4000000 in
set_option maxRecDepth 20000 in
theorem ctX8_interaction {l : Launch} {G : Ga} {x1 : Int32} {x2 : Int32} {x3 : Int32} (hl : l.stackTraces = false) {S : St} {r : Int32} {S1 : St} (h : X8_interaction x1 x2 x3 S = some (r, S1)) : CT l G 9 yX8_interaction cX8_interaction 9 (some .int) [.ref (G.1 75), .int x1, .int x2, .int x3] S (some (.int r)) S1 := by
  refine ct_of hl (by decide) (Nat.le_of_ble_eq_true rfl) (fun F hFl hFG hF hN hR hret => ?_)
  subst hFl hFG
  show X F 0 0 [(0, .ref (gA F 75)), (1, .int x1), (2, .int x2), (3, .int x3)] [] S
  have hret : ∀ (v : Int32) (S : St) (pc : Nat) (ls : List (Nat × Value)), (v = r ∧ S = S1) → decode cX8_interaction pc = .ok (.ireturn, 1) → X F 0 pc ls [.int v] S := fun v S2 pc ls hq hd => by obtain ⟨rfl, rfl⟩ := hq; exact hret.1 pc ls v rfl rfl hd
  have hk : r = r ∧ S1 = S1 := ⟨rfl, rfl⟩
  unfold X8_interaction at h
  refine x_aload_n hF dX8_interaction_0 rfl rfl ?_
  refine x_iload_n hF dX8_interaction_1 rfl rfl ?_
  obtain ⟨r1, S2, hcall, h⟩ := ob_some h
  refine x_cSi hF hN hR (ctX8_isFlow hF.tr hcall) mwX8_isFlow tw_1149 tw_1148 ⟨by decide, by decide⟩ rfl rfl (Nat.le_of_ble_eq_true rfl) dX8_interaction_2 ?_
  refine x_if_eq (tgt := 15) hF dX8_interaction_5 (by decide) (fun hc => ?_) (fun hc => ?_)
  · have h := oi_pos hc h
    exact x_sub (xX8_interaction_15 hF hN hR (K := fun v9 S9 => v9 = r ∧ S9 = S1) hret h hk) ⟨rfl, rfl, rfl, rfl, trivial⟩
  · have h := oi_neg hc h
    refine x_iload_n hF dX8_interaction_8 rfl rfl ?_
    obtain ⟨r11, S12, hcall, h⟩ := ob_some h
    refine x_cSi hF hN hR (ctX8_isFlow hF.tr hcall) mwX8_isFlow tw_1149 tw_1148 ⟨by decide, by decide⟩ rfl rfl (Nat.le_of_ble_eq_true rfl) dX8_interaction_9 ?_
    refine x_if_ne (tgt := 19) hF dX8_interaction_12 (by decide) (fun hc => ?_) (fun hc => ?_)
    · have h := oi_neg hc h
      refine x_iload_n hF dX8_interaction_19 rfl rfl ?_
      refine x_iload_n hF dX8_interaction_20 rfl rfl ?_
      refine x_icmp_eq (tgt := 33) hF dX8_interaction_21 (by decide) (fun hc => ?_) (fun hc => ?_)
      · have h := oi_pos hc h
        exact x_sub (xX8_interaction_33 hF hN hR (K := fun v9 S9 => v9 = r ∧ S9 = S1) hret h hk) ⟨rfl, rfl, rfl, rfl, trivial⟩
      · have h := oi_neg hc h
        refine x_iload_n hF dX8_interaction_24 rfl rfl ?_
        refine x_iconst (v := (0 : Int32)) hF dX8_interaction_25 (by decide) ?_
        refine x_iconst (v := (1 : Int32)) hF dX8_interaction_26 (by decide) ?_
        obtain ⟨r13, S14, hcall, h⟩ := ob_some h
        refine x_cSi hF hN hR (ctX8_in hF.tr hcall) mwX8_in tw_1152 tw_1151 ⟨by decide, by decide⟩ rfl rfl (Nat.le_of_ble_eq_true rfl) dX8_interaction_27 ?_
        refine x_if_ne (tgt := 37) hF dX8_interaction_30 (by decide) (fun hc => ?_) (fun hc => ?_)
        · have h := oi_neg hc h
          refine x_iconst (v := (0 : Int32)) hF dX8_interaction_37 (by decide) ?_
          exact x_sub (xX8_interaction_38 hF hN hR (K := fun v9 S9 => v9 = r ∧ S9 = S1) hret h hk) ⟨rfl, rfl, rfl, rfl, trivial⟩
        · have h := oi_pos hc h
          exact x_sub (xX8_interaction_33 hF hN hR (K := fun v9 S9 => v9 = r ∧ S9 = S1) hret h hk) ⟨rfl, rfl, rfl, rfl, trivial⟩
    · have h := oi_pos hc h
      exact x_sub (xX8_interaction_15 hF hN hR (K := fun v9 S9 => v9 = r ∧ S9 = S1) hret h hk) ⟨rfl, rfl, rfl, rfl, trivial⟩
noncomputable def X8_ranked_87 (x1 : Int32) (x2 : Int32) (x3 : Int32) (x5 : Int32) (z0 : Int32) (S : St) : Option (((Int32 × Int32) ⊕ Int32) × St) :=
  some (.inl ((z0 + (1 : Int32)), (x5 + (1 : Int32))), S)
set_option maxHeartbeats 4000000 in
set_option maxRecDepth 20000 in
theorem xX8_ranked_87 {F : Cx} (hF : Ok F cX8_ranked RX8) (hN : nLF F 8) (hR : RmF F 9 0) {x1 : Int32} {x2 : Int32} {x3 : Int32} {x5 : Int32} {z0 : Int32} {K : ((Int32 × Int32) ⊕ Int32) → St → Prop} (hag : ∀ (a : Int32 × Int32) (S : St), K (.inl a) S → X F 0 42 [(0, .ref (gA F 75)), (1, .int x1), (2, .int x2), (3, .int x3), (4, .int a.1), (5, .int a.2)] [] S) (hex101 : ∀ (q : Int32) (S : St), K (.inr q) S → X F 0 101 [(0, .ref (gA F 75)), (1, .int x1), (2, .int x2), (3, .int x3), (4, .int q)] [] S) {S : St} {r : (Int32 × Int32) ⊕ Int32} {S1 : St} (h : X8_ranked_87 x1 x2 x3 x5 z0 S = some (r, S1)) (hk : K r S1) : X F 0 87 [(0, .ref (gA F 75)), (1, .int x1), (2, .int x2), (3, .int x3), (5, .int x5)] [.int z0] S := by
  unfold X8_ranked_87 at h
  refine x_iconst (v := (1 : Int32)) hF dX8_ranked_87 (by decide) ?_
  refine x_goto (tgt := 92) hF dX8_ranked_88 (by decide) ?_
  refine x_iadd hF dX8_ranked_92 ?_
  refine x_istore [(4, _), (0, _), (1, _), (2, _), (3, _), (5, _)] hF hN dX8_ranked_93 (by decide) rfl ?_
  refine x_iinc [(5, _), (4, _), (0, _), (1, _), (2, _), (3, _)] (v := (1 : Int32)) hF hN dX8_ranked_95 rfl (by decide) (by decide) rfl ?_
  refine x_goto (tgt := 42) hF dX8_ranked_98 (by decide) ?_
  obtain ⟨rfl, rfl⟩ := sm h
  exact x_sub (hag _ _ hk) ⟨rfl, rfl, rfl, rfl, rfl, rfl, trivial⟩
noncomputable def X8_ranked_42 (x1 : Int32) (x2 : Int32) (x3 : Int32) (x4 : Int32) (x5 : Int32) (S : St) : Option (((Int32 × Int32) ⊕ Int32) × St) :=
  oi ((6 : Int32) ≤ x5) (some (.inr x4, S)) (ob (X8_contributions x5 (1 : Int32) S) (fun r7 S8 => ob (X8_contributions x3 (1 : Int32) S8) (fun r9 S10 => oi (0 < (lg_cmp (r7 - r9) (0 : Int64))) (X8_ranked_87 x1 x2 x3 x5 x4 S10) (oi ((lg_cmp (r7 - r9) (0 : Int64)) = 0) (oi (x3 ≤ x5) (some (.inl ((x4 + (0 : Int32)), (x5 + (1 : Int32))), S10)) (X8_ranked_87 x1 x2 x3 x5 x4 S10)) (some (.inl ((x4 + (0 : Int32)), (x5 + (1 : Int32))), S10))))))
set_option maxHeartbeats 4000000 in
set_option maxRecDepth 20000 in
theorem xX8_ranked_42 {F : Cx} (hF : Ok F cX8_ranked RX8) (hN : nLF F 8) (hR : RmF F 9 0) {x1 : Int32} {x2 : Int32} {x3 : Int32} {x4 : Int32} {x5 : Int32} {K : ((Int32 × Int32) ⊕ Int32) → St → Prop} (hag : ∀ (a : Int32 × Int32) (S : St), K (.inl a) S → X F 0 42 [(0, .ref (gA F 75)), (1, .int x1), (2, .int x2), (3, .int x3), (4, .int a.1), (5, .int a.2)] [] S) (hex101 : ∀ (q : Int32) (S : St), K (.inr q) S → X F 0 101 [(0, .ref (gA F 75)), (1, .int x1), (2, .int x2), (3, .int x3), (4, .int q)] [] S) {S : St} {r : (Int32 × Int32) ⊕ Int32} {S1 : St} (h : X8_ranked_42 x1 x2 x3 x4 x5 S = some (r, S1)) (hk : K r S1) : X F 0 42 [(0, .ref (gA F 75)), (1, .int x1), (2, .int x2), (3, .int x3), (4, .int x4), (5, .int x5)] [] S := by
  unfold X8_ranked_42 at h
  refine x_iload hF dX8_ranked_42 rfl ?_
  refine x_bipush (v := (6 : Int32)) hF dX8_ranked_44 (by decide) ?_
  refine x_icmp_ge (tgt := 101) hF dX8_ranked_46 (by decide) (fun hc => ?_) (fun hc => ?_)
  · have h := oi_pos hc h
    obtain ⟨rfl, rfl⟩ := sm h
    exact x_sub (hex101 _ _ hk) ⟨rfl, rfl, rfl, rfl, rfl, trivial⟩
  · have h := oi_neg hc h
    refine x_aload_n hF dX8_ranked_49 rfl rfl ?_
    refine x_iload hF dX8_ranked_50 rfl ?_
    refine x_iconst (v := (1 : Int32)) hF dX8_ranked_52 (by decide) ?_
    obtain ⟨r7, S8, hcall, h⟩ := ob_some h
    refine x_cVl hF hN hR (ctX8_contributions hF.tr hcall) mwX8_contributions miX8_contributions sh75 ck7 (by decide) tw_1347 ⟨by decide, by decide⟩ rfl rfl (Nat.le_of_ble_eq_true rfl) dX8_ranked_53 ?_
    refine x_aload_n hF dX8_ranked_56 rfl rfl ?_
    refine x_iload_n hF dX8_ranked_57 rfl rfl ?_
    refine x_iconst (v := (1 : Int32)) hF dX8_ranked_58 (by decide) ?_
    obtain ⟨r9, S10, hcall, h⟩ := ob_some h
    refine x_cVl hF hN hR (ctX8_contributions hF.tr hcall) mwX8_contributions miX8_contributions sh75 ck7 (by decide) tw_1347 ⟨by decide, by decide⟩ rfl rfl (Nat.le_of_ble_eq_true rfl) dX8_ranked_59 ?_
    refine x_lsub hF dX8_ranked_62 ?_
    refine x_lstore [(6, _), (0, _), (1, _), (2, _), (3, _), (4, _), (5, _)] hF hN dX8_ranked_63 (by decide) rfl ?_
    refine x_iload hF dX8_ranked_65 rfl ?_
    refine x_lload hF dX8_ranked_67 rfl ?_
    refine x_lconst (v := (0 : Int64)) hF dX8_ranked_69 (by decide) ?_
    refine x_lcmp hF dX8_ranked_70 ?_
    refine x_if_gt (tgt := 87) hF dX8_ranked_71 (by decide) (fun hc => ?_) (fun hc => ?_)
    · have h := oi_pos hc h
      exact x_sub (xX8_ranked_87 hF hN hR (K := K) hag hex101 h hk) ⟨rfl, rfl, rfl, rfl, rfl, trivial⟩
    · have h := oi_neg hc h
      refine x_lload hF dX8_ranked_74 rfl ?_
      refine x_lconst (v := (0 : Int64)) hF dX8_ranked_76 (by decide) ?_
      refine x_lcmp hF dX8_ranked_77 ?_
      refine x_if_ne (tgt := 91) hF dX8_ranked_78 (by decide) (fun hc => ?_) (fun hc => ?_)
      · have h := oi_neg hc h
        refine x_iconst (v := (0 : Int32)) hF dX8_ranked_91 (by decide) ?_
        refine x_iadd hF dX8_ranked_92 ?_
        refine x_istore [(4, _), (6, _), (0, _), (1, _), (2, _), (3, _), (5, _)] hF hN dX8_ranked_93 (by decide) rfl ?_
        refine x_iinc [(5, _), (4, _), (6, _), (0, _), (1, _), (2, _), (3, _)] (v := (1 : Int32)) hF hN dX8_ranked_95 rfl (by decide) (by decide) rfl ?_
        refine x_goto (tgt := 42) hF dX8_ranked_98 (by decide) ?_
        obtain ⟨rfl, rfl⟩ := sm h
        exact x_sub (hag _ _ hk) ⟨rfl, rfl, rfl, rfl, rfl, rfl, trivial⟩
      · have h := oi_pos hc h
        refine x_iload hF dX8_ranked_81 rfl ?_
        refine x_iload_n hF dX8_ranked_83 rfl rfl ?_
        refine x_icmp_ge (tgt := 91) hF dX8_ranked_84 (by decide) (fun hc => ?_) (fun hc => ?_)
        · have h := oi_pos hc h
          refine x_iconst (v := (0 : Int32)) hF dX8_ranked_91 (by decide) ?_
          refine x_iadd hF dX8_ranked_92 ?_
          refine x_istore [(4, _), (6, _), (0, _), (1, _), (2, _), (3, _), (5, _)] hF hN dX8_ranked_93 (by decide) rfl ?_
          refine x_iinc [(5, _), (4, _), (6, _), (0, _), (1, _), (2, _), (3, _)] (v := (1 : Int32)) hF hN dX8_ranked_95 rfl (by decide) (by decide) rfl ?_
          refine x_goto (tgt := 42) hF dX8_ranked_98 (by decide) ?_
          obtain ⟨rfl, rfl⟩ := sm h
          exact x_sub (hag _ _ hk) ⟨rfl, rfl, rfl, rfl, rfl, rfl, trivial⟩
        · have h := oi_neg hc h
          exact x_sub (xX8_ranked_87 hF hN hR (K := K) hag hex101 h hk) ⟨rfl, rfl, rfl, rfl, rfl, trivial⟩
noncomputable def X8_ranked_42L (x1 : Int32) (x2 : Int32) (x3 : Int32) (a : Int32 × Int32) (S : St) : Option (Int32 × St) :=
  lp (fun (a : Int32 × Int32) (S : St) => X8_ranked_42 x1 x2 x3 a.1 a.2 S) a S
theorem xX8_ranked_42L {F : Cx} (hF : Ok F cX8_ranked RX8) (hN : nLF F 8) (hR : RmF F 9 0) {x1 : Int32} {x2 : Int32} {x3 : Int32} {K : Int32 → St → Prop} (hex101 : ∀ (q : Int32) (S : St), K (q) S → X F 0 101 [(0, .ref (gA F 75)), (1, .int x1), (2, .int x2), (3, .int x3), (4, .int q)] [] S) {a : Int32 × Int32} {S : St} {b : Int32} {S1 : St} (h : X8_ranked_42L x1 x2 x3 a S = some (b, S1)) (hk : K b S1) : X F 0 42 [(0, .ref (gA F 75)), (1, .int x1), (2, .int x2), (3, .int x3), (4, .int a.1), (5, .int a.2)] [] S := by
  unfold X8_ranked_42L at h
  exact lp_rule (Xh := fun (a : Int32 × Int32) (S : St) => X F 0 42 [(0, .ref (gA F 75)), (1, .int x1), (2, .int x2), (3, .int x3), (4, .int a.1), (5, .int a.2)] [] S) (K := K) (fun a S r S1 h hk => xX8_ranked_42 hF hN hR (K := fun r S => match r with | .inl a => X F 0 42 [(0, .ref (gA F 75)), (1, .int x1), (2, .int x2), (3, .int x3), (4, .int a.1), (5, .int a.2)] [] S | .inr b => K b S) (fun _ _ h => h) (fun q S h => hex101 q S h) h (by cases r <;> exact hk)) h hk
noncomputable def X8_ranked_30 (x1 : Int32) (x2 : Int32) (x3 : Int32) (S : St) : Option (((Int32 × Int32) ⊕ Int32) × St) :=
  oi ((6 : Int32) ≤ x3) (some (.inr x2, S)) (ob (X8_ranked_42L x1 x2 x3 ((0 : Int32), (0 : Int32)) S) (fun b11 S12 => oi (b11 = x1) (some (.inl (x3, (x3 + (1 : Int32))), S12)) (some (.inl (x2, (x3 + (1 : Int32))), S12))))
set_option maxHeartbeats 4000000 in
set_option maxRecDepth 20000 in
theorem xX8_ranked_30 {F : Cx} (hF : Ok F cX8_ranked RX8) (hN : nLF F 8) (hR : RmF F 9 0) {x1 : Int32} {x2 : Int32} {x3 : Int32} {K : ((Int32 × Int32) ⊕ Int32) → St → Prop} (hag : ∀ (a : Int32 × Int32) (S : St), K (.inl a) S → X F 0 30 [(0, .ref (gA F 75)), (1, .int x1), (2, .int a.1), (3, .int a.2)] [] S) (hex119 : ∀ (q : Int32) (S : St), K (.inr q) S → X F 0 119 [(2, .int q)] [] S) {S : St} {r : (Int32 × Int32) ⊕ Int32} {S1 : St} (h : X8_ranked_30 x1 x2 x3 S = some (r, S1)) (hk : K r S1) : X F 0 30 [(0, .ref (gA F 75)), (1, .int x1), (2, .int x2), (3, .int x3)] [] S := by
  unfold X8_ranked_30 at h
  refine x_iload_n hF dX8_ranked_30 rfl rfl ?_
  refine x_bipush (v := (6 : Int32)) hF dX8_ranked_31 (by decide) ?_
  refine x_icmp_ge (tgt := 119) hF dX8_ranked_33 (by decide) (fun hc => ?_) (fun hc => ?_)
  · have h := oi_pos hc h
    obtain ⟨rfl, rfl⟩ := sm h
    exact x_sub (hex119 _ _ hk) ⟨rfl, trivial⟩
  · have h := oi_neg hc h
    refine x_iconst (v := (0 : Int32)) hF dX8_ranked_36 (by decide) ?_
    refine x_istore [(4, _), (0, _), (1, _), (2, _), (3, _)] hF hN dX8_ranked_37 (by decide) rfl ?_
    refine x_iconst (v := (0 : Int32)) hF dX8_ranked_39 (by decide) ?_
    refine x_istore [(5, _), (4, _), (0, _), (1, _), (2, _), (3, _)] hF hN dX8_ranked_40 (by decide) rfl ?_
    obtain ⟨b11, S12, hlb11, h⟩ := ob_some h
    refine x_sub (xX8_ranked_42L hF hN hR (K := fun bb SS => bb = b11 ∧ SS = S12) ?_ hlb11 ⟨rfl, rfl⟩) ⟨rfl, rfl, rfl, rfl, rfl, rfl, trivial⟩
    rintro _ _ ⟨rfl, rfl⟩
    refine x_iload hF dX8_ranked_101 rfl ?_
    refine x_iload_n hF dX8_ranked_103 rfl rfl ?_
    refine x_icmp_ne (tgt := 111) hF dX8_ranked_104 (by decide) (fun hc => ?_) (fun hc => ?_)
    · have h := oi_neg hc h
      refine x_iload_n hF dX8_ranked_111 rfl rfl ?_
      refine x_istore_n [(2, _), (0, _), (1, _), (3, _), (4, _)] hF hN dX8_ranked_112 rfl (by decide) rfl ?_
      refine x_iinc [(3, _), (2, _), (0, _), (1, _), (4, _)] (v := (1 : Int32)) hF hN dX8_ranked_113 rfl (by decide) (by decide) rfl ?_
      refine x_goto (tgt := 30) hF dX8_ranked_116 (by decide) ?_
      obtain ⟨rfl, rfl⟩ := sm h
      exact x_sub (hag _ _ hk) ⟨rfl, rfl, rfl, rfl, trivial⟩
    · have h := oi_pos hc h
      refine x_iload_n hF dX8_ranked_107 rfl rfl ?_
      refine x_goto (tgt := 112) hF dX8_ranked_108 (by decide) ?_
      refine x_istore_n [(2, _), (0, _), (1, _), (3, _), (4, _)] hF hN dX8_ranked_112 rfl (by decide) rfl ?_
      refine x_iinc [(3, _), (2, _), (0, _), (1, _), (4, _)] (v := (1 : Int32)) hF hN dX8_ranked_113 rfl (by decide) (by decide) rfl ?_
      refine x_goto (tgt := 30) hF dX8_ranked_116 (by decide) ?_
      obtain ⟨rfl, rfl⟩ := sm h
      exact x_sub (hag _ _ hk) ⟨rfl, rfl, rfl, rfl, trivial⟩
noncomputable def X8_ranked_30L (x1 : Int32) (a : Int32 × Int32) (S : St) : Option (Int32 × St) :=
  lp (fun (a : Int32 × Int32) (S : St) => X8_ranked_30 x1 a.1 a.2 S) a S
theorem xX8_ranked_30L {F : Cx} (hF : Ok F cX8_ranked RX8) (hN : nLF F 8) (hR : RmF F 9 0) {x1 : Int32} {K : Int32 → St → Prop} (hex119 : ∀ (q : Int32) (S : St), K (q) S → X F 0 119 [(2, .int q)] [] S) {a : Int32 × Int32} {S : St} {b : Int32} {S1 : St} (h : X8_ranked_30L x1 a S = some (b, S1)) (hk : K b S1) : X F 0 30 [(0, .ref (gA F 75)), (1, .int x1), (2, .int a.1), (3, .int a.2)] [] S := by
  unfold X8_ranked_30L at h
  exact lp_rule (Xh := fun (a : Int32 × Int32) (S : St) => X F 0 30 [(0, .ref (gA F 75)), (1, .int x1), (2, .int a.1), (3, .int a.2)] [] S) (K := K) (fun a S r S1 h hk => xX8_ranked_30 hF hN hR (K := fun r S => match r with | .inl a => X F 0 30 [(0, .ref (gA F 75)), (1, .int x1), (2, .int a.1), (3, .int a.2)] [] S | .inr b => K b S) (fun _ _ h => h) (fun q S h => hex119 q S h) h (by cases r <;> exact hk)) h hk
noncomputable def X8_ranked_13 (x1 : Int32) (z1 : Int32) (S : St) : Option (Int32 × St) :=
  ob (X8_refuses z1 S) (fun r3 S4 => oi (r3 = 0) (ob (X8_weighsAll (-1 : Int32) S4) (fun r5 S6 => ob (X8_ranked_30L x1 ((0 : Int32), (0 : Int32)) S6) (fun b13 S14 => some (b13, S14)))) (some ((0 : Int32), S4)))
set_option maxHeartbeats 4000000 in
set_option maxRecDepth 20000 in
theorem xX8_ranked_13 {F : Cx} (hF : Ok F cX8_ranked RX8) (hN : nLF F 8) (hR : RmF F 9 0) {x1 : Int32} {z1 : Int32} {K : Int32 → St → Prop} (hret : ∀ (v : Int32) (S : St) (pc : Nat) (ls : List (Nat × Value)), K v S → decode cX8_ranked pc = .ok (.ireturn, 1) → X F 0 pc ls [.int v] S) {S : St} {r : Int32} {S1 : St} (h : X8_ranked_13 x1 z1 S = some (r, S1)) (hk : K r S1) : X F 0 13 [(0, .ref (gA F 75)), (1, .int x1)] [.int z1, .ref (gA F 75)] S := by
  unfold X8_ranked_13 at h
  obtain ⟨r3, S4, hcall, h⟩ := ob_some h
  refine x_cVi hF hN hR (ctX8_refuses hF.tr hcall) mwX8_refuses miX8_refuses sh75 ck7 (by decide) tw_1154 ⟨by decide, by decide⟩ rfl rfl (Nat.le_of_ble_eq_true rfl) dX8_ranked_13 ?_
  refine x_if_eq (tgt := 21) hF dX8_ranked_16 (by decide) (fun hc => ?_) (fun hc => ?_)
  · have h := oi_pos hc h
    refine x_aload_n hF dX8_ranked_21 rfl rfl ?_
    refine x_iconst (v := (-1 : Int32)) hF dX8_ranked_22 (by decide) ?_
    obtain ⟨r5, S6, hcall, h⟩ := ob_some h
    refine x_cVv hF hN hR (ctX8_weighsAll hF.tr hcall) mwX8_weighsAll miX8_weighsAll sh75 ck7 (by decide) tw_1343 ⟨by decide, by decide⟩ rfl rfl (Nat.le_of_ble_eq_true rfl) dX8_ranked_23 ?_
    refine x_iconst (v := (0 : Int32)) hF dX8_ranked_26 (by decide) ?_
    refine x_istore_n [(2, _), (0, _), (1, _)] hF hN dX8_ranked_27 rfl (by decide) rfl ?_
    refine x_iconst (v := (0 : Int32)) hF dX8_ranked_28 (by decide) ?_
    refine x_istore_n [(3, _), (2, _), (0, _), (1, _)] hF hN dX8_ranked_29 rfl (by decide) rfl ?_
    obtain ⟨b13, S14, hlb13, h⟩ := ob_some h
    refine x_sub (xX8_ranked_30L hF hN hR (K := fun bb SS => bb = b13 ∧ SS = S14) ?_ hlb13 ⟨rfl, rfl⟩) ⟨rfl, rfl, rfl, rfl, trivial⟩
    rintro _ _ ⟨rfl, rfl⟩
    refine x_iload_n hF dX8_ranked_119 rfl rfl ?_
    obtain ⟨rfl, rfl⟩ := sm h
    exact hret _ _ _ _ hk dX8_ranked_120
  · have h := oi_neg hc h
    refine x_iconst (v := (0 : Int32)) hF dX8_ranked_19 (by decide) ?_
    obtain ⟨rfl, rfl⟩ := sm h
    exact hret _ _ _ _ hk dX8_ranked_20
noncomputable def X8_ranked (x1 : Int32) (S : St) : Option (Int32 × St) :=
  ob (X8_isFlow x1 S) (fun r1 S2 => oi (r1 = 0) (X8_ranked_13 x1 (1 : Int32) S2) (X8_ranked_13 x1 (0 : Int32) S2))
set_option maxHeartbeats 4000000 in
set_option maxRecDepth 20000 in
theorem ctX8_ranked {l : Launch} {G : Ga} {x1 : Int32} (hl : l.stackTraces = false) {S : St} {r : Int32} {S1 : St} (h : X8_ranked x1 S = some (r, S1)) : CT l G 9 yX8_ranked cX8_ranked 8 (some .int) [.ref (G.1 75), .int x1] S (some (.int r)) S1 := by
  refine ct_of hl (by decide) (Nat.le_of_ble_eq_true rfl) (fun F hFl hFG hF hN hR hret => ?_)
  subst hFl hFG
  show X F 0 0 [(0, .ref (gA F 75)), (1, .int x1)] [] S
  have hret : ∀ (v : Int32) (S : St) (pc : Nat) (ls : List (Nat × Value)), (v = r ∧ S = S1) → decode cX8_ranked pc = .ok (.ireturn, 1) → X F 0 pc ls [.int v] S := fun v S2 pc ls hq hd => by obtain ⟨rfl, rfl⟩ := hq; exact hret.1 pc ls v rfl rfl hd
  have hk : r = r ∧ S1 = S1 := ⟨rfl, rfl⟩
  unfold X8_ranked at h
  refine x_aload_n hF dX8_ranked_0 rfl rfl ?_
  refine x_iload_n hF dX8_ranked_1 rfl rfl ?_
  obtain ⟨r1, S2, hcall, h⟩ := ob_some h
  refine x_cSi hF hN hR (ctX8_isFlow hF.tr hcall) mwX8_isFlow tw_1149 tw_1148 ⟨by decide, by decide⟩ rfl rfl (Nat.le_of_ble_eq_true rfl) dX8_ranked_2 ?_
  refine x_if_eq (tgt := 12) hF dX8_ranked_5 (by decide) (fun hc => ?_) (fun hc => ?_)
  · have h := oi_pos hc h
    refine x_iconst (v := (1 : Int32)) hF dX8_ranked_12 (by decide) ?_
    exact x_sub (xX8_ranked_13 hF hN hR (K := fun v9 S9 => v9 = r ∧ S9 = S1) hret h hk) ⟨rfl, rfl, trivial⟩
  · have h := oi_neg hc h
    refine x_iconst (v := (0 : Int32)) hF dX8_ranked_8 (by decide) ?_
    refine x_goto (tgt := 13) hF dX8_ranked_9 (by decide) ?_
    exact x_sub (xX8_ranked_13 hF hN hR (K := fun v9 S9 => v9 = r ∧ S9 = S1) hret h hk) ⟨rfl, rfl, trivial⟩
noncomputable def X8_shuffles_2 (x1 : Int32) (S : St) : Option (((Int32) ⊕ Unit) × St) :=
  oi ((6 : Int32) ≤ x1) (some (.inr (), S)) (og (inb x1 6) (ol (si S 87 (ix x1) x1) (fun T1 => some (.inl (x1 + (1 : Int32)), T1))))
set_option maxHeartbeats 4000000 in
set_option maxRecDepth 20000 in
theorem xX8_shuffles_2 {F : Cx} (hF : Ok F cX8_shuffles RX8) (hN : nLF F 4) (hR : RmF F 0 0) {x1 : Int32} {K : ((Int32) ⊕ Unit) → St → Prop} (hag : ∀ (a : Int32) (S : St), K (.inl a) S → X F 0 2 [(0, .ref (gA F 75)), (1, .int a)] [] S) (hex21 : ∀ (q : Unit) (S : St), K (.inr q) S → X F 0 21 [(0, .ref (gA F 75))] [] S) {S : St} {r : (Int32) ⊕ Unit} {S1 : St} (h : X8_shuffles_2 x1 S = some (r, S1)) (hk : K r S1) : X F 0 2 [(0, .ref (gA F 75)), (1, .int x1)] [] S := by
  unfold X8_shuffles_2 at h
  refine x_iload_n hF dX8_shuffles_2 rfl rfl ?_
  refine x_bipush (v := (6 : Int32)) hF dX8_shuffles_3 (by decide) ?_
  refine x_icmp_ge (tgt := 21) hF dX8_shuffles_5 (by decide) (fun hc => ?_) (fun hc => ?_)
  · have h := oi_pos hc h
    obtain ⟨rfl, rfl⟩ := sm h
    exact x_sub (hex21 _ _ hk) ⟨rfl, trivial⟩
  · have h := oi_neg hc h
    refine x_aload_n hF dX8_shuffles_8 rfl rfl ?_
    refine x_getr hF sh75 23 rfl ck7 (by decide) (by decide) tw_1065 rfl dX8_shuffles_9 ?_
    refine x_iload_n hF dX8_shuffles_12 rfl rfl ?_
    refine x_iload_n hF dX8_shuffles_13 rfl rfl ?_
    obtain ⟨hg, h⟩ := og_some h
    obtain ⟨T1, eT1, h⟩ := ol_some h
    refine x_iast hF sh87 (by decide) hg rfl eT1 dX8_shuffles_14 ?_
    refine x_iinc [(1, _), (0, _)] (v := (1 : Int32)) hF hN dX8_shuffles_15 rfl (by decide) (by decide) rfl ?_
    refine x_goto (tgt := 2) hF dX8_shuffles_18 (by decide) ?_
    obtain ⟨rfl, rfl⟩ := sm h
    exact x_sub (hag _ _ hk) ⟨rfl, rfl, trivial⟩
noncomputable def X8_shuffles_2L (a : Int32) (S : St) : Option (Unit × St) :=
  lp (fun (a : Int32) (S : St) => X8_shuffles_2 a S) a S
theorem xX8_shuffles_2L {F : Cx} (hF : Ok F cX8_shuffles RX8) (hN : nLF F 4) (hR : RmF F 0 0) {K : Unit → St → Prop} (hex21 : ∀ (q : Unit) (S : St), K (q) S → X F 0 21 [(0, .ref (gA F 75))] [] S) {a : Int32} {S : St} {b : Unit} {S1 : St} (h : X8_shuffles_2L  a S = some (b, S1)) (hk : K b S1) : X F 0 2 [(0, .ref (gA F 75)), (1, .int a)] [] S := by
  unfold X8_shuffles_2L at h
  exact lp_rule (Xh := fun (a : Int32) (S : St) => X F 0 2 [(0, .ref (gA F 75)), (1, .int a)] [] S) (K := K) (fun a S r S1 h hk => xX8_shuffles_2 hF hN hR (K := fun r S => match r with | .inl a => X F 0 2 [(0, .ref (gA F 75)), (1, .int a)] [] S | .inr b => K b S) (fun _ _ h => h) (fun q S h => hex21 q S h) h (by cases r <;> exact hk)) h hk
noncomputable def X8_shuffles_23 (x1 : Int32) (S : St) : Option (((Int32) ⊕ Unit) × St) :=
  oi (x1 ≤ 0) (some (.inr (), S)) (ol (sl S 75 24 ((((1103515245 : Int64) * (gl S 75 24)) + (12345 : Int64)) - (((1103515245 : Int64) * (gl S 75 24)) + (12345 : Int64)) / (2147483648 : Int64) * (2147483648 : Int64))) (fun T4 => og (¬ (x1 + (1 : Int32)).toInt64 = 0) (og (inb x1 6) (og (inb ((((gl T4 75 24) / (65536 : Int64)) - ((gl T4 75 24) / (65536 : Int64)) / (x1 + (1 : Int32)).toInt64 * (x1 + (1 : Int32)).toInt64).toInt32) 6) (og (inb x1 6) (ol (si T4 87 (ix x1) (gi T4 87 (ix ((((gl T4 75 24) / (65536 : Int64)) - ((gl T4 75 24) / (65536 : Int64)) / (x1 + (1 : Int32)).toInt64 * (x1 + (1 : Int32)).toInt64).toInt32)))) (fun T5 => og (inb ((((gl T4 75 24) / (65536 : Int64)) - ((gl T4 75 24) / (65536 : Int64)) / (x1 + (1 : Int32)).toInt64 * (x1 + (1 : Int32)).toInt64).toInt32) 6) (ol (si T5 87 (ix ((((gl T4 75 24) / (65536 : Int64)) - ((gl T4 75 24) / (65536 : Int64)) / (x1 + (1 : Int32)).toInt64 * (x1 + (1 : Int32)).toInt64).toInt32)) (gi T4 87 (ix x1))) (fun T6 => some (.inl (x1 + (-1 : Int32)), T6))))))))))
set_option maxHeartbeats 4000000 in
set_option maxRecDepth 20000 in
theorem xX8_shuffles_23 {F : Cx} (hF : Ok F cX8_shuffles RX8) (hN : nLF F 4) (hR : RmF F 0 0) {x1 : Int32} {K : ((Int32) ⊕ Unit) → St → Prop} (hag : ∀ (a : Int32) (S : St), K (.inl a) S → X F 0 23 [(0, .ref (gA F 75)), (1, .int a)] [] S) (hex94 : ∀ (q : Unit) (S : St), K (.inr q) S → X F 0 94 [] [] S) {S : St} {r : (Int32) ⊕ Unit} {S1 : St} (h : X8_shuffles_23 x1 S = some (r, S1)) (hk : K r S1) : X F 0 23 [(0, .ref (gA F 75)), (1, .int x1)] [] S := by
  unfold X8_shuffles_23 at h
  refine x_iload_n hF dX8_shuffles_23 rfl rfl ?_
  refine x_if_le (tgt := 94) hF dX8_shuffles_24 (by decide) (fun hc => ?_) (fun hc => ?_)
  · have h := oi_pos hc h
    obtain ⟨rfl, rfl⟩ := sm h
    exact x_sub (hex94 _ _ hk) trivial
  · have h := oi_neg hc h
    refine x_aload_n hF dX8_shuffles_27 rfl rfl ?_
    refine x_ldc2_w (v := (1103515245 : Int64)) hF dX8_shuffles_28 tw_1387 ?_
    refine x_aload_n hF dX8_shuffles_31 rfl rfl ?_
    refine x_getl hF sh75 24 rfl ck7 (by decide) (by decide) tw_1066 rfl dX8_shuffles_32 ?_
    refine x_lmul hF dX8_shuffles_35 ?_
    refine x_ldc2_w (v := (12345 : Int64)) hF dX8_shuffles_36 tw_1388 ?_
    refine x_ladd hF dX8_shuffles_39 ?_
    refine x_ldc2_w (v := (2147483648 : Int64)) hF dX8_shuffles_40 tw_1389 ?_
    refine x_lrem hF dX8_shuffles_43 (by decide) ?_
    obtain ⟨T4, eT4, h⟩ := ol_some h
    refine x_putl hF sh75 24 rfl ck7 (by decide) (by decide) tw_1066 rfl rfl rfl eT4 dX8_shuffles_44 ?_
    refine x_aload_n hF dX8_shuffles_47 rfl rfl ?_
    refine x_getl hF sh75 24 rfl ck7 (by decide) (by decide) tw_1066 rfl dX8_shuffles_48 ?_
    refine x_ldc2_w (v := (65536 : Int64)) hF dX8_shuffles_51 tw_1390 ?_
    refine x_ldiv hF dX8_shuffles_54 (by decide) ?_
    refine x_iload_n hF dX8_shuffles_55 rfl rfl ?_
    refine x_iconst (v := (1 : Int32)) hF dX8_shuffles_56 (by decide) ?_
    refine x_iadd hF dX8_shuffles_57 ?_
    refine x_i2l hF dX8_shuffles_58 ?_
    obtain ⟨hg, h⟩ := og_some h
    refine x_lrem hF dX8_shuffles_59 hg ?_
    refine x_l2i hF dX8_shuffles_60 ?_
    refine x_istore_n [(2, _), (0, _), (1, _)] hF hN dX8_shuffles_61 rfl (by decide) rfl ?_
    refine x_aload_n hF dX8_shuffles_62 rfl rfl ?_
    refine x_getr hF sh75 23 rfl ck7 (by decide) (by decide) tw_1065 rfl dX8_shuffles_63 ?_
    refine x_iload_n hF dX8_shuffles_66 rfl rfl ?_
    obtain ⟨hg, h⟩ := og_some h
    refine x_iald hF sh87 (by decide) hg rfl dX8_shuffles_67 ?_
    refine x_istore_n [(3, _), (2, _), (0, _), (1, _)] hF hN dX8_shuffles_68 rfl (by decide) rfl ?_
    refine x_aload_n hF dX8_shuffles_69 rfl rfl ?_
    refine x_getr hF sh75 23 rfl ck7 (by decide) (by decide) tw_1065 rfl dX8_shuffles_70 ?_
    refine x_iload_n hF dX8_shuffles_73 rfl rfl ?_
    refine x_aload_n hF dX8_shuffles_74 rfl rfl ?_
    refine x_getr hF sh75 23 rfl ck7 (by decide) (by decide) tw_1065 rfl dX8_shuffles_75 ?_
    refine x_iload_n hF dX8_shuffles_78 rfl rfl ?_
    obtain ⟨hg, h⟩ := og_some h
    refine x_iald hF sh87 (by decide) hg rfl dX8_shuffles_79 ?_
    obtain ⟨hg, h⟩ := og_some h
    obtain ⟨T5, eT5, h⟩ := ol_some h
    refine x_iast hF sh87 (by decide) hg rfl eT5 dX8_shuffles_80 ?_
    refine x_aload_n hF dX8_shuffles_81 rfl rfl ?_
    refine x_getr hF sh75 23 rfl ck7 (by decide) (by decide) tw_1065 rfl dX8_shuffles_82 ?_
    refine x_iload_n hF dX8_shuffles_85 rfl rfl ?_
    refine x_iload_n hF dX8_shuffles_86 rfl rfl ?_
    obtain ⟨hg, h⟩ := og_some h
    obtain ⟨T6, eT6, h⟩ := ol_some h
    refine x_iast hF sh87 (by decide) hg rfl eT6 dX8_shuffles_87 ?_
    refine x_iinc [(1, _), (3, _), (2, _), (0, _)] (v := (-1 : Int32)) hF hN dX8_shuffles_88 rfl (by decide) (by decide) rfl ?_
    refine x_goto (tgt := 23) hF dX8_shuffles_91 (by decide) ?_
    obtain ⟨rfl, rfl⟩ := sm h
    exact x_sub (hag _ _ hk) ⟨rfl, rfl, trivial⟩
noncomputable def X8_shuffles_23L (a : Int32) (S : St) : Option (Unit × St) :=
  lp (fun (a : Int32) (S : St) => X8_shuffles_23 a S) a S
theorem xX8_shuffles_23L {F : Cx} (hF : Ok F cX8_shuffles RX8) (hN : nLF F 4) (hR : RmF F 0 0) {K : Unit → St → Prop} (hex94 : ∀ (q : Unit) (S : St), K (q) S → X F 0 94 [] [] S) {a : Int32} {S : St} {b : Unit} {S1 : St} (h : X8_shuffles_23L  a S = some (b, S1)) (hk : K b S1) : X F 0 23 [(0, .ref (gA F 75)), (1, .int a)] [] S := by
  unfold X8_shuffles_23L at h
  exact lp_rule (Xh := fun (a : Int32) (S : St) => X F 0 23 [(0, .ref (gA F 75)), (1, .int a)] [] S) (K := K) (fun a S r S1 h hk => xX8_shuffles_23 hF hN hR (K := fun r S => match r with | .inl a => X F 0 23 [(0, .ref (gA F 75)), (1, .int a)] [] S | .inr b => K b S) (fun _ _ h => h) (fun q S h => hex94 q S h) h (by cases r <;> exact hk)) h hk
noncomputable def X8_shuffles (S : St) : Option (Unit × St) :=
  ob (X8_shuffles_2L (0 : Int32) S) (fun b2 S3 => ob (X8_shuffles_23L (5 : Int32) S3) (fun b7 S8 => some ((), S8)))
set_option maxHeartbeats 4000000 in
set_option maxRecDepth 20000 in
theorem ctX8_shuffles {l : Launch} {G : Ga} (hl : l.stackTraces = false) {S : St} {r : Unit} {S1 : St} (h : X8_shuffles  S = some (r, S1)) : CT l G 0 yX8_shuffles cX8_shuffles 4 none [.ref (G.1 75)] S none S1 := by
  refine ct_of hl (by decide) (Nat.le_of_ble_eq_true rfl) (fun F hFl hFG hF hN hR hret => ?_)
  subst hFl hFG
  show X F 0 0 [(0, .ref (gA F 75))] [] S
  have hret : ∀ (v : Unit) (S : St) (pc : Nat) (ls : List (Nat × Value)), (v = r ∧ S = S1) → decode cX8_shuffles pc = .ok (.return_, 1) → X F 0 pc ls [] S := fun v S2 pc ls hq hd => by obtain ⟨rfl, rfl⟩ := hq; exact hret.2.2.2.2.1 pc ls rfl rfl hd
  have hk : r = r ∧ S1 = S1 := ⟨rfl, rfl⟩
  unfold X8_shuffles at h
  refine x_iconst (v := (0 : Int32)) hF dX8_shuffles_0 (by decide) ?_
  refine x_istore_n [(1, _), (0, _)] hF hN dX8_shuffles_1 rfl (by decide) rfl ?_
  obtain ⟨b2, S3, hlb2, h⟩ := ob_some h
  refine x_sub (xX8_shuffles_2L hF hN hR (K := fun bb SS => bb = b2 ∧ SS = S3) ?_ hlb2 ⟨rfl, rfl⟩) ⟨rfl, rfl, trivial⟩
  rintro _ _ ⟨_, rfl⟩
  refine x_iconst (v := (5 : Int32)) hF dX8_shuffles_21 (by decide) ?_
  refine x_istore_n [(1, _), (0, _)] hF hN dX8_shuffles_22 rfl (by decide) rfl ?_
  obtain ⟨b7, S8, hlb7, h⟩ := ob_some h
  refine x_sub (xX8_shuffles_23L hF hN hR (K := fun bb SS => bb = b7 ∧ SS = S8) ?_ hlb7 ⟨rfl, rfl⟩) ⟨rfl, rfl, trivial⟩
  rintro _ _ ⟨_, rfl⟩
  obtain ⟨rfl, rfl⟩ := sm h
  exact hret _ _ _ _ hk dX8_shuffles_94
noncomputable def X8_sampled_72 (x1 : Int32) (x2 : Int32) (x4 : Int32) (x5 : Int32) (x6 : Int32) (x7 : Int32) (S : St) : Option (((Int32 × Int32) ⊕ Int32) × St) :=
  og (inb x7 6) (oi ((gi S 87 (ix x7)) = x1) (some (.inr x6, S)) (og (inb x7 6) (some (.inl ((x6 ||| ((1 : Int32) <<< ((gi S 87 (ix x7)) &&& 31))), (x7 + (1 : Int32))), S))))
set_option maxHeartbeats 4000000 in
set_option maxRecDepth 20000 in
theorem xX8_sampled_72 {F : Cx} (hF : Ok F cX8_sampled RX8) (hN : nLF F 8) (hR : RmF F 9 0) {x1 : Int32} {x2 : Int32} {x4 : Int32} {x5 : Int32} {x6 : Int32} {x7 : Int32} {K : ((Int32 × Int32) ⊕ Int32) → St → Prop} (hag : ∀ (a : Int32 × Int32) (S : St), K (.inl a) S → X F 0 72 [(0, .ref (gA F 75)), (1, .int x1), (2, .int x2), (4, .int x4), (5, .int x5), (6, .int a.1), (7, .int a.2)] [] S) (hex103 : ∀ (q : Int32) (S : St), K (.inr q) S → X F 0 103 [(0, .ref (gA F 75)), (1, .int x1), (2, .int x2), (4, .int x4), (5, .int x5), (6, .int q)] [] S) {S : St} {r : (Int32 × Int32) ⊕ Int32} {S1 : St} (h : X8_sampled_72 x1 x2 x4 x5 x6 x7 S = some (r, S1)) (hk : K r S1) : X F 0 72 [(0, .ref (gA F 75)), (1, .int x1), (2, .int x2), (4, .int x4), (5, .int x5), (6, .int x6), (7, .int x7)] [] S := by
  unfold X8_sampled_72 at h
  refine x_aload_n hF dX8_sampled_72 rfl rfl ?_
  refine x_getr hF sh75 23 rfl ck7 (by decide) (by decide) tw_1065 rfl dX8_sampled_73 ?_
  refine x_iload hF dX8_sampled_76 rfl ?_
  obtain ⟨hg, h⟩ := og_some h
  refine x_iald hF sh87 (by decide) hg rfl dX8_sampled_78 ?_
  refine x_iload_n hF dX8_sampled_79 rfl rfl ?_
  refine x_icmp_eq (tgt := 103) hF dX8_sampled_80 (by decide) (fun hc => ?_) (fun hc => ?_)
  · have h := oi_pos hc h
    obtain ⟨rfl, rfl⟩ := sm h
    exact x_sub (hex103 _ _ hk) ⟨rfl, rfl, rfl, rfl, rfl, rfl, trivial⟩
  · have h := oi_neg hc h
    refine x_iload hF dX8_sampled_83 rfl ?_
    refine x_iconst (v := (1 : Int32)) hF dX8_sampled_85 (by decide) ?_
    refine x_aload_n hF dX8_sampled_86 rfl rfl ?_
    refine x_getr hF sh75 23 rfl ck7 (by decide) (by decide) tw_1065 rfl dX8_sampled_87 ?_
    refine x_iload hF dX8_sampled_90 rfl ?_
    obtain ⟨hg, h⟩ := og_some h
    refine x_iald hF sh87 (by decide) hg rfl dX8_sampled_92 ?_
    refine x_ishl hF dX8_sampled_93 ?_
    refine x_ior hF dX8_sampled_94 ?_
    refine x_istore [(6, _), (0, _), (1, _), (2, _), (4, _), (5, _), (7, _)] hF hN dX8_sampled_95 (by decide) rfl ?_
    refine x_iinc [(7, _), (6, _), (0, _), (1, _), (2, _), (4, _), (5, _)] (v := (1 : Int32)) hF hN dX8_sampled_97 rfl (by decide) (by decide) rfl ?_
    refine x_goto (tgt := 72) hF dX8_sampled_100 (by decide) ?_
    obtain ⟨rfl, rfl⟩ := sm h
    exact x_sub (hag _ _ hk) ⟨rfl, rfl, rfl, rfl, rfl, rfl, rfl, trivial⟩
noncomputable def X8_sampled_72L (x1 : Int32) (x2 : Int32) (x4 : Int32) (x5 : Int32) (a : Int32 × Int32) (S : St) : Option (Int32 × St) :=
  lp (fun (a : Int32 × Int32) (S : St) => X8_sampled_72 x1 x2 x4 x5 a.1 a.2 S) a S
theorem xX8_sampled_72L {F : Cx} (hF : Ok F cX8_sampled RX8) (hN : nLF F 8) (hR : RmF F 9 0) {x1 : Int32} {x2 : Int32} {x4 : Int32} {x5 : Int32} {K : Int32 → St → Prop} (hex103 : ∀ (q : Int32) (S : St), K (q) S → X F 0 103 [(0, .ref (gA F 75)), (1, .int x1), (2, .int x2), (4, .int x4), (5, .int x5), (6, .int q)] [] S) {a : Int32 × Int32} {S : St} {b : Int32} {S1 : St} (h : X8_sampled_72L x1 x2 x4 x5 a S = some (b, S1)) (hk : K b S1) : X F 0 72 [(0, .ref (gA F 75)), (1, .int x1), (2, .int x2), (4, .int x4), (5, .int x5), (6, .int a.1), (7, .int a.2)] [] S := by
  unfold X8_sampled_72L at h
  exact lp_rule (Xh := fun (a : Int32 × Int32) (S : St) => X F 0 72 [(0, .ref (gA F 75)), (1, .int x1), (2, .int x2), (4, .int x4), (5, .int x5), (6, .int a.1), (7, .int a.2)] [] S) (K := K) (fun a S r S1 h hk => xX8_sampled_72 hF hN hR (K := fun r S => match r with | .inl a => X F 0 72 [(0, .ref (gA F 75)), (1, .int x1), (2, .int x2), (4, .int x4), (5, .int x5), (6, .int a.1), (7, .int a.2)] [] S | .inr b => K b S) (fun _ _ h => h) (fun q S h => hex103 q S h) h (by cases r <;> exact hk)) h hk
noncomputable def X8_sampled_56 (x1 : Int32) (x2 : Int32) (x4 : Int32) (x5 : Int32) (S : St) : Option (((Int32 × Int32) ⊕ Int32) × St) :=
  oi (x2 ≤ x5) (some (.inr x4, S)) (ob (X8_shuffles  S) (fun r10 S11 => ob (X8_sampled_72L x1 x2 x4 x5 ((0 : Int32), (0 : Int32)) S11) (fun b12 S13 => og (inb (b12 ||| ((1 : Int32) <<< (x1 &&& 31))) 64) (og (inb b12 64) (some (.inl ((x4 + ((gi S13 86 (ix (b12 ||| ((1 : Int32) <<< (x1 &&& 31))))) - (gi S13 86 (ix b12)))), (x5 + (1 : Int32))), S13))))))
set_option maxHeartbeats 4000000 in
set_option maxRecDepth 20000 in
theorem xX8_sampled_56 {F : Cx} (hF : Ok F cX8_sampled RX8) (hN : nLF F 8) (hR : RmF F 9 0) {x1 : Int32} {x2 : Int32} {x4 : Int32} {x5 : Int32} {K : ((Int32 × Int32) ⊕ Int32) → St → Prop} (hag : ∀ (a : Int32 × Int32) (S : St), K (.inl a) S → X F 0 56 [(0, .ref (gA F 75)), (1, .int x1), (2, .int x2), (4, .int a.1), (5, .int a.2)] [] S) (hex133 : ∀ (q : Int32) (S : St), K (.inr q) S → X F 0 133 [(4, .int q)] [] S) {S : St} {r : (Int32 × Int32) ⊕ Int32} {S1 : St} (h : X8_sampled_56 x1 x2 x4 x5 S = some (r, S1)) (hk : K r S1) : X F 0 56 [(0, .ref (gA F 75)), (1, .int x1), (2, .int x2), (4, .int x4), (5, .int x5)] [] S := by
  unfold X8_sampled_56 at h
  refine x_iload hF dX8_sampled_56 rfl ?_
  refine x_iload_n hF dX8_sampled_58 rfl rfl ?_
  refine x_icmp_ge (tgt := 133) hF dX8_sampled_59 (by decide) (fun hc => ?_) (fun hc => ?_)
  · have h := oi_pos hc h
    obtain ⟨rfl, rfl⟩ := sm h
    exact x_sub (hex133 _ _ hk) ⟨rfl, trivial⟩
  · have h := oi_neg hc h
    refine x_aload_n hF dX8_sampled_62 rfl rfl ?_
    obtain ⟨r10, S11, hcall, h⟩ := ob_some h
    refine x_cVv hF hN hR (ctX8_shuffles hF.tr hcall) mwX8_shuffles miX8_shuffles sh75 ck7 (by decide) tw_1383 ⟨by decide, by decide⟩ rfl rfl (Nat.le_of_ble_eq_true rfl) dX8_sampled_63 ?_
    refine x_iconst (v := (0 : Int32)) hF dX8_sampled_66 (by decide) ?_
    refine x_istore [(6, _), (0, _), (1, _), (2, _), (4, _), (5, _)] hF hN dX8_sampled_67 (by decide) rfl ?_
    refine x_iconst (v := (0 : Int32)) hF dX8_sampled_69 (by decide) ?_
    refine x_istore [(7, _), (6, _), (0, _), (1, _), (2, _), (4, _), (5, _)] hF hN dX8_sampled_70 (by decide) rfl ?_
    obtain ⟨b12, S13, hlb12, h⟩ := ob_some h
    refine x_sub (xX8_sampled_72L hF hN hR (K := fun bb SS => bb = b12 ∧ SS = S13) ?_ hlb12 ⟨rfl, rfl⟩) ⟨rfl, rfl, rfl, rfl, rfl, rfl, rfl, trivial⟩
    rintro _ _ ⟨rfl, rfl⟩
    refine x_iload hF dX8_sampled_103 rfl ?_
    refine x_aload_n hF dX8_sampled_105 rfl rfl ?_
    refine x_getr hF sh75 22 rfl ck7 (by decide) (by decide) tw_1064 rfl dX8_sampled_106 ?_
    refine x_iload hF dX8_sampled_109 rfl ?_
    refine x_iconst (v := (1 : Int32)) hF dX8_sampled_111 (by decide) ?_
    refine x_iload_n hF dX8_sampled_112 rfl rfl ?_
    refine x_ishl hF dX8_sampled_113 ?_
    refine x_ior hF dX8_sampled_114 ?_
    obtain ⟨hg, h⟩ := og_some h
    refine x_iald hF sh86 (by decide) hg rfl dX8_sampled_115 ?_
    refine x_aload_n hF dX8_sampled_116 rfl rfl ?_
    refine x_getr hF sh75 22 rfl ck7 (by decide) (by decide) tw_1064 rfl dX8_sampled_117 ?_
    refine x_iload hF dX8_sampled_120 rfl ?_
    obtain ⟨hg, h⟩ := og_some h
    refine x_iald hF sh86 (by decide) hg rfl dX8_sampled_122 ?_
    refine x_isub hF dX8_sampled_123 ?_
    refine x_iadd hF dX8_sampled_124 ?_
    refine x_istore [(4, _), (0, _), (1, _), (2, _), (5, _), (6, _)] hF hN dX8_sampled_125 (by decide) rfl ?_
    refine x_iinc [(5, _), (4, _), (0, _), (1, _), (2, _), (6, _)] (v := (1 : Int32)) hF hN dX8_sampled_127 rfl (by decide) (by decide) rfl ?_
    refine x_goto (tgt := 56) hF dX8_sampled_130 (by decide) ?_
    obtain ⟨rfl, rfl⟩ := sm h
    exact x_sub (hag _ _ hk) ⟨rfl, rfl, rfl, rfl, rfl, trivial⟩
noncomputable def X8_sampled_56L (x1 : Int32) (x2 : Int32) (a : Int32 × Int32) (S : St) : Option (Int32 × St) :=
  lp (fun (a : Int32 × Int32) (S : St) => X8_sampled_56 x1 x2 a.1 a.2 S) a S
theorem xX8_sampled_56L {F : Cx} (hF : Ok F cX8_sampled RX8) (hN : nLF F 8) (hR : RmF F 9 0) {x1 : Int32} {x2 : Int32} {K : Int32 → St → Prop} (hex133 : ∀ (q : Int32) (S : St), K (q) S → X F 0 133 [(4, .int q)] [] S) {a : Int32 × Int32} {S : St} {b : Int32} {S1 : St} (h : X8_sampled_56L x1 x2 a S = some (b, S1)) (hk : K b S1) : X F 0 56 [(0, .ref (gA F 75)), (1, .int x1), (2, .int x2), (4, .int a.1), (5, .int a.2)] [] S := by
  unfold X8_sampled_56L at h
  exact lp_rule (Xh := fun (a : Int32 × Int32) (S : St) => X F 0 56 [(0, .ref (gA F 75)), (1, .int x1), (2, .int x2), (4, .int a.1), (5, .int a.2)] [] S) (K := K) (fun a S r S1 h hk => xX8_sampled_56 hF hN hR (K := fun r S => match r with | .inl a => X F 0 56 [(0, .ref (gA F 75)), (1, .int x1), (2, .int x2), (4, .int a.1), (5, .int a.2)] [] S | .inr b => K b S) (fun _ _ h => h) (fun q S h => hex133 q S h) h (by cases r <;> exact hk)) h hk
noncomputable def X8_sampled_31 (x1 : Int32) (x2 : Int32) (x3 : Int32) (z1 : Int32) (S : St) : Option (Int32 × St) :=
  ob (X8_refuses z1 S) (fun r5 S6 => oi (r5 = 0) (ob (X8_weighsAll (-1 : Int32) S6) (fun r7 S8 => ol (sl S8 75 24 x3.toInt64) (fun T9 => ob (X8_sampled_56L x1 x2 ((0 : Int32), (0 : Int32)) T9) (fun b14 S15 => some (b14, S15))))) (some ((0 : Int32), S6)))
set_option maxHeartbeats 4000000 in
set_option maxRecDepth 20000 in
theorem xX8_sampled_31 {F : Cx} (hF : Ok F cX8_sampled RX8) (hN : nLF F 8) (hR : RmF F 9 0) {x1 : Int32} {x2 : Int32} {x3 : Int32} {z1 : Int32} {K : Int32 → St → Prop} (hret : ∀ (v : Int32) (S : St) (pc : Nat) (ls : List (Nat × Value)), K v S → decode cX8_sampled pc = .ok (.ireturn, 1) → X F 0 pc ls [.int v] S) {S : St} {r : Int32} {S1 : St} (h : X8_sampled_31 x1 x2 x3 z1 S = some (r, S1)) (hk : K r S1) : X F 0 31 [(0, .ref (gA F 75)), (1, .int x1), (2, .int x2), (3, .int x3)] [.int z1, .ref (gA F 75)] S := by
  unfold X8_sampled_31 at h
  obtain ⟨r5, S6, hcall, h⟩ := ob_some h
  refine x_cVi hF hN hR (ctX8_refuses hF.tr hcall) mwX8_refuses miX8_refuses sh75 ck7 (by decide) tw_1154 ⟨by decide, by decide⟩ rfl rfl (Nat.le_of_ble_eq_true rfl) dX8_sampled_31 ?_
  refine x_if_eq (tgt := 39) hF dX8_sampled_34 (by decide) (fun hc => ?_) (fun hc => ?_)
  · have h := oi_pos hc h
    refine x_aload_n hF dX8_sampled_39 rfl rfl ?_
    refine x_iconst (v := (-1 : Int32)) hF dX8_sampled_40 (by decide) ?_
    obtain ⟨r7, S8, hcall, h⟩ := ob_some h
    refine x_cVv hF hN hR (ctX8_weighsAll hF.tr hcall) mwX8_weighsAll miX8_weighsAll sh75 ck7 (by decide) tw_1343 ⟨by decide, by decide⟩ rfl rfl (Nat.le_of_ble_eq_true rfl) dX8_sampled_41 ?_
    refine x_aload_n hF dX8_sampled_44 rfl rfl ?_
    refine x_iload_n hF dX8_sampled_45 rfl rfl ?_
    refine x_i2l hF dX8_sampled_46 ?_
    obtain ⟨T9, eT9, h⟩ := ol_some h
    refine x_putl hF sh75 24 rfl ck7 (by decide) (by decide) tw_1066 rfl rfl rfl eT9 dX8_sampled_47 ?_
    refine x_iconst (v := (0 : Int32)) hF dX8_sampled_50 (by decide) ?_
    refine x_istore [(4, _), (0, _), (1, _), (2, _), (3, _)] hF hN dX8_sampled_51 (by decide) rfl ?_
    refine x_iconst (v := (0 : Int32)) hF dX8_sampled_53 (by decide) ?_
    refine x_istore [(5, _), (4, _), (0, _), (1, _), (2, _), (3, _)] hF hN dX8_sampled_54 (by decide) rfl ?_
    obtain ⟨b14, S15, hlb14, h⟩ := ob_some h
    refine x_sub (xX8_sampled_56L hF hN hR (K := fun bb SS => bb = b14 ∧ SS = S15) ?_ hlb14 ⟨rfl, rfl⟩) ⟨rfl, rfl, rfl, rfl, rfl, trivial⟩
    rintro _ _ ⟨rfl, rfl⟩
    refine x_iload hF dX8_sampled_133 rfl ?_
    obtain ⟨rfl, rfl⟩ := sm h
    exact hret _ _ _ _ hk dX8_sampled_135
  · have h := oi_neg hc h
    refine x_iconst (v := (0 : Int32)) hF dX8_sampled_37 (by decide) ?_
    obtain ⟨rfl, rfl⟩ := sm h
    exact hret _ _ _ _ hk dX8_sampled_38
noncomputable def X8_sampled_30 (x1 : Int32) (x2 : Int32) (x3 : Int32) (S : St) : Option (Int32 × St) :=
  X8_sampled_31 x1 x2 x3 (2 : Int32) S
set_option maxHeartbeats 4000000 in
set_option maxRecDepth 20000 in
theorem xX8_sampled_30 {F : Cx} (hF : Ok F cX8_sampled RX8) (hN : nLF F 8) (hR : RmF F 9 0) {x1 : Int32} {x2 : Int32} {x3 : Int32} {K : Int32 → St → Prop} (hret : ∀ (v : Int32) (S : St) (pc : Nat) (ls : List (Nat × Value)), K v S → decode cX8_sampled pc = .ok (.ireturn, 1) → X F 0 pc ls [.int v] S) {S : St} {r : Int32} {S1 : St} (h : X8_sampled_30 x1 x2 x3 S = some (r, S1)) (hk : K r S1) : X F 0 30 [(0, .ref (gA F 75)), (1, .int x1), (2, .int x2), (3, .int x3)] [.ref (gA F 75)] S := by
  unfold X8_sampled_30 at h
  refine x_iconst (v := (2 : Int32)) hF dX8_sampled_30 (by decide) ?_
  exact x_sub (xX8_sampled_31 hF hN hR (K := K) hret h hk) ⟨rfl, rfl, rfl, rfl, trivial⟩
noncomputable def X8_sampled (x1 : Int32) (x2 : Int32) (x3 : Int32) (S : St) : Option (Int32 × St) :=
  ob (X8_isFlow x1 S) (fun r1 S2 => oi (r1 = 0) (X8_sampled_31 x1 x2 x3 (1 : Int32) S2) (ob (X8_in x2 (1 : Int32) (100 : Int32) S2) (fun r3 S4 => oi (r3 = 0) (X8_sampled_30 x1 x2 x3 S4) (oi (x3 < 0) (X8_sampled_30 x1 x2 x3 S4) (X8_sampled_31 x1 x2 x3 (0 : Int32) S4)))))
set_option maxHeartbeats 4000000 in
set_option maxRecDepth 20000 in
theorem ctX8_sampled {l : Launch} {G : Ga} {x1 : Int32} {x2 : Int32} {x3 : Int32} (hl : l.stackTraces = false) {S : St} {r : Int32} {S1 : St} (h : X8_sampled x1 x2 x3 S = some (r, S1)) : CT l G 9 yX8_sampled cX8_sampled 8 (some .int) [.ref (G.1 75), .int x1, .int x2, .int x3] S (some (.int r)) S1 := by
  refine ct_of hl (by decide) (Nat.le_of_ble_eq_true rfl) (fun F hFl hFG hF hN hR hret => ?_)
  subst hFl hFG
  show X F 0 0 [(0, .ref (gA F 75)), (1, .int x1), (2, .int x2), (3, .int x3)] [] S
  have hret : ∀ (v : Int32) (S : St) (pc : Nat) (ls : List (Nat × Value)), (v = r ∧ S = S1) → decode cX8_sampled pc = .ok (.ireturn, 1) → X F 0 pc ls [.int v] S := fun v S2 pc ls hq hd => by obtain ⟨rfl, rfl⟩ := hq; exact hret.1 pc ls v rfl rfl hd
  have hk : r = r ∧ S1 = S1 := ⟨rfl, rfl⟩
  unfold X8_sampled at h
  refine x_aload_n hF dX8_sampled_0 rfl rfl ?_
  refine x_iload_n hF dX8_sampled_1 rfl rfl ?_
  obtain ⟨r1, S2, hcall, h⟩ := ob_some h
  refine x_cSi hF hN hR (ctX8_isFlow hF.tr hcall) mwX8_isFlow tw_1149 tw_1148 ⟨by decide, by decide⟩ rfl rfl (Nat.le_of_ble_eq_true rfl) dX8_sampled_2 ?_
  refine x_if_ne (tgt := 12) hF dX8_sampled_5 (by decide) (fun hc => ?_) (fun hc => ?_)
  · have h := oi_neg hc h
    refine x_iload_n hF dX8_sampled_12 rfl rfl ?_
    refine x_iconst (v := (1 : Int32)) hF dX8_sampled_13 (by decide) ?_
    refine x_bipush (v := (100 : Int32)) hF dX8_sampled_14 (by decide) ?_
    obtain ⟨r3, S4, hcall, h⟩ := ob_some h
    refine x_cSi hF hN hR (ctX8_in hF.tr hcall) mwX8_in tw_1152 tw_1151 ⟨by decide, by decide⟩ rfl rfl (Nat.le_of_ble_eq_true rfl) dX8_sampled_16 ?_
    refine x_if_eq (tgt := 30) hF dX8_sampled_19 (by decide) (fun hc => ?_) (fun hc => ?_)
    · have h := oi_pos hc h
      exact x_sub (xX8_sampled_30 hF hN hR (K := fun v9 S9 => v9 = r ∧ S9 = S1) hret h hk) ⟨rfl, rfl, rfl, rfl, trivial⟩
    · have h := oi_neg hc h
      refine x_iload_n hF dX8_sampled_22 rfl rfl ?_
      refine x_if_lt (tgt := 30) hF dX8_sampled_23 (by decide) (fun hc => ?_) (fun hc => ?_)
      · have h := oi_pos hc h
        exact x_sub (xX8_sampled_30 hF hN hR (K := fun v9 S9 => v9 = r ∧ S9 = S1) hret h hk) ⟨rfl, rfl, rfl, rfl, trivial⟩
      · have h := oi_neg hc h
        refine x_iconst (v := (0 : Int32)) hF dX8_sampled_26 (by decide) ?_
        refine x_goto (tgt := 31) hF dX8_sampled_27 (by decide) ?_
        exact x_sub (xX8_sampled_31 hF hN hR (K := fun v9 S9 => v9 = r ∧ S9 = S1) hret h hk) ⟨rfl, rfl, rfl, rfl, trivial⟩
  · have h := oi_pos hc h
    refine x_iconst (v := (1 : Int32)) hF dX8_sampled_8 (by decide) ?_
    refine x_goto (tgt := 31) hF dX8_sampled_9 (by decide) ?_
    exact x_sub (xX8_sampled_31 hF hN hR (K := fun v9 S9 => v9 = r ∧ S9 = S1) hret h hk) ⟨rfl, rfl, rfl, rfl, trivial⟩
noncomputable def X8_isDropped (x1 : Int32) (x2 : Int32) (S : St) : Option (Int32 × St) :=
  ob (X8_replays x2 S) (fun r1 S2 => og (inb x1 40) (oi ((gi S2 78 (ix x1)) = (-2 : Int32)) (some ((1 : Int32), S2)) (some ((0 : Int32), S2))))
set_option maxHeartbeats 4000000 in
set_option maxRecDepth 20000 in
theorem ctX8_isDropped {l : Launch} {G : Ga} {x1 : Int32} {x2 : Int32} (hl : l.stackTraces = false) {S : St} {r : Int32} {S1 : St} (h : X8_isDropped x1 x2 S = some (r, S1)) : CT l G 7 yX8_isDropped cX8_isDropped 3 (some .boolean) [.ref (G.1 75), .int x1, .int x2] S (some (.int r)) S1 := by
  refine ct_of hl (by decide) (Nat.le_of_ble_eq_true rfl) (fun F hFl hFG hF hN hR hret => ?_)
  subst hFl hFG
  show X F 0 0 [(0, .ref (gA F 75)), (1, .int x1), (2, .int x2)] [] S
  have hret : ∀ (v : Int32) (S : St) (pc : Nat) (ls : List (Nat × Value)), isB v → (v = r ∧ S = S1) → decode cX8_isDropped pc = .ok (.ireturn, 1) → X F 0 pc ls [.int v] S := fun v S2 pc ls hb hq hd => by obtain ⟨rfl, rfl⟩ := hq; exact hret.2.1 pc ls v rfl hb rfl hd
  have hk : r = r ∧ S1 = S1 := ⟨rfl, rfl⟩
  unfold X8_isDropped at h
  refine x_aload_n hF dX8_isDropped_0 rfl rfl ?_
  refine x_iload_n hF dX8_isDropped_1 rfl rfl ?_
  obtain ⟨r1, S2, hcall, h⟩ := ob_some h
  refine x_cVv hF hN hR (ctX8_replays hF.tr hcall) mwX8_replays miX8_replays sh75 ck7 (by decide) tw_1243 ⟨by decide, by decide⟩ rfl rfl (Nat.le_of_ble_eq_true rfl) dX8_isDropped_2 ?_
  refine x_aload_n hF dX8_isDropped_5 rfl rfl ?_
  refine x_getr hF sh75 4 rfl ck7 (by decide) (by decide) tw_1046 rfl dX8_isDropped_6 ?_
  refine x_iload_n hF dX8_isDropped_9 rfl rfl ?_
  obtain ⟨hg, h⟩ := og_some h
  refine x_iald hF sh78 (by decide) hg rfl dX8_isDropped_10 ?_
  refine x_bipush (v := (-2 : Int32)) hF dX8_isDropped_11 (by decide) ?_
  refine x_icmp_ne (tgt := 20) hF dX8_isDropped_13 (by decide) (fun hc => ?_) (fun hc => ?_)
  · have h := oi_neg hc h
    refine x_iconst (v := (0 : Int32)) hF dX8_isDropped_20 (by decide) ?_
    obtain ⟨rfl, rfl⟩ := sm h
    exact hret _ _ _ _ (by decide) hk dX8_isDropped_21
  · have h := oi_pos hc h
    refine x_iconst (v := (1 : Int32)) hF dX8_isDropped_16 (by decide) ?_
    refine x_goto (tgt := 21) hF dX8_isDropped_17 (by decide) ?_
    obtain ⟨rfl, rfl⟩ := sm h
    exact hret _ _ _ _ (by decide) hk dX8_isDropped_21
noncomputable def X8_smallest_121 (x1 : Int32) (x2 : Int32) (x3 : Int32) (x5 : Int32) (z1 : Int32) (S : St) : Option (((Int32 × Int32) ⊕ Int32) × St) :=
  ol (si S 75 25 z1) (fun T8 => oi (x5 = 0) (some (.inl (x2, (x3 + (1 : Int32))), T8)) (some (.inl (x3, (x3 + (1 : Int32))), T8)))
set_option maxHeartbeats 4000000 in
set_option maxRecDepth 20000 in
theorem xX8_smallest_121 {F : Cx} (hF : Ok F cX8_smallest RX8) (hN : nLF F 6) (hR : RmF F 8 0) {x1 : Int32} {x2 : Int32} {x3 : Int32} {x5 : Int32} {z1 : Int32} {K : ((Int32 × Int32) ⊕ Int32) → St → Prop} (hag : ∀ (a : Int32 × Int32) (S : St), K (.inl a) S → X F 0 21 [(0, .ref (gA F 75)), (1, .int x1), (2, .int a.1), (3, .int a.2)] [] S) (hex141 : ∀ (q : Int32) (S : St), K (.inr q) S → X F 0 141 [(2, .int q)] [] S) {S : St} {r : (Int32 × Int32) ⊕ Int32} {S1 : St} (h : X8_smallest_121 x1 x2 x3 x5 z1 S = some (r, S1)) (hk : K r S1) : X F 0 121 [(0, .ref (gA F 75)), (1, .int x1), (2, .int x2), (3, .int x3), (5, .int x5)] [.int z1, .ref (gA F 75)] S := by
  unfold X8_smallest_121 at h
  obtain ⟨T8, eT8, h⟩ := ol_some h
  refine x_puti hF sh75 25 rfl ck7 (by decide) (by decide) tw_1067 rfl rfl rfl rfl rfl eT8 dX8_smallest_121 ?_
  refine x_iload hF dX8_smallest_124 rfl ?_
  refine x_if_eq (tgt := 133) hF dX8_smallest_126 (by decide) (fun hc => ?_) (fun hc => ?_)
  · have h := oi_pos hc h
    refine x_iload_n hF dX8_smallest_133 rfl rfl ?_
    refine x_istore_n [(2, _), (0, _), (1, _), (3, _), (5, _)] hF hN dX8_smallest_134 rfl (by decide) rfl ?_
    refine x_iinc [(3, _), (2, _), (0, _), (1, _), (5, _)] (v := (1 : Int32)) hF hN dX8_smallest_135 rfl (by decide) (by decide) rfl ?_
    refine x_goto (tgt := 21) hF dX8_smallest_138 (by decide) ?_
    obtain ⟨rfl, rfl⟩ := sm h
    exact x_sub (hag _ _ hk) ⟨rfl, rfl, rfl, rfl, trivial⟩
  · have h := oi_neg hc h
    refine x_iload_n hF dX8_smallest_129 rfl rfl ?_
    refine x_goto (tgt := 134) hF dX8_smallest_130 (by decide) ?_
    refine x_istore_n [(2, _), (0, _), (1, _), (3, _), (5, _)] hF hN dX8_smallest_134 rfl (by decide) rfl ?_
    refine x_iinc [(3, _), (2, _), (0, _), (1, _), (5, _)] (v := (1 : Int32)) hF hN dX8_smallest_135 rfl (by decide) (by decide) rfl ?_
    refine x_goto (tgt := 21) hF dX8_smallest_138 (by decide) ?_
    obtain ⟨rfl, rfl⟩ := sm h
    exact x_sub (hag _ _ hk) ⟨rfl, rfl, rfl, rfl, trivial⟩
noncomputable def X8_smallest_103 (x1 : Int32) (x2 : Int32) (x3 : Int32) (z0 : Int32) (S : St) : Option (((Int32 × Int32) ⊕ Int32) × St) :=
  oi (z0 = 0) (X8_smallest_121 x1 x2 x3 z0 ((gi S 75 25) ||| x3) S) (X8_smallest_121 x1 x2 x3 z0 x3 S)
set_option maxHeartbeats 4000000 in
set_option maxRecDepth 20000 in
theorem xX8_smallest_103 {F : Cx} (hF : Ok F cX8_smallest RX8) (hN : nLF F 6) (hR : RmF F 8 0) {x1 : Int32} {x2 : Int32} {x3 : Int32} {z0 : Int32} {K : ((Int32 × Int32) ⊕ Int32) → St → Prop} (hag : ∀ (a : Int32 × Int32) (S : St), K (.inl a) S → X F 0 21 [(0, .ref (gA F 75)), (1, .int x1), (2, .int a.1), (3, .int a.2)] [] S) (hex141 : ∀ (q : Int32) (S : St), K (.inr q) S → X F 0 141 [(2, .int q)] [] S) {S : St} {r : (Int32 × Int32) ⊕ Int32} {S1 : St} (h : X8_smallest_103 x1 x2 x3 z0 S = some (r, S1)) (hk : K r S1) : X F 0 103 [(0, .ref (gA F 75)), (1, .int x1), (2, .int x2), (3, .int x3)] [.int z0] S := by
  unfold X8_smallest_103 at h
  refine x_istore [(5, _), (0, _), (1, _), (2, _), (3, _)] hF hN dX8_smallest_103 (by decide) rfl ?_
  refine x_aload_n hF dX8_smallest_105 rfl rfl ?_
  refine x_iload hF dX8_smallest_106 rfl ?_
  refine x_if_eq (tgt := 115) hF dX8_smallest_108 (by decide) (fun hc => ?_) (fun hc => ?_)
  · have h := oi_pos hc h
    refine x_aload_n hF dX8_smallest_115 rfl rfl ?_
    refine x_geti hF sh75 25 rfl ck7 (by decide) (by decide) tw_1067 rfl dX8_smallest_116 ?_
    refine x_iload_n hF dX8_smallest_119 rfl rfl ?_
    refine x_ior hF dX8_smallest_120 ?_
    exact x_sub (xX8_smallest_121 hF hN hR (K := K) hag hex141 h hk) ⟨rfl, rfl, rfl, rfl, rfl, trivial⟩
  · have h := oi_neg hc h
    refine x_iload_n hF dX8_smallest_111 rfl rfl ?_
    refine x_goto (tgt := 121) hF dX8_smallest_112 (by decide) ?_
    exact x_sub (xX8_smallest_121 hF hN hR (K := K) hag hex141 h hk) ⟨rfl, rfl, rfl, rfl, rfl, trivial⟩
noncomputable def X8_smallest_98 (x1 : Int32) (x2 : Int32) (x3 : Int32) (S : St) : Option (((Int32 × Int32) ⊕ Int32) × St) :=
  X8_smallest_103 x1 x2 x3 (1 : Int32) S
set_option maxHeartbeats 4000000 in
set_option maxRecDepth 20000 in
theorem xX8_smallest_98 {F : Cx} (hF : Ok F cX8_smallest RX8) (hN : nLF F 6) (hR : RmF F 8 0) {x1 : Int32} {x2 : Int32} {x3 : Int32} {K : ((Int32 × Int32) ⊕ Int32) → St → Prop} (hag : ∀ (a : Int32 × Int32) (S : St), K (.inl a) S → X F 0 21 [(0, .ref (gA F 75)), (1, .int x1), (2, .int a.1), (3, .int a.2)] [] S) (hex141 : ∀ (q : Int32) (S : St), K (.inr q) S → X F 0 141 [(2, .int q)] [] S) {S : St} {r : (Int32 × Int32) ⊕ Int32} {S1 : St} (h : X8_smallest_98 x1 x2 x3 S = some (r, S1)) (hk : K r S1) : X F 0 98 [(0, .ref (gA F 75)), (1, .int x1), (2, .int x2), (3, .int x3)] [] S := by
  unfold X8_smallest_98 at h
  refine x_iconst (v := (1 : Int32)) hF dX8_smallest_98 (by decide) ?_
  refine x_goto (tgt := 103) hF dX8_smallest_99 (by decide) ?_
  exact x_sub (xX8_smallest_103 hF hN hR (K := K) hag hex141 h hk) ⟨rfl, rfl, rfl, rfl, trivial⟩
noncomputable def X8_smallest_61 (x1 : Int32) (x2 : Int32) (x3 : Int32) (z0 : Int32) (S : St) : Option (((Int32 × Int32) ⊕ Int32) × St) :=
  oi (z0 = 0) (some (.inl (x2, (x3 + (1 : Int32))), S)) (ob (X8_isDropped x1 ((63 : Int32) &&& (x3 ^^^ (-1 : Int32))) S) (fun r6 S7 => oi (r6 = 0) (oi (x2 = (-1 : Int32)) (X8_smallest_98 x1 x2 x3 S7) (ob (X8_size x3 S7) (fun r9 S10 => ob (X8_size x2 S10) (fun r11 S12 => oi (r11 ≤ r9) (X8_smallest_103 x1 x2 x3 (0 : Int32) S12) (X8_smallest_98 x1 x2 x3 S12))))) (some (.inl (x2, (x3 + (1 : Int32))), S7))))
set_option maxHeartbeats 4000000 in
set_option maxRecDepth 20000 in
theorem xX8_smallest_61 {F : Cx} (hF : Ok F cX8_smallest RX8) (hN : nLF F 6) (hR : RmF F 8 0) {x1 : Int32} {x2 : Int32} {x3 : Int32} {z0 : Int32} {K : ((Int32 × Int32) ⊕ Int32) → St → Prop} (hag : ∀ (a : Int32 × Int32) (S : St), K (.inl a) S → X F 0 21 [(0, .ref (gA F 75)), (1, .int x1), (2, .int a.1), (3, .int a.2)] [] S) (hex141 : ∀ (q : Int32) (S : St), K (.inr q) S → X F 0 141 [(2, .int q)] [] S) {S : St} {r : (Int32 × Int32) ⊕ Int32} {S1 : St} (h : X8_smallest_61 x1 x2 x3 z0 S = some (r, S1)) (hk : K r S1) : X F 0 61 [(0, .ref (gA F 75)), (1, .int x1), (2, .int x2), (3, .int x3)] [.int z0] S := by
  unfold X8_smallest_61 at h
  refine x_istore [(4, _), (0, _), (1, _), (2, _), (3, _)] hF hN dX8_smallest_61 (by decide) rfl ?_
  refine x_iload hF dX8_smallest_63 rfl ?_
  refine x_if_eq (tgt := 135) hF dX8_smallest_65 (by decide) (fun hc => ?_) (fun hc => ?_)
  · have h := oi_pos hc h
    refine x_iinc [(3, _), (4, _), (0, _), (1, _), (2, _)] (v := (1 : Int32)) hF hN dX8_smallest_135 rfl (by decide) (by decide) rfl ?_
    refine x_goto (tgt := 21) hF dX8_smallest_138 (by decide) ?_
    obtain ⟨rfl, rfl⟩ := sm h
    exact x_sub (hag _ _ hk) ⟨rfl, rfl, rfl, rfl, trivial⟩
  · have h := oi_neg hc h
    refine x_aload_n hF dX8_smallest_68 rfl rfl ?_
    refine x_iload_n hF dX8_smallest_69 rfl rfl ?_
    refine x_bipush (v := (63 : Int32)) hF dX8_smallest_70 (by decide) ?_
    refine x_iload_n hF dX8_smallest_72 rfl rfl ?_
    refine x_iconst (v := (-1 : Int32)) hF dX8_smallest_73 (by decide) ?_
    refine x_ixor hF dX8_smallest_74 ?_
    refine x_iand hF dX8_smallest_75 ?_
    obtain ⟨r6, S7, hcall, h⟩ := ob_some h
    refine x_cVi hF hN hR (ctX8_isDropped hF.tr hcall) mwX8_isDropped miX8_isDropped sh75 ck7 (by decide) tw_1399 ⟨by decide, by decide⟩ rfl rfl (Nat.le_of_ble_eq_true rfl) dX8_smallest_76 ?_
    refine x_if_ne (tgt := 135) hF dX8_smallest_79 (by decide) (fun hc => ?_) (fun hc => ?_)
    · have h := oi_neg hc h
      refine x_iinc [(3, _), (4, _), (0, _), (1, _), (2, _)] (v := (1 : Int32)) hF hN dX8_smallest_135 rfl (by decide) (by decide) rfl ?_
      refine x_goto (tgt := 21) hF dX8_smallest_138 (by decide) ?_
      obtain ⟨rfl, rfl⟩ := sm h
      exact x_sub (hag _ _ hk) ⟨rfl, rfl, rfl, rfl, trivial⟩
    · have h := oi_pos hc h
      refine x_iload_n hF dX8_smallest_82 rfl rfl ?_
      refine x_iconst (v := (-1 : Int32)) hF dX8_smallest_83 (by decide) ?_
      refine x_icmp_eq (tgt := 98) hF dX8_smallest_84 (by decide) (fun hc => ?_) (fun hc => ?_)
      · have h := oi_pos hc h
        exact x_sub (xX8_smallest_98 hF hN hR (K := K) hag hex141 h hk) ⟨rfl, rfl, rfl, rfl, trivial⟩
      · have h := oi_neg hc h
        refine x_iload_n hF dX8_smallest_87 rfl rfl ?_
        obtain ⟨r9, S10, hcall, h⟩ := ob_some h
        refine x_cSi hF hN hR (ctX8_size hF.tr hcall) mwX8_size tw_1352 tw_1351 ⟨by decide, by decide⟩ rfl rfl (Nat.le_of_ble_eq_true rfl) dX8_smallest_88 ?_
        refine x_iload_n hF dX8_smallest_91 rfl rfl ?_
        obtain ⟨r11, S12, hcall, h⟩ := ob_some h
        refine x_cSi hF hN hR (ctX8_size hF.tr hcall) mwX8_size tw_1352 tw_1351 ⟨by decide, by decide⟩ rfl rfl (Nat.le_of_ble_eq_true rfl) dX8_smallest_92 ?_
        refine x_icmp_ge (tgt := 102) hF dX8_smallest_95 (by decide) (fun hc => ?_) (fun hc => ?_)
        · have h := oi_pos hc h
          refine x_iconst (v := (0 : Int32)) hF dX8_smallest_102 (by decide) ?_
          exact x_sub (xX8_smallest_103 hF hN hR (K := K) hag hex141 h hk) ⟨rfl, rfl, rfl, rfl, trivial⟩
        · have h := oi_neg hc h
          exact x_sub (xX8_smallest_98 hF hN hR (K := K) hag hex141 h hk) ⟨rfl, rfl, rfl, rfl, trivial⟩
noncomputable def X8_smallest_60 (x1 : Int32) (x2 : Int32) (x3 : Int32) (S : St) : Option (((Int32 × Int32) ⊕ Int32) × St) :=
  X8_smallest_61 x1 x2 x3 (0 : Int32) S
set_option maxHeartbeats 4000000 in
set_option maxRecDepth 20000 in
theorem xX8_smallest_60 {F : Cx} (hF : Ok F cX8_smallest RX8) (hN : nLF F 6) (hR : RmF F 8 0) {x1 : Int32} {x2 : Int32} {x3 : Int32} {K : ((Int32 × Int32) ⊕ Int32) → St → Prop} (hag : ∀ (a : Int32 × Int32) (S : St), K (.inl a) S → X F 0 21 [(0, .ref (gA F 75)), (1, .int x1), (2, .int a.1), (3, .int a.2)] [] S) (hex141 : ∀ (q : Int32) (S : St), K (.inr q) S → X F 0 141 [(2, .int q)] [] S) {S : St} {r : (Int32 × Int32) ⊕ Int32} {S1 : St} (h : X8_smallest_60 x1 x2 x3 S = some (r, S1)) (hk : K r S1) : X F 0 60 [(0, .ref (gA F 75)), (1, .int x1), (2, .int x2), (3, .int x3)] [] S := by
  unfold X8_smallest_60 at h
  refine x_iconst (v := (0 : Int32)) hF dX8_smallest_60 (by decide) ?_
  exact x_sub (xX8_smallest_61 hF hN hR (K := K) hag hex141 h hk) ⟨rfl, rfl, rfl, rfl, trivial⟩
noncomputable def X8_smallest_56 (x1 : Int32) (x2 : Int32) (x3 : Int32) (S : St) : Option (((Int32 × Int32) ⊕ Int32) × St) :=
  X8_smallest_61 x1 x2 x3 (1 : Int32) S
set_option maxHeartbeats 4000000 in
set_option maxRecDepth 20000 in
theorem xX8_smallest_56 {F : Cx} (hF : Ok F cX8_smallest RX8) (hN : nLF F 6) (hR : RmF F 8 0) {x1 : Int32} {x2 : Int32} {x3 : Int32} {K : ((Int32 × Int32) ⊕ Int32) → St → Prop} (hag : ∀ (a : Int32 × Int32) (S : St), K (.inl a) S → X F 0 21 [(0, .ref (gA F 75)), (1, .int x1), (2, .int a.1), (3, .int a.2)] [] S) (hex141 : ∀ (q : Int32) (S : St), K (.inr q) S → X F 0 141 [(2, .int q)] [] S) {S : St} {r : (Int32 × Int32) ⊕ Int32} {S1 : St} (h : X8_smallest_56 x1 x2 x3 S = some (r, S1)) (hk : K r S1) : X F 0 56 [(0, .ref (gA F 75)), (1, .int x1), (2, .int x2), (3, .int x3)] [] S := by
  unfold X8_smallest_56 at h
  refine x_iconst (v := (1 : Int32)) hF dX8_smallest_56 (by decide) ?_
  refine x_goto (tgt := 61) hF dX8_smallest_57 (by decide) ?_
  exact x_sub (xX8_smallest_61 hF hN hR (K := K) hag hex141 h hk) ⟨rfl, rfl, rfl, rfl, trivial⟩
noncomputable def X8_smallest_21 (x1 : Int32) (x2 : Int32) (x3 : Int32) (S : St) : Option (((Int32 × Int32) ⊕ Int32) × St) :=
  oi ((63 : Int32) < x3) (some (.inr x2, S)) (ob (X8_of x1 (1 : Int32) S) (fun r4 S5 => oi (((x3 >>> (r4 &&& 31)) &&& (1 : Int32)) = 0) (oi (x2 = (-1 : Int32)) (X8_smallest_56 x1 x2 x3 S5) (ob (X8_size x3 S5) (fun r13 S14 => ob (X8_size x2 S14) (fun r15 S16 => oi (r15 < r13) (X8_smallest_60 x1 x2 x3 S16) (X8_smallest_56 x1 x2 x3 S16))))) (X8_smallest_60 x1 x2 x3 S5)))
set_option maxHeartbeats 4000000 in
set_option maxRecDepth 20000 in
theorem xX8_smallest_21 {F : Cx} (hF : Ok F cX8_smallest RX8) (hN : nLF F 6) (hR : RmF F 8 0) {x1 : Int32} {x2 : Int32} {x3 : Int32} {K : ((Int32 × Int32) ⊕ Int32) → St → Prop} (hag : ∀ (a : Int32 × Int32) (S : St), K (.inl a) S → X F 0 21 [(0, .ref (gA F 75)), (1, .int x1), (2, .int a.1), (3, .int a.2)] [] S) (hex141 : ∀ (q : Int32) (S : St), K (.inr q) S → X F 0 141 [(2, .int q)] [] S) {S : St} {r : (Int32 × Int32) ⊕ Int32} {S1 : St} (h : X8_smallest_21 x1 x2 x3 S = some (r, S1)) (hk : K r S1) : X F 0 21 [(0, .ref (gA F 75)), (1, .int x1), (2, .int x2), (3, .int x3)] [] S := by
  unfold X8_smallest_21 at h
  refine x_iload_n hF dX8_smallest_21 rfl rfl ?_
  refine x_bipush (v := (63 : Int32)) hF dX8_smallest_22 (by decide) ?_
  refine x_icmp_gt (tgt := 141) hF dX8_smallest_24 (by decide) (fun hc => ?_) (fun hc => ?_)
  · have h := oi_pos hc h
    obtain ⟨rfl, rfl⟩ := sm h
    exact x_sub (hex141 _ _ hk) ⟨rfl, trivial⟩
  · have h := oi_neg hc h
    refine x_iload_n hF dX8_smallest_27 rfl rfl ?_
    refine x_aload_n hF dX8_smallest_28 rfl rfl ?_
    refine x_iload_n hF dX8_smallest_29 rfl rfl ?_
    refine x_iconst (v := (1 : Int32)) hF dX8_smallest_30 (by decide) ?_
    obtain ⟨r4, S5, hcall, h⟩ := ob_some h
    refine x_cVi hF hN hR (ctX8_of hF.tr hcall) mwX8_of miX8_of sh75 ck7 (by decide) tw_1166 ⟨by decide, by decide⟩ rfl rfl (Nat.le_of_ble_eq_true rfl) dX8_smallest_31 ?_
    refine x_ishr hF dX8_smallest_34 ?_
    refine x_iconst (v := (1 : Int32)) hF dX8_smallest_35 (by decide) ?_
    refine x_iand hF dX8_smallest_36 ?_
    refine x_if_ne (tgt := 60) hF dX8_smallest_37 (by decide) (fun hc => ?_) (fun hc => ?_)
    · have h := oi_neg hc h
      exact x_sub (xX8_smallest_60 hF hN hR (K := K) hag hex141 h hk) ⟨rfl, rfl, rfl, rfl, trivial⟩
    · have h := oi_pos hc h
      refine x_iload_n hF dX8_smallest_40 rfl rfl ?_
      refine x_iconst (v := (-1 : Int32)) hF dX8_smallest_41 (by decide) ?_
      refine x_icmp_eq (tgt := 56) hF dX8_smallest_42 (by decide) (fun hc => ?_) (fun hc => ?_)
      · have h := oi_pos hc h
        exact x_sub (xX8_smallest_56 hF hN hR (K := K) hag hex141 h hk) ⟨rfl, rfl, rfl, rfl, trivial⟩
      · have h := oi_neg hc h
        refine x_iload_n hF dX8_smallest_45 rfl rfl ?_
        obtain ⟨r13, S14, hcall, h⟩ := ob_some h
        refine x_cSi hF hN hR (ctX8_size hF.tr hcall) mwX8_size tw_1352 tw_1351 ⟨by decide, by decide⟩ rfl rfl (Nat.le_of_ble_eq_true rfl) dX8_smallest_46 ?_
        refine x_iload_n hF dX8_smallest_49 rfl rfl ?_
        obtain ⟨r15, S16, hcall, h⟩ := ob_some h
        refine x_cSi hF hN hR (ctX8_size hF.tr hcall) mwX8_size tw_1352 tw_1351 ⟨by decide, by decide⟩ rfl rfl (Nat.le_of_ble_eq_true rfl) dX8_smallest_50 ?_
        refine x_icmp_gt (tgt := 60) hF dX8_smallest_53 (by decide) (fun hc => ?_) (fun hc => ?_)
        · have h := oi_pos hc h
          exact x_sub (xX8_smallest_60 hF hN hR (K := K) hag hex141 h hk) ⟨rfl, rfl, rfl, rfl, trivial⟩
        · have h := oi_neg hc h
          exact x_sub (xX8_smallest_56 hF hN hR (K := K) hag hex141 h hk) ⟨rfl, rfl, rfl, rfl, trivial⟩
noncomputable def X8_smallest_21L (x1 : Int32) (a : Int32 × Int32) (S : St) : Option (Int32 × St) :=
  lp (fun (a : Int32 × Int32) (S : St) => X8_smallest_21 x1 a.1 a.2 S) a S
theorem xX8_smallest_21L {F : Cx} (hF : Ok F cX8_smallest RX8) (hN : nLF F 6) (hR : RmF F 8 0) {x1 : Int32} {K : Int32 → St → Prop} (hex141 : ∀ (q : Int32) (S : St), K (q) S → X F 0 141 [(2, .int q)] [] S) {a : Int32 × Int32} {S : St} {b : Int32} {S1 : St} (h : X8_smallest_21L x1 a S = some (b, S1)) (hk : K b S1) : X F 0 21 [(0, .ref (gA F 75)), (1, .int x1), (2, .int a.1), (3, .int a.2)] [] S := by
  unfold X8_smallest_21L at h
  exact lp_rule (Xh := fun (a : Int32 × Int32) (S : St) => X F 0 21 [(0, .ref (gA F 75)), (1, .int x1), (2, .int a.1), (3, .int a.2)] [] S) (K := K) (fun a S r S1 h hk => xX8_smallest_21 hF hN hR (K := fun r S => match r with | .inl a => X F 0 21 [(0, .ref (gA F 75)), (1, .int x1), (2, .int a.1), (3, .int a.2)] [] S | .inr b => K b S) (fun _ _ h => h) (fun q S h => hex141 q S h) h (by cases r <;> exact hk)) h hk
noncomputable def X8_smallest (x1 : Int32) (S : St) : Option (Int32 × St) :=
  ol (si S 75 25 (0 : Int32)) (fun T1 => ob (X8_isDropped x1 (63 : Int32) T1) (fun r2 S3 => oi (r2 = 0) (some ((0 : Int32), S3)) (ob (X8_smallest_21L x1 ((-1 : Int32), (1 : Int32)) S3) (fun b17 S18 => some (b17, S18)))))
set_option maxHeartbeats 4000000 in
set_option maxRecDepth 20000 in
theorem ctX8_smallest {l : Launch} {G : Ga} {x1 : Int32} (hl : l.stackTraces = false) {S : St} {r : Int32} {S1 : St} (h : X8_smallest x1 S = some (r, S1)) : CT l G 8 yX8_smallest cX8_smallest 6 (some .int) [.ref (G.1 75), .int x1] S (some (.int r)) S1 := by
  refine ct_of hl (by decide) (Nat.le_of_ble_eq_true rfl) (fun F hFl hFG hF hN hR hret => ?_)
  subst hFl hFG
  show X F 0 0 [(0, .ref (gA F 75)), (1, .int x1)] [] S
  have hret : ∀ (v : Int32) (S : St) (pc : Nat) (ls : List (Nat × Value)), (v = r ∧ S = S1) → decode cX8_smallest pc = .ok (.ireturn, 1) → X F 0 pc ls [.int v] S := fun v S2 pc ls hq hd => by obtain ⟨rfl, rfl⟩ := hq; exact hret.1 pc ls v rfl rfl hd
  have hk : r = r ∧ S1 = S1 := ⟨rfl, rfl⟩
  unfold X8_smallest at h
  refine x_iconst (v := (-1 : Int32)) hF dX8_smallest_0 (by decide) ?_
  refine x_istore_n [(2, _), (0, _), (1, _)] hF hN dX8_smallest_1 rfl (by decide) rfl ?_
  refine x_aload_n hF dX8_smallest_2 rfl rfl ?_
  refine x_iconst (v := (0 : Int32)) hF dX8_smallest_3 (by decide) ?_
  obtain ⟨T1, eT1, h⟩ := ol_some h
  refine x_puti hF sh75 25 rfl ck7 (by decide) (by decide) tw_1067 rfl rfl rfl rfl rfl eT1 dX8_smallest_4 ?_
  refine x_aload_n hF dX8_smallest_7 rfl rfl ?_
  refine x_iload_n hF dX8_smallest_8 rfl rfl ?_
  refine x_bipush (v := (63 : Int32)) hF dX8_smallest_9 (by decide) ?_
  obtain ⟨r2, S3, hcall, h⟩ := ob_some h
  refine x_cVi hF hN hR (ctX8_isDropped hF.tr hcall) mwX8_isDropped miX8_isDropped sh75 ck7 (by decide) tw_1399 ⟨by decide, by decide⟩ rfl rfl (Nat.le_of_ble_eq_true rfl) dX8_smallest_11 ?_
  refine x_if_ne (tgt := 19) hF dX8_smallest_14 (by decide) (fun hc => ?_) (fun hc => ?_)
  · have h := oi_neg hc h
    refine x_iconst (v := (1 : Int32)) hF dX8_smallest_19 (by decide) ?_
    refine x_istore_n [(3, _), (2, _), (0, _), (1, _)] hF hN dX8_smallest_20 rfl (by decide) rfl ?_
    obtain ⟨b17, S18, hlb17, h⟩ := ob_some h
    refine x_sub (xX8_smallest_21L hF hN hR (K := fun bb SS => bb = b17 ∧ SS = S18) ?_ hlb17 ⟨rfl, rfl⟩) ⟨rfl, rfl, rfl, rfl, trivial⟩
    rintro _ _ ⟨rfl, rfl⟩
    refine x_iload_n hF dX8_smallest_141 rfl rfl ?_
    obtain ⟨rfl, rfl⟩ := sm h
    exact hret _ _ _ _ hk dX8_smallest_142
  · have h := oi_pos hc h
    refine x_iconst (v := (0 : Int32)) hF dX8_smallest_17 (by decide) ?_
    obtain ⟨rfl, rfl⟩ := sm h
    exact hret _ _ _ _ hk dX8_smallest_18
