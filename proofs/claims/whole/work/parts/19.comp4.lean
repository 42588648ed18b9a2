noncomputable def X7_sampled_19 (S : St) : Option ((Int32 ⊕ Nat) × St) :=
  some (.inr 1, S)
set_option maxHeartbeats 4000000 in
set_option maxRecDepth 20000 in
theorem xX7_sampled_19 {F : Cx} (hF : Ok F cX7_sampled RX7) (hN : nLF F 8) (hR : RmF F 7 2) {K : (Int32 ⊕ Nat) → St → Prop} (hret : ∀ (v : Int32) (S : St) (u pc : Nat) (ls : List (Nat × Value)), u ≤ 2 → K (.inl v) S → decode cX7_sampled pc = .ok (.ireturn, 1) → X F u pc ls [.int v] S) (hxt : ∀ (e : Nat) (S : St) (u pc : Nat) (ls : List (Nat × Value)), u ≤ 2 → K (.inr e) S → XT F u pc e ls S) (hthr : ∀ {e : Nat} {S : St} {u pc ik is j : Nat} {tx : String} {ls : List (Nat × Value)} {st : List Value}, u + 1 ≤ 2 → e < 3 → (st.map fun v => v.category).sum ≤ 8 → K (.inr e) S → Thr cX7_sampled pc e ik is j tx ∨ ThrW cX7_sampled pc e ik is j tx → X F u pc ls st S) {S : St} {r : (Int32 ⊕ Nat)} {S1 : St} (h : X7_sampled_19  S = some (r, S1)) (hk : K r S1) : X F 1 19 [] [] S := by
  unfold X7_sampled_19 at h
  obtain ⟨rfl, rfl⟩ := sm h
  exact hthr (e := 1) (j := 10) (by decide) (by decide) (Nat.le_of_ble_eq_true rfl) hk (Or.inl ⟨tw_665, tw_84, rfl, dX7_sampled_19, dX7_sampled_22, dX7_sampled_23, dX7_sampled_25, dX7_sampled_28⟩)
noncomputable def X7_sampled_44 (x1 : Int32) (x2 : Int32) (x4 : Int64) (x6 : Int32) (x7 : Int32) (S : St) : Option (((Int64 × Int32 × Int32) ⊕ Int32) × St) :=
  oi (x2 ≤ x7) (some (.inr x6, S)) (ob (X7_drawOrder x4 S) (fun r5 S6 => ob (X7_flowsBefore x1 S6) (fun r7 S8 => ob (X7_contributionTo r7 x1 S8) (fun r9 S10 => some (.inl (r5, (x6 + r9), (x7 + (1 : Int32))), S10)))))
set_option maxHeartbeats 4000000 in
set_option maxRecDepth 20000 in
theorem xX7_sampled_44 {F : Cx} (hF : Ok F cX7_sampled RX7) (hN : nLF F 8) (hR : RmF F 7 2) {x1 : Int32} {x2 : Int32} {x4 : Int64} {x6 : Int32} {x7 : Int32} {K : ((Int64 × Int32 × Int32) ⊕ Int32) → St → Prop} (hag : ∀ (a : Int64 × Int32 × Int32) (S : St), K (.inl a) S → X F 1 44 [(0, .ref (gA F 0)), (1, .int x1), (2, .int x2), (4, .long a.1), (6, .int a.2.1), (7, .int a.2.2)] [] S) (hex79 : ∀ (q : Int32) (S : St), K (.inr q) S → X F 1 79 [(6, .int q)] [] S) {S : St} {r : (Int64 × Int32 × Int32) ⊕ Int32} {S1 : St} (h : X7_sampled_44 x1 x2 x4 x6 x7 S = some (r, S1)) (hk : K r S1) : X F 1 44 [(0, .ref (gA F 0)), (1, .int x1), (2, .int x2), (4, .long x4), (6, .int x6), (7, .int x7)] [] S := by
  unfold X7_sampled_44 at h
  refine x_iload hF dX7_sampled_44 rfl ?_
  refine x_iload_n hF dX7_sampled_46 rfl rfl ?_
  refine x_icmp_ge (tgt := 79) hF dX7_sampled_47 (by decide) (fun hc => ?_) (fun hc => ?_)
  · have h := oi_pos hc h
    obtain ⟨rfl, rfl⟩ := sm h
    exact x_sub (hex79 _ _ hk) ⟨rfl, trivial⟩
  · have h := oi_neg hc h
    refine x_aload_n hF dX7_sampled_50 rfl rfl ?_
    refine x_lload hF dX7_sampled_51 rfl ?_
    obtain ⟨r5, S6, hcall, h⟩ := ob_some h
    refine x_cVl hF hN hR (ctX7_drawOrder hF.tr hcall) mwX7_drawOrder miX7_drawOrder sh0 ck6 (by decide) tw_939 ⟨by decide, by decide⟩ rfl rfl (Nat.le_of_ble_eq_true rfl) dX7_sampled_53 ?_
    refine x_lstore [(4, _), (0, _), (1, _), (2, _), (6, _), (7, _)] hF hN dX7_sampled_56 (by decide) rfl ?_
    refine x_iload hF dX7_sampled_58 rfl ?_
    refine x_aload_n hF dX7_sampled_60 rfl rfl ?_
    refine x_aload_n hF dX7_sampled_61 rfl rfl ?_
    refine x_iload_n hF dX7_sampled_62 rfl rfl ?_
    obtain ⟨r7, S8, hcall, h⟩ := ob_some h
    refine x_cVi hF hN hR (ctX7_flowsBefore hF.tr hcall) mwX7_flowsBefore miX7_flowsBefore sh0 ck6 (by decide) tw_946 ⟨by decide, by decide⟩ rfl rfl (Nat.le_of_ble_eq_true rfl) dX7_sampled_63 ?_
    refine x_iload_n hF dX7_sampled_66 rfl rfl ?_
    obtain ⟨r9, S10, hcall, h⟩ := ob_some h
    refine x_cVi hF hN hR (ctX7_contributionTo hF.tr hcall) mwX7_contributionTo miX7_contributionTo sh0 ck6 (by decide) tw_876 ⟨by decide, by decide⟩ rfl rfl (Nat.le_of_ble_eq_true rfl) dX7_sampled_67 ?_
    refine x_iadd hF dX7_sampled_70 ?_
    refine x_istore [(6, _), (4, _), (0, _), (1, _), (2, _), (7, _)] hF hN dX7_sampled_71 (by decide) rfl ?_
    refine x_iinc [(7, _), (6, _), (4, _), (0, _), (1, _), (2, _)] (v := (1 : Int32)) hF hN dX7_sampled_73 rfl (by decide) (by decide) rfl ?_
    refine x_goto (tgt := 44) hF dX7_sampled_76 (by decide) ?_
    obtain ⟨rfl, rfl⟩ := sm h
    exact x_sub (hag _ _ hk) ⟨rfl, rfl, rfl, rfl, rfl, rfl, trivial⟩
noncomputable def X7_sampled_44L (x1 : Int32) (x2 : Int32) (a : Int64 × Int32 × Int32) (S : St) : Option (Int32 × St) :=
  lp (fun (a : Int64 × Int32 × Int32) (S : St) => X7_sampled_44 x1 x2 a.1 a.2.1 a.2.2 S) a S
theorem xX7_sampled_44L {F : Cx} (hF : Ok F cX7_sampled RX7) (hN : nLF F 8) (hR : RmF F 7 2) {x1 : Int32} {x2 : Int32} {K : Int32 → St → Prop} (hex79 : ∀ (q : Int32) (S : St), K (q) S → X F 1 79 [(6, .int q)] [] S) {a : Int64 × Int32 × Int32} {S : St} {b : Int32} {S1 : St} (h : X7_sampled_44L x1 x2 a S = some (b, S1)) (hk : K b S1) : X F 1 44 [(0, .ref (gA F 0)), (1, .int x1), (2, .int x2), (4, .long a.1), (6, .int a.2.1), (7, .int a.2.2)] [] S := by
  unfold X7_sampled_44L at h
  exact lp_rule (Xh := fun (a : Int64 × Int32 × Int32) (S : St) => X F 1 44 [(0, .ref (gA F 0)), (1, .int x1), (2, .int x2), (4, .long a.1), (6, .int a.2.1), (7, .int a.2.2)] [] S) (K := K) (fun a S r S1 h hk => xX7_sampled_44 hF hN hR (K := fun r S => match r with | .inl a => X F 1 44 [(0, .ref (gA F 0)), (1, .int x1), (2, .int x2), (4, .long a.1), (6, .int a.2.1), (7, .int a.2.2)] [] S | .inr b => K b S) (fun _ _ h => h) (fun q S h => hex79 q S h) h (by cases r <;> exact hk)) h hk
noncomputable def X7_sampled (x1 : Int32) (x2 : Int32) (x3 : Int32) (S : St) : Option ((Int32 ⊕ Nat) × St) :=
  obx (X7_requireFlow x1 S) (fun r1 S2 => oi (x2 < (1 : Int32)) (X7_sampled_19  S2) (oi ((100 : Int32) < x2) (X7_sampled_19  S2) (oi (0 ≤ x3) (ob (X7_fillWorths (-1 : Int32) S2) (fun r3 S4 => ob (X7_sampled_44L x1 x2 (x3.toInt64, (0 : Int32), (0 : Int32)) S4) (fun b11 S12 => some (.inl b11, S12)))) (X7_sampled_19  S2))))
set_option maxHeartbeats 4000000 in
set_option maxRecDepth 20000 in
theorem cxX7_sampled {l : Launch} {G : Ga} {x1 : Int32} {x2 : Int32} {x3 : Int32} (hl : l.stackTraces = false) {S : St} {r : (Int32 ⊕ Nat)} {S1 : St} (h : X7_sampled x1 x2 x3 S = some (r, S1)) : CX l G 7 2 yX7_sampled cX7_sampled 8 (some .int) [.ref (G.1 0), .int x1, .int x2, .int x3] S (rvI r) S1 := by
  refine cx_of hl (by decide) rfl (by decide) (Nat.le_of_ble_eq_true rfl) (fun F hFl hFG hF hN hR hret => ?_)
  subst hFl hFG
  show X F 0 0 [(0, .ref (gA F 0)), (1, .int x1), (2, .int x2), (3, .int x3)] [] S
  have hxt : ∀ (e : Nat) (S : St) (u pc : Nat) (ls : List (Nat × Value)), u ≤ 2 → (.inr e = r ∧ S = S1) → XT F u pc e ls S := fun e S2 u pc ls hu hq => by obtain ⟨rfl, rfl⟩ := hq; exact hret.2.2.1 u pc e ls hu rfl
  have hthr : ∀ {e : Nat} {S : St} {u pc ik is j : Nat} {tx : String} {ls : List (Nat × Value)} {st : List Value}, u + 1 ≤ 2 → e < 3 → (st.map fun v => v.category).sum ≤ 8 → (.inr e = r ∧ S = S1) → Thr cX7_sampled pc e ik is j tx ∨ ThrW cX7_sampled pc e ik is j tx → X F u pc ls st S := fun {e S2 u pc ik is j tx ls st} hu he hs hq hT => by obtain ⟨rfl, rfl⟩ := hq; exact hret.2.2.2 u pc e ik is j tx ls st hu he hs rfl hT
  have hret : ∀ (v : Int32) (S : St) (u pc : Nat) (ls : List (Nat × Value)), u ≤ 2 → (.inl v = r ∧ S = S1) → decode cX7_sampled pc = .ok (.ireturn, 1) → X F u pc ls [.int v] S := fun v S2 u pc ls hu hq hd => by obtain ⟨rfl, rfl⟩ := hq; exact hret.1 u pc ls v hu rfl rfl hd
  have hk : r = r ∧ S1 = S1 := ⟨rfl, rfl⟩
  unfold X7_sampled at h
  refine x_iload_n hF dX7_sampled_0 rfl rfl ?_
  rcases obx_some h with ⟨r1, S2, hcall, h⟩ | ⟨r1, hcall, h⟩
  · refine x_xSv hF hN hR (cxX7_requireFlow hF.tr hcall) mwX7_requireFlow tw_589 tw_588 ⟨by decide, by decide⟩ rfl rfl (Nat.le_of_ble_eq_true rfl) dX7_sampled_1 ?_
    refine x_iload_n hF dX7_sampled_4 rfl rfl ?_
    refine x_iconst (v := (1 : Int32)) hF dX7_sampled_5 (by decide) ?_
    refine x_icmp_lt (tgt := 19) hF dX7_sampled_6 (by decide) (fun hc => ?_) (fun hc => ?_)
    · have h := oi_pos hc h
      exact x_sub (xX7_sampled_19 hF hN hR (K := fun v9 S9 => v9 = r ∧ S9 = S1) hret hxt hthr h hk) trivial
    · have h := oi_neg hc h
      refine x_iload_n hF dX7_sampled_9 rfl rfl ?_
      refine x_bipush (v := (100 : Int32)) hF dX7_sampled_10 (by decide) ?_
      refine x_icmp_gt (tgt := 19) hF dX7_sampled_12 (by decide) (fun hc => ?_) (fun hc => ?_)
      · have h := oi_pos hc h
        exact x_sub (xX7_sampled_19 hF hN hR (K := fun v9 S9 => v9 = r ∧ S9 = S1) hret hxt hthr h hk) trivial
      · have h := oi_neg hc h
        refine x_iload_n hF dX7_sampled_15 rfl rfl ?_
        refine x_if_ge (tgt := 29) hF dX7_sampled_16 (by decide) (fun hc => ?_) (fun hc => ?_)
        · have h := oi_pos hc h
          refine x_aload_n hF dX7_sampled_29 rfl rfl ?_
          refine x_iconst (v := (-1 : Int32)) hF dX7_sampled_30 (by decide) ?_
          obtain ⟨r3, S4, hcall, h⟩ := ob_some h
          refine x_cVv hF hN hR (ctX7_fillWorths hF.tr hcall) mwX7_fillWorths miX7_fillWorths sh0 ck6 (by decide) tw_564 ⟨by decide, by decide⟩ rfl rfl (Nat.le_of_ble_eq_true rfl) dX7_sampled_31 ?_
          refine x_iload_n hF dX7_sampled_34 rfl rfl ?_
          refine x_i2l hF dX7_sampled_35 ?_
          refine x_lstore [(4, _), (0, _), (1, _), (2, _), (3, _)] hF hN dX7_sampled_36 (by decide) rfl ?_
          refine x_iconst (v := (0 : Int32)) hF dX7_sampled_38 (by decide) ?_
          refine x_istore [(6, _), (4, _), (0, _), (1, _), (2, _), (3, _)] hF hN dX7_sampled_39 (by decide) rfl ?_
          refine x_iconst (v := (0 : Int32)) hF dX7_sampled_41 (by decide) ?_
          refine x_istore [(7, _), (6, _), (4, _), (0, _), (1, _), (2, _), (3, _)] hF hN dX7_sampled_42 (by decide) rfl ?_
          obtain ⟨b11, S12, hlb11, h⟩ := ob_some h
          refine x_sub (xX7_sampled_44L hF hN hR (K := fun bb SS => bb = b11 ∧ SS = S12) ?_ hlb11 ⟨rfl, rfl⟩) ⟨rfl, rfl, rfl, rfl, rfl, rfl, trivial⟩
          rintro _ _ ⟨rfl, rfl⟩
          refine x_iload hF dX7_sampled_79 rfl ?_
          obtain ⟨rfl, rfl⟩ := sm h
          exact hret _ _ _ _ _ (by decide) hk dX7_sampled_81
        · have h := oi_neg hc h
          exact x_sub (xX7_sampled_19 hF hN hR (K := fun v9 S9 => v9 = r ∧ S9 = S1) hret hxt hthr h hk) trivial
  · subst h
    exact x_xSt hF hN hR (cxX7_requireFlow hF.tr hcall) mwX7_requireFlow tw_589 tw_588 ⟨by decide, by decide⟩ rfl rfl (Nat.le_of_ble_eq_true rfl) dX7_sampled_1 (hxt _ _ _ _ _ (by decide) hk)
noncomputable def X7_isDroppedWith (x1 : Int32) (x2 : Int32) (S : St) : Option (Int32 × St) :=
  ob (X5_play 58 x1 (gi S 5 0) (gi S 5 2) S) (fun r1 S2 => ob (X3_fateOf 59 x2 S2) (fun r3 S4 => oi (r3 = (-2 : Int32)) (some ((1 : Int32), S4)) (some ((0 : Int32), S4))))
set_option maxHeartbeats 4000000 in
set_option maxRecDepth 20000 in
theorem ctX7_isDroppedWith {l : Launch} {G : Ga} {x1 : Int32} {x2 : Int32} (hl : l.stackTraces = false) {S : St} {r : Int32} {S1 : St} (h : X7_isDroppedWith x1 x2 S = some (r, S1)) : CT l G 5 yX7_isDroppedWith cX7_isDroppedWith 3 (some .boolean) [.ref (G.1 0), .int x1, .int x2] S (some (.int r)) S1 := by
  refine ct_of hl (by decide) (Nat.le_of_ble_eq_true rfl) (fun F hFl hFG hF hN hR hret => ?_)
  subst hFl hFG
  show X F 0 0 [(0, .ref (gA F 0)), (1, .int x1), (2, .int x2)] [] S
  have hret : ∀ (v : Int32) (S : St) (pc : Nat) (ls : List (Nat × Value)), isB v → (v = r ∧ S = S1) → decode cX7_isDroppedWith pc = .ok (.ireturn, 1) → X F 0 pc ls [.int v] S := fun v S2 pc ls hb hq hd => by obtain ⟨rfl, rfl⟩ := hq; exact hret.2.1 pc ls v rfl hb rfl hd
  have hk : r = r ∧ S1 = S1 := ⟨rfl, rfl⟩
  unfold X7_isDroppedWith at h
  refine x_aload_n hF dX7_isDroppedWith_0 rfl rfl ?_
  refine x_getr hF sh0 3 rfl ck6 (by decide) (by decide) tw_295 rfl dX7_isDroppedWith_1 ?_
  refine x_iload_n hF dX7_isDroppedWith_4 rfl rfl ?_
  refine x_aload_n hF dX7_isDroppedWith_5 rfl rfl ?_
  refine x_getr hF sh0 0 rfl ck6 (by decide) (by decide) tw_292 rfl dX7_isDroppedWith_6 ?_
  refine x_getr hF sh1 4 rfl ck3 (by decide) (by decide) tw_132 rfl dX7_isDroppedWith_9 ?_
  refine x_iconst (v := (0 : Int32)) hF dX7_isDroppedWith_12 (by decide) ?_
  refine x_iald (j := 0) hF sh5 (by decide) (by decide) (by decide) dX7_isDroppedWith_13 ?_
  refine x_aload_n hF dX7_isDroppedWith_14 rfl rfl ?_
  refine x_getr hF sh0 0 rfl ck6 (by decide) (by decide) tw_292 rfl dX7_isDroppedWith_15 ?_
  refine x_getr hF sh1 4 rfl ck3 (by decide) (by decide) tw_132 rfl dX7_isDroppedWith_18 ?_
  refine x_iconst (v := (2 : Int32)) hF dX7_isDroppedWith_21 (by decide) ?_
  refine x_iald (j := 2) hF sh5 (by decide) (by decide) (by decide) dX7_isDroppedWith_22 ?_
  obtain ⟨r1, S2, hcall, h⟩ := ob_some h
  refine x_cVv hF hN hR (ctX5_play (by decide) hF.tr hcall) mwX5_play miX5_play sh58 ck4 (by decide) tw_363 ⟨by decide, by decide⟩ rfl rfl (Nat.le_of_ble_eq_true rfl) dX7_isDroppedWith_23 ?_
  refine x_aload_n hF dX7_isDroppedWith_26 rfl rfl ?_
  refine x_getr hF sh0 3 rfl ck6 (by decide) (by decide) tw_295 rfl dX7_isDroppedWith_27 ?_
  refine x_getr hF sh58 1 rfl ck4 (by decide) (by decide) tw_236 rfl dX7_isDroppedWith_30 ?_
  refine x_iload_n hF dX7_isDroppedWith_33 rfl rfl ?_
  obtain ⟨r3, S4, hcall, h⟩ := ob_some h
  refine x_cVi hF hN hR (ctX3_fateOf (by decide) hF.tr hcall) mwX3_fateOf miX3_fateOf sh59 ck2 (by decide) tw_325 ⟨by decide, by decide⟩ rfl rfl (Nat.le_of_ble_eq_true rfl) dX7_isDroppedWith_34 ?_
  refine x_bipush (v := (-2 : Int32)) hF dX7_isDroppedWith_37 (by decide) ?_
  refine x_icmp_ne (tgt := 46) hF dX7_isDroppedWith_39 (by decide) (fun hc => ?_) (fun hc => ?_)
  · have h := oi_neg hc h
    refine x_iconst (v := (0 : Int32)) hF dX7_isDroppedWith_46 (by decide) ?_
    obtain ⟨rfl, rfl⟩ := sm h
    exact hret _ _ _ _ (by decide) hk dX7_isDroppedWith_47
  · have h := oi_pos hc h
    refine x_iconst (v := (1 : Int32)) hF dX7_isDroppedWith_42 (by decide) ?_
    refine x_goto (tgt := 47) hF dX7_isDroppedWith_43 (by decide) ?_
    obtain ⟨rfl, rfl⟩ := sm h
    exact hret _ _ _ _ (by decide) hk dX7_isDroppedWith_47
noncomputable def X7_isCause (x1 : Int32) (x2 : Int32) (S : St) : Option (Int32 × St) :=
  og (inb x2 40) (ob (X7_contains x1 (gi S 3 (ix x2)) S) (fun r1 S2 => oi (r1 = 0) (ob (X7_isDroppedWith ((63 : Int32) &&& (x1 ^^^ (-1 : Int32))) x2 S2) (fun r3 S4 => oi (r3 = 0) (some ((1 : Int32), S4)) (some ((0 : Int32), S4)))) (some ((0 : Int32), S2))))
set_option maxHeartbeats 4000000 in
set_option maxRecDepth 20000 in
theorem ctX7_isCause {l : Launch} {G : Ga} {x1 : Int32} {x2 : Int32} (hl : l.stackTraces = false) {S : St} {r : Int32} {S1 : St} (h : X7_isCause x1 x2 S = some (r, S1)) : CT l G 6 yX7_isCause cX7_isCause 3 (some .boolean) [.ref (G.1 0), .int x1, .int x2] S (some (.int r)) S1 := by
  refine ct_of hl (by decide) (Nat.le_of_ble_eq_true rfl) (fun F hFl hFG hF hN hR hret => ?_)
  subst hFl hFG
  show X F 0 0 [(0, .ref (gA F 0)), (1, .int x1), (2, .int x2)] [] S
  have hret : ∀ (v : Int32) (S : St) (pc : Nat) (ls : List (Nat × Value)), isB v → (v = r ∧ S = S1) → decode cX7_isCause pc = .ok (.ireturn, 1) → X F 0 pc ls [.int v] S := fun v S2 pc ls hb hq hd => by obtain ⟨rfl, rfl⟩ := hq; exact hret.2.1 pc ls v rfl hb rfl hd
  have hk : r = r ∧ S1 = S1 := ⟨rfl, rfl⟩
  unfold X7_isCause at h
  refine x_iload_n hF dX7_isCause_0 rfl rfl ?_
  refine x_aload_n hF dX7_isCause_1 rfl rfl ?_
  refine x_getr hF sh0 0 rfl ck6 (by decide) (by decide) tw_292 rfl dX7_isCause_2 ?_
  refine x_getr hF sh1 2 rfl ck3 (by decide) (by decide) tw_126 rfl dX7_isCause_5 ?_
  refine x_iload_n hF dX7_isCause_8 rfl rfl ?_
  obtain ⟨hg, h⟩ := og_some h
  refine x_iald hF sh3 (by decide) hg rfl dX7_isCause_9 ?_
  obtain ⟨r1, S2, hcall, h⟩ := ob_some h
  refine x_cSi hF hN hR (ctX7_contains hF.tr hcall) mwX7_contains tw_376 tw_851 ⟨by decide, by decide⟩ rfl rfl (Nat.le_of_ble_eq_true rfl) dX7_isCause_10 ?_
  refine x_if_ne (tgt := 34) hF dX7_isCause_13 (by decide) (fun hc => ?_) (fun hc => ?_)
  · have h := oi_neg hc h
    refine x_iconst (v := (0 : Int32)) hF dX7_isCause_34 (by decide) ?_
    obtain ⟨rfl, rfl⟩ := sm h
    exact hret _ _ _ _ (by decide) hk dX7_isCause_35
  · have h := oi_pos hc h
    refine x_aload_n hF dX7_isCause_16 rfl rfl ?_
    refine x_bipush (v := (63 : Int32)) hF dX7_isCause_17 (by decide) ?_
    refine x_iload_n hF dX7_isCause_19 rfl rfl ?_
    refine x_iconst (v := (-1 : Int32)) hF dX7_isCause_20 (by decide) ?_
    refine x_ixor hF dX7_isCause_21 ?_
    refine x_iand hF dX7_isCause_22 ?_
    refine x_iload_n hF dX7_isCause_23 rfl rfl ?_
    obtain ⟨r3, S4, hcall, h⟩ := ob_some h
    refine x_cVi hF hN hR (ctX7_isDroppedWith hF.tr hcall) mwX7_isDroppedWith miX7_isDroppedWith sh0 ck6 (by decide) tw_961 ⟨by decide, by decide⟩ rfl rfl (Nat.le_of_ble_eq_true rfl) dX7_isCause_24 ?_
    refine x_if_ne (tgt := 34) hF dX7_isCause_27 (by decide) (fun hc => ?_) (fun hc => ?_)
    · have h := oi_neg hc h
      refine x_iconst (v := (0 : Int32)) hF dX7_isCause_34 (by decide) ?_
      obtain ⟨rfl, rfl⟩ := sm h
      exact hret _ _ _ _ (by decide) hk dX7_isCause_35
    · have h := oi_pos hc h
      refine x_iconst (v := (1 : Int32)) hF dX7_isCause_30 (by decide) ?_
      refine x_goto (tgt := 35) hF dX7_isCause_31 (by decide) ?_
      obtain ⟨rfl, rfl⟩ := sm h
      exact hret _ _ _ _ (by decide) hk dX7_isCause_35
noncomputable def X7_smallestCause_22 (x1 : Int32) (x2 : Int32) (x3 : Int32) (S : St) : Option (((Int32) ⊕ (Int32 ⊕ Unit)) × St) :=
  oi ((64 : Int32) ≤ x3) (some (.inr (.inr ()), S)) (ob (J6_bitCount_0f7a4 x3 S) (fun r3 S4 => oi (r3 = x2) (ob (X7_isCause x3 x1 S4) (fun r5 S6 => oi (r5 = 0) (some (.inl (x3 + (1 : Int32)), S6)) (some (.inr (.inl x3), S6)))) (some (.inl (x3 + (1 : Int32)), S4))))
set_option maxHeartbeats 4000000 in
set_option maxRecDepth 20000 in
theorem xX7_smallestCause_22 {F : Cx} (hF : Ok F cX7_smallestCause RX7) (hN : nLF F 4) (hR : RmF F 7 0) {x1 : Int32} {x2 : Int32} {x3 : Int32} {K : ((Int32) ⊕ (Int32 ⊕ Unit)) → St → Prop} (hag : ∀ (a : Int32) (S : St), K (.inl a) S → X F 0 22 [(0, .ref (gA F 0)), (1, .int x1), (2, .int x2), (3, .int a)] [] S) (hex45 : ∀ (q : Int32) (S : St), K (.inr (.inl q)) S → X F 0 45 [(3, .int q)] [] S) (hex53 : ∀ (q : Unit) (S : St), K (.inr (.inr q)) S → X F 0 53 [(0, .ref (gA F 0)), (1, .int x1), (2, .int x2)] [] S) {S : St} {r : (Int32) ⊕ (Int32 ⊕ Unit)} {S1 : St} (h : X7_smallestCause_22 x1 x2 x3 S = some (r, S1)) (hk : K r S1) : X F 0 22 [(0, .ref (gA F 0)), (1, .int x1), (2, .int x2), (3, .int x3)] [] S := by
  unfold X7_smallestCause_22 at h
  refine x_iload_n hF dX7_smallestCause_22 rfl rfl ?_
  refine x_bipush (v := (64 : Int32)) hF dX7_smallestCause_23 (by decide) ?_
  refine x_icmp_ge (tgt := 53) hF dX7_smallestCause_25 (by decide) (fun hc => ?_) (fun hc => ?_)
  · have h := oi_pos hc h
    obtain ⟨rfl, rfl⟩ := sm h
    exact x_sub (hex53 _ _ hk) ⟨rfl, rfl, rfl, trivial⟩
  · have h := oi_neg hc h
    refine x_iload_n hF dX7_smallestCause_28 rfl rfl ?_
    obtain ⟨r3, S4, hcall, h⟩ := ob_some h
    refine x_cSi hF hN hR (ctJ6_bitCount_0f7a4 hF.tr hcall) mwJ6_bitCount_0f7a4 tw_871 tw_870 ⟨by decide, by decide⟩ rfl rfl (Nat.le_of_ble_eq_true rfl) dX7_smallestCause_29 ?_
    refine x_iload_n hF dX7_smallestCause_32 rfl rfl ?_
    refine x_icmp_ne (tgt := 47) hF dX7_smallestCause_33 (by decide) (fun hc => ?_) (fun hc => ?_)
    · have h := oi_neg hc h
      refine x_iinc [(3, _), (0, _), (1, _), (2, _)] (v := (1 : Int32)) hF hN dX7_smallestCause_47 rfl (by decide) (by decide) rfl ?_
      refine x_goto (tgt := 22) hF dX7_smallestCause_50 (by decide) ?_
      obtain ⟨rfl, rfl⟩ := sm h
      exact x_sub (hag _ _ hk) ⟨rfl, rfl, rfl, rfl, trivial⟩
    · have h := oi_pos hc h
      refine x_aload_n hF dX7_smallestCause_36 rfl rfl ?_
      refine x_iload_n hF dX7_smallestCause_37 rfl rfl ?_
      refine x_iload_n hF dX7_smallestCause_38 rfl rfl ?_
      obtain ⟨r5, S6, hcall, h⟩ := ob_some h
      refine x_cVi hF hN hR (ctX7_isCause hF.tr hcall) mwX7_isCause miX7_isCause sh0 ck6 (by decide) tw_965 ⟨by decide, by decide⟩ rfl rfl (Nat.le_of_ble_eq_true rfl) dX7_smallestCause_39 ?_
      refine x_if_eq (tgt := 47) hF dX7_smallestCause_42 (by decide) (fun hc => ?_) (fun hc => ?_)
      · have h := oi_pos hc h
        refine x_iinc [(3, _), (0, _), (1, _), (2, _)] (v := (1 : Int32)) hF hN dX7_smallestCause_47 rfl (by decide) (by decide) rfl ?_
        refine x_goto (tgt := 22) hF dX7_smallestCause_50 (by decide) ?_
        obtain ⟨rfl, rfl⟩ := sm h
        exact x_sub (hag _ _ hk) ⟨rfl, rfl, rfl, rfl, trivial⟩
      · have h := oi_neg hc h
        obtain ⟨rfl, rfl⟩ := sm h
        exact x_sub (hex45 _ _ hk) ⟨rfl, trivial⟩
noncomputable def X7_smallestCause_22L (x1 : Int32) (x2 : Int32) (a : Int32) (S : St) : Option ((Int32 ⊕ Unit) × St) :=
  lp (fun (a : Int32) (S : St) => X7_smallestCause_22 x1 x2 a S) a S
theorem xX7_smallestCause_22L {F : Cx} (hF : Ok F cX7_smallestCause RX7) (hN : nLF F 4) (hR : RmF F 7 0) {x1 : Int32} {x2 : Int32} {K : (Int32 ⊕ Unit) → St → Prop} (hex45 : ∀ (q : Int32) (S : St), K ((.inl q)) S → X F 0 45 [(3, .int q)] [] S) (hex53 : ∀ (q : Unit) (S : St), K ((.inr q)) S → X F 0 53 [(0, .ref (gA F 0)), (1, .int x1), (2, .int x2)] [] S) {a : Int32} {S : St} {b : Int32 ⊕ Unit} {S1 : St} (h : X7_smallestCause_22L x1 x2 a S = some (b, S1)) (hk : K b S1) : X F 0 22 [(0, .ref (gA F 0)), (1, .int x1), (2, .int x2), (3, .int a)] [] S := by
  unfold X7_smallestCause_22L at h
  exact lp_rule (Xh := fun (a : Int32) (S : St) => X F 0 22 [(0, .ref (gA F 0)), (1, .int x1), (2, .int x2), (3, .int a)] [] S) (K := K) (fun a S r S1 h hk => xX7_smallestCause_22 hF hN hR (K := fun r S => match r with | .inl a => X F 0 22 [(0, .ref (gA F 0)), (1, .int x1), (2, .int x2), (3, .int a)] [] S | .inr b => K b S) (fun _ _ h => h) (fun q S h => hex45 q S h) (fun q S h => hex53 q S h) h (by cases r <;> exact hk)) h hk
noncomputable def X7_smallestCause_14 (x1 : Int32) (x2 : Int32) (S : St) : Option (((Int32) ⊕ (Int32 ⊕ Unit)) × St) :=
  oi ((6 : Int32) ≤ x2) (some (.inr (.inr ()), S)) (ob (X7_smallestCause_22L x1 x2 (1 : Int32) S) (fun b7 S8 => match b7 with | .inl q9 => some (.inr (.inl q9), S8) | .inr q10 => some (.inl (x2 + (1 : Int32)), S8)))
set_option maxHeartbeats 4000000 in
set_option maxRecDepth 20000 in
theorem xX7_smallestCause_14 {F : Cx} (hF : Ok F cX7_smallestCause RX7) (hN : nLF F 4) (hR : RmF F 7 0) {x1 : Int32} {x2 : Int32} {K : ((Int32) ⊕ (Int32 ⊕ Unit)) → St → Prop} (hag : ∀ (a : Int32) (S : St), K (.inl a) S → X F 0 14 [(0, .ref (gA F 0)), (1, .int x1), (2, .int a)] [] S) (hex45 : ∀ (q : Int32) (S : St), K (.inr (.inl q)) S → X F 0 45 [(3, .int q)] [] S) (hex59 : ∀ (q : Unit) (S : St), K (.inr (.inr q)) S → X F 0 59 [] [] S) {S : St} {r : (Int32) ⊕ (Int32 ⊕ Unit)} {S1 : St} (h : X7_smallestCause_14 x1 x2 S = some (r, S1)) (hk : K r S1) : X F 0 14 [(0, .ref (gA F 0)), (1, .int x1), (2, .int x2)] [] S := by
  unfold X7_smallestCause_14 at h
  refine x_iload_n hF dX7_smallestCause_14 rfl rfl ?_
  refine x_bipush (v := (6 : Int32)) hF dX7_smallestCause_15 (by decide) ?_
  refine x_icmp_ge (tgt := 59) hF dX7_smallestCause_17 (by decide) (fun hc => ?_) (fun hc => ?_)
  · have h := oi_pos hc h
    obtain ⟨rfl, rfl⟩ := sm h
    exact x_sub (hex59 _ _ hk) trivial
  · have h := oi_neg hc h
    refine x_iconst (v := (1 : Int32)) hF dX7_smallestCause_20 (by decide) ?_
    refine x_istore_n [(3, _), (0, _), (1, _), (2, _)] hF hN dX7_smallestCause_21 rfl (by decide) rfl ?_
    obtain ⟨b7, S8, hlb7, h⟩ := ob_some h
    refine x_sub (xX7_smallestCause_22L hF hN hR (K := fun bb SS => bb = b7 ∧ SS = S8) ?_ ?_ hlb7 ⟨rfl, rfl⟩) ⟨rfl, rfl, rfl, rfl, trivial⟩
    · rintro _ _ ⟨rfl, rfl⟩
      dsimp only at h
      obtain ⟨rfl, rfl⟩ := sm h
      exact x_sub (hex45 _ _ hk) ⟨rfl, trivial⟩
    · rintro _ _ ⟨rfl, rfl⟩
      dsimp only at h
      refine x_iinc [(2, _), (0, _), (1, _)] (v := (1 : Int32)) hF hN dX7_smallestCause_53 rfl (by decide) (by decide) rfl ?_
      refine x_goto (tgt := 14) hF dX7_smallestCause_56 (by decide) ?_
      obtain ⟨rfl, rfl⟩ := sm h
      exact x_sub (hag _ _ hk) ⟨rfl, rfl, rfl, trivial⟩
noncomputable def X7_smallestCause_14L (x1 : Int32) (a : Int32) (S : St) : Option ((Int32 ⊕ Unit) × St) :=
  lp (fun (a : Int32) (S : St) => X7_smallestCause_14 x1 a S) a S
theorem xX7_smallestCause_14L {F : Cx} (hF : Ok F cX7_smallestCause RX7) (hN : nLF F 4) (hR : RmF F 7 0) {x1 : Int32} {K : (Int32 ⊕ Unit) → St → Prop} (hex45 : ∀ (q : Int32) (S : St), K ((.inl q)) S → X F 0 45 [(3, .int q)] [] S) (hex59 : ∀ (q : Unit) (S : St), K ((.inr q)) S → X F 0 59 [] [] S) {a : Int32} {S : St} {b : Int32 ⊕ Unit} {S1 : St} (h : X7_smallestCause_14L x1 a S = some (b, S1)) (hk : K b S1) : X F 0 14 [(0, .ref (gA F 0)), (1, .int x1), (2, .int a)] [] S := by
  unfold X7_smallestCause_14L at h
  exact lp_rule (Xh := fun (a : Int32) (S : St) => X F 0 14 [(0, .ref (gA F 0)), (1, .int x1), (2, .int a)] [] S) (K := K) (fun a S r S1 h hk => xX7_smallestCause_14 hF hN hR (K := fun r S => match r with | .inl a => X F 0 14 [(0, .ref (gA F 0)), (1, .int x1), (2, .int a)] [] S | .inr b => K b S) (fun _ _ h => h) (fun q S h => hex45 q S h) (fun q S h => hex59 q S h) h (by cases r <;> exact hk)) h hk
noncomputable def X7_smallestCause (x1 : Int32) (S : St) : Option (Int32 × St) :=
  ob (X7_isDroppedWith (63 : Int32) x1 S) (fun r1 S2 => oi (r1 = 0) (some ((0 : Int32), S2)) (ob (X7_smallestCause_14L x1 (1 : Int32) S2) (fun b11 S12 => match b11 with | .inl q13 => some (q13, S12) | .inr q14 => some ((-1 : Int32), S12))))
set_option maxHeartbeats 4000000 in
set_option maxRecDepth 20000 in
theorem ctX7_smallestCause {l : Launch} {G : Ga} {x1 : Int32} (hl : l.stackTraces = false) {S : St} {r : Int32} {S1 : St} (h : X7_smallestCause x1 S = some (r, S1)) : CT l G 7 yX7_smallestCause cX7_smallestCause 4 (some .int) [.ref (G.1 0), .int x1] S (some (.int r)) S1 := by
  refine ct_of hl (by decide) (Nat.le_of_ble_eq_true rfl) (fun F hFl hFG hF hN hR hret => ?_)
  subst hFl hFG
  show X F 0 0 [(0, .ref (gA F 0)), (1, .int x1)] [] S
  have hret : ∀ (v : Int32) (S : St) (pc : Nat) (ls : List (Nat × Value)), (v = r ∧ S = S1) → decode cX7_smallestCause pc = .ok (.ireturn, 1) → X F 0 pc ls [.int v] S := fun v S2 pc ls hq hd => by obtain ⟨rfl, rfl⟩ := hq; exact hret.1 pc ls v rfl rfl hd
  have hk : r = r ∧ S1 = S1 := ⟨rfl, rfl⟩
  unfold X7_smallestCause at h
  refine x_aload_n hF dX7_smallestCause_0 rfl rfl ?_
  refine x_bipush (v := (63 : Int32)) hF dX7_smallestCause_1 (by decide) ?_
  refine x_iload_n hF dX7_smallestCause_3 rfl rfl ?_
  obtain ⟨r1, S2, hcall, h⟩ := ob_some h
  refine x_cVi hF hN hR (ctX7_isDroppedWith hF.tr hcall) mwX7_isDroppedWith miX7_isDroppedWith sh0 ck6 (by decide) tw_961 ⟨by decide, by decide⟩ rfl rfl (Nat.le_of_ble_eq_true rfl) dX7_smallestCause_4 ?_
  refine x_if_ne (tgt := 12) hF dX7_smallestCause_7 (by decide) (fun hc => ?_) (fun hc => ?_)
  · have h := oi_neg hc h
    refine x_iconst (v := (1 : Int32)) hF dX7_smallestCause_12 (by decide) ?_
    refine x_istore_n [(2, _), (0, _), (1, _)] hF hN dX7_smallestCause_13 rfl (by decide) rfl ?_
    obtain ⟨b11, S12, hlb11, h⟩ := ob_some h
    refine x_sub (xX7_smallestCause_14L hF hN hR (K := fun bb SS => bb = b11 ∧ SS = S12) ?_ ?_ hlb11 ⟨rfl, rfl⟩) ⟨rfl, rfl, rfl, trivial⟩
    · rintro _ _ ⟨rfl, rfl⟩
      dsimp only at h
      refine x_iload_n hF dX7_smallestCause_45 rfl rfl ?_
      obtain ⟨rfl, rfl⟩ := sm h
      exact hret _ _ _ _ hk dX7_smallestCause_46
    · rintro _ _ ⟨rfl, rfl⟩
      dsimp only at h
      refine x_iconst (v := (-1 : Int32)) hF dX7_smallestCause_59 (by decide) ?_
      obtain ⟨rfl, rfl⟩ := sm h
      exact hret _ _ _ _ hk dX7_smallestCause_60
  · have h := oi_pos hc h
    refine x_iconst (v := (0 : Int32)) hF dX7_smallestCause_10 (by decide) ?_
    obtain ⟨rfl, rfl⟩ := sm h
    exact hret _ _ _ _ hk dX7_smallestCause_11
noncomputable def X7_cause (x1 : Int32) (S : St) : Option ((Int32 ⊕ Nat) × St) :=
  obx (X7_requirePacket x1 S) (fun r1 S2 => ob (X7_smallestCause x1 S2) (fun r3 S4 => some (.inl r3, S4)))
set_option maxHeartbeats 4000000 in
set_option maxRecDepth 20000 in
theorem cxX7_cause {l : Launch} {G : Ga} {x1 : Int32} (hl : l.stackTraces = false) {S : St} {r : (Int32 ⊕ Nat)} {S1 : St} (h : X7_cause x1 S = some (r, S1)) : CX l G 8 1 yX7_cause cX7_cause 2 (some .int) [.ref (G.1 0), .int x1] S (rvI r) S1 := by
  refine cx_of hl (by decide) rfl (by decide) (Nat.le_of_ble_eq_true rfl) (fun F hFl hFG hF hN hR hret => ?_)
  subst hFl hFG
  show X F 0 0 [(0, .ref (gA F 0)), (1, .int x1)] [] S
  have hxt : ∀ (e : Nat) (S : St) (u pc : Nat) (ls : List (Nat × Value)), u ≤ 1 → (.inr e = r ∧ S = S1) → XT F u pc e ls S := fun e S2 u pc ls hu hq => by obtain ⟨rfl, rfl⟩ := hq; exact hret.2.2.1 u pc e ls hu rfl
  have hthr : ∀ {e : Nat} {S : St} {u pc ik is j : Nat} {tx : String} {ls : List (Nat × Value)} {st : List Value}, u + 1 ≤ 1 → e < 3 → (st.map fun v => v.category).sum ≤ 8 → (.inr e = r ∧ S = S1) → Thr cX7_cause pc e ik is j tx ∨ ThrW cX7_cause pc e ik is j tx → X F u pc ls st S := fun {e S2 u pc ik is j tx ls st} hu he hs hq hT => by obtain ⟨rfl, rfl⟩ := hq; exact hret.2.2.2 u pc e ik is j tx ls st hu he hs rfl hT
  have hret : ∀ (v : Int32) (S : St) (u pc : Nat) (ls : List (Nat × Value)), u ≤ 1 → (.inl v = r ∧ S = S1) → decode cX7_cause pc = .ok (.ireturn, 1) → X F u pc ls [.int v] S := fun v S2 u pc ls hu hq hd => by obtain ⟨rfl, rfl⟩ := hq; exact hret.1 u pc ls v hu rfl rfl hd
  have hk : r = r ∧ S1 = S1 := ⟨rfl, rfl⟩
  unfold X7_cause at h
  refine x_aload_n hF dX7_cause_0 rfl rfl ?_
  refine x_iload_n hF dX7_cause_1 rfl rfl ?_
  rcases obx_some h with ⟨r1, S2, hcall, h⟩ | ⟨r1, hcall, h⟩
  · refine x_xVv hF hN hR (cxX7_requirePacket hF.tr hcall) mwX7_requirePacket miX7_requirePacket sh0 ck6 (by decide) tw_727 ⟨by decide, by decide⟩ rfl rfl (Nat.le_of_ble_eq_true rfl) dX7_cause_2 ?_
    refine x_aload_n hF dX7_cause_5 rfl rfl ?_
    refine x_iload_n hF dX7_cause_6 rfl rfl ?_
    obtain ⟨r3, S4, hcall, h⟩ := ob_some h
    refine x_cVi hF hN hR (ctX7_smallestCause hF.tr hcall) mwX7_smallestCause miX7_smallestCause sh0 ck6 (by decide) tw_957 ⟨by decide, by decide⟩ rfl rfl (Nat.le_of_ble_eq_true rfl) dX7_cause_7 ?_
    obtain ⟨rfl, rfl⟩ := sm h
    exact hret _ _ _ _ _ (by decide) hk dX7_cause_10
  · subst h
    exact x_xVt hF hN hR (cxX7_requirePacket hF.tr hcall) mwX7_requirePacket miX7_requirePacket sh0 ck6 (by decide) tw_727 ⟨by decide, by decide⟩ rfl rfl (Nat.le_of_ble_eq_true rfl) dX7_cause_2 (hxt _ _ _ _ _ (by decide) hk)
noncomputable def X7_suspects_29 (x1 : Int32) (x2 : Int32) (x3 : Int32) (x4 : Int32) (S : St) : Option (((Int32 × Int32) ⊕ Int32) × St) :=
  oi ((64 : Int32) ≤ x4) (some (.inr x3, S)) (ob (J6_bitCount_0f7a4 x4 S) (fun r5 S6 => ob (J6_bitCount_0f7a4 x2 S6) (fun r7 S8 => oi (r5 = r7) (ob (X7_isCause x4 x1 S8) (fun r9 S10 => oi (r9 = 0) (some (.inl (x3, (x4 + (1 : Int32))), S10)) (some (.inl ((x3 ||| x4), (x4 + (1 : Int32))), S10)))) (some (.inl (x3, (x4 + (1 : Int32))), S8)))))
set_option maxHeartbeats 4000000 in
set_option maxRecDepth 20000 in
theorem xX7_suspects_29 {F : Cx} (hF : Ok F cX7_suspects RX7) (hN : nLF F 5) (hR : RmF F 8 1) {x1 : Int32} {x2 : Int32} {x3 : Int32} {x4 : Int32} {K : ((Int32 × Int32) ⊕ Int32) → St → Prop} (hag : ∀ (a : Int32 × Int32) (S : St), K (.inl a) S → X F 1 29 [(0, .ref (gA F 0)), (1, .int x1), (2, .int x2), (3, .int a.1), (4, .int a.2)] [] S) (hex69 : ∀ (q : Int32) (S : St), K (.inr q) S → X F 1 69 [(3, .int q)] [] S) {S : St} {r : (Int32 × Int32) ⊕ Int32} {S1 : St} (h : X7_suspects_29 x1 x2 x3 x4 S = some (r, S1)) (hk : K r S1) : X F 1 29 [(0, .ref (gA F 0)), (1, .int x1), (2, .int x2), (3, .int x3), (4, .int x4)] [] S := by
  unfold X7_suspects_29 at h
  refine x_iload hF dX7_suspects_29 rfl ?_
  refine x_bipush (v := (64 : Int32)) hF dX7_suspects_31 (by decide) ?_
  refine x_icmp_ge (tgt := 69) hF dX7_suspects_33 (by decide) (fun hc => ?_) (fun hc => ?_)
  · have h := oi_pos hc h
    obtain ⟨rfl, rfl⟩ := sm h
    exact x_sub (hex69 _ _ hk) ⟨rfl, trivial⟩
  · have h := oi_neg hc h
    refine x_iload hF dX7_suspects_36 rfl ?_
    obtain ⟨r5, S6, hcall, h⟩ := ob_some h
    refine x_cSi hF hN hR (ctJ6_bitCount_0f7a4 hF.tr hcall) mwJ6_bitCount_0f7a4 tw_871 tw_870 ⟨by decide, by decide⟩ rfl rfl (Nat.le_of_ble_eq_true rfl) dX7_suspects_38 ?_
    refine x_iload_n hF dX7_suspects_41 rfl rfl ?_
    obtain ⟨r7, S8, hcall, h⟩ := ob_some h
    refine x_cSi hF hN hR (ctJ6_bitCount_0f7a4 hF.tr hcall) mwJ6_bitCount_0f7a4 tw_871 tw_870 ⟨by decide, by decide⟩ rfl rfl (Nat.le_of_ble_eq_true rfl) dX7_suspects_42 ?_
    refine x_icmp_ne (tgt := 63) hF dX7_suspects_45 (by decide) (fun hc => ?_) (fun hc => ?_)
    · have h := oi_neg hc h
      refine x_iinc [(4, _), (0, _), (1, _), (2, _), (3, _)] (v := (1 : Int32)) hF hN dX7_suspects_63 rfl (by decide) (by decide) rfl ?_
      refine x_goto (tgt := 29) hF dX7_suspects_66 (by decide) ?_
      obtain ⟨rfl, rfl⟩ := sm h
      exact x_sub (hag _ _ hk) ⟨rfl, rfl, rfl, rfl, rfl, trivial⟩
    · have h := oi_pos hc h
      refine x_aload_n hF dX7_suspects_48 rfl rfl ?_
      refine x_iload hF dX7_suspects_49 rfl ?_
      refine x_iload_n hF dX7_suspects_51 rfl rfl ?_
      obtain ⟨r9, S10, hcall, h⟩ := ob_some h
      refine x_cVi hF hN hR (ctX7_isCause hF.tr hcall) mwX7_isCause miX7_isCause sh0 ck6 (by decide) tw_965 ⟨by decide, by decide⟩ rfl rfl (Nat.le_of_ble_eq_true rfl) dX7_suspects_52 ?_
      refine x_if_eq (tgt := 63) hF dX7_suspects_55 (by decide) (fun hc => ?_) (fun hc => ?_)
      · have h := oi_pos hc h
        refine x_iinc [(4, _), (0, _), (1, _), (2, _), (3, _)] (v := (1 : Int32)) hF hN dX7_suspects_63 rfl (by decide) (by decide) rfl ?_
        refine x_goto (tgt := 29) hF dX7_suspects_66 (by decide) ?_
        obtain ⟨rfl, rfl⟩ := sm h
        exact x_sub (hag _ _ hk) ⟨rfl, rfl, rfl, rfl, rfl, trivial⟩
      · have h := oi_neg hc h
        refine x_iload_n hF dX7_suspects_58 rfl rfl ?_
        refine x_iload hF dX7_suspects_59 rfl ?_
        refine x_ior hF dX7_suspects_61 ?_
        refine x_istore_n [(3, _), (0, _), (1, _), (2, _), (4, _)] hF hN dX7_suspects_62 rfl (by decide) rfl ?_
        refine x_iinc [(4, _), (3, _), (0, _), (1, _), (2, _)] (v := (1 : Int32)) hF hN dX7_suspects_63 rfl (by decide) (by decide) rfl ?_
        refine x_goto (tgt := 29) hF dX7_suspects_66 (by decide) ?_
        obtain ⟨rfl, rfl⟩ := sm h
        exact x_sub (hag _ _ hk) ⟨rfl, rfl, rfl, rfl, rfl, trivial⟩
noncomputable def X7_suspects_29L (x1 : Int32) (x2 : Int32) (a : Int32 × Int32) (S : St) : Option (Int32 × St) :=
  lp (fun (a : Int32 × Int32) (S : St) => X7_suspects_29 x1 x2 a.1 a.2 S) a S
theorem xX7_suspects_29L {F : Cx} (hF : Ok F cX7_suspects RX7) (hN : nLF F 5) (hR : RmF F 8 1) {x1 : Int32} {x2 : Int32} {K : Int32 → St → Prop} (hex69 : ∀ (q : Int32) (S : St), K (q) S → X F 1 69 [(3, .int q)] [] S) {a : Int32 × Int32} {S : St} {b : Int32} {S1 : St} (h : X7_suspects_29L x1 x2 a S = some (b, S1)) (hk : K b S1) : X F 1 29 [(0, .ref (gA F 0)), (1, .int x1), (2, .int x2), (3, .int a.1), (4, .int a.2)] [] S := by
  unfold X7_suspects_29L at h
  exact lp_rule (Xh := fun (a : Int32 × Int32) (S : St) => X F 1 29 [(0, .ref (gA F 0)), (1, .int x1), (2, .int x2), (3, .int a.1), (4, .int a.2)] [] S) (K := K) (fun a S r S1 h hk => xX7_suspects_29 hF hN hR (K := fun r S => match r with | .inl a => X F 1 29 [(0, .ref (gA F 0)), (1, .int x1), (2, .int x2), (3, .int a.1), (4, .int a.2)] [] S | .inr b => K b S) (fun _ _ h => h) (fun q S h => hex69 q S h) h (by cases r <;> exact hk)) h hk
noncomputable def X7_suspects (x1 : Int32) (S : St) : Option ((Int32 ⊕ Nat) × St) :=
  obx (X7_requirePacket x1 S) (fun r1 S2 => ob (X7_smallestCause x1 S2) (fun r3 S4 => oi (r3 = (-1 : Int32)) (some (.inl (0 : Int32), S4)) (oi (r3 = 0) (some (.inl (0 : Int32), S4)) (ob (X7_suspects_29L x1 r3 (r3, (r3 + (1 : Int32))) S4) (fun b11 S12 => some (.inl b11, S12))))))
set_option maxHeartbeats 4000000 in
set_option maxRecDepth 20000 in
theorem cxX7_suspects {l : Launch} {G : Ga} {x1 : Int32} (hl : l.stackTraces = false) {S : St} {r : (Int32 ⊕ Nat)} {S1 : St} (h : X7_suspects x1 S = some (r, S1)) : CX l G 8 1 yX7_suspects cX7_suspects 5 (some .int) [.ref (G.1 0), .int x1] S (rvI r) S1 := by
  refine cx_of hl (by decide) rfl (by decide) (Nat.le_of_ble_eq_true rfl) (fun F hFl hFG hF hN hR hret => ?_)
  subst hFl hFG
  show X F 0 0 [(0, .ref (gA F 0)), (1, .int x1)] [] S
  have hxt : ∀ (e : Nat) (S : St) (u pc : Nat) (ls : List (Nat × Value)), u ≤ 1 → (.inr e = r ∧ S = S1) → XT F u pc e ls S := fun e S2 u pc ls hu hq => by obtain ⟨rfl, rfl⟩ := hq; exact hret.2.2.1 u pc e ls hu rfl
  have hthr : ∀ {e : Nat} {S : St} {u pc ik is j : Nat} {tx : String} {ls : List (Nat × Value)} {st : List Value}, u + 1 ≤ 1 → e < 3 → (st.map fun v => v.category).sum ≤ 8 → (.inr e = r ∧ S = S1) → Thr cX7_suspects pc e ik is j tx ∨ ThrW cX7_suspects pc e ik is j tx → X F u pc ls st S := fun {e S2 u pc ik is j tx ls st} hu he hs hq hT => by obtain ⟨rfl, rfl⟩ := hq; exact hret.2.2.2 u pc e ik is j tx ls st hu he hs rfl hT
  have hret : ∀ (v : Int32) (S : St) (u pc : Nat) (ls : List (Nat × Value)), u ≤ 1 → (.inl v = r ∧ S = S1) → decode cX7_suspects pc = .ok (.ireturn, 1) → X F u pc ls [.int v] S := fun v S2 u pc ls hu hq hd => by obtain ⟨rfl, rfl⟩ := hq; exact hret.1 u pc ls v hu rfl rfl hd
  have hk : r = r ∧ S1 = S1 := ⟨rfl, rfl⟩
  unfold X7_suspects at h
  refine x_aload_n hF dX7_suspects_0 rfl rfl ?_
  refine x_iload_n hF dX7_suspects_1 rfl rfl ?_
  rcases obx_some h with ⟨r1, S2, hcall, h⟩ | ⟨r1, hcall, h⟩
  · refine x_xVv hF hN hR (cxX7_requirePacket hF.tr hcall) mwX7_requirePacket miX7_requirePacket sh0 ck6 (by decide) tw_727 ⟨by decide, by decide⟩ rfl rfl (Nat.le_of_ble_eq_true rfl) dX7_suspects_2 ?_
    refine x_aload_n hF dX7_suspects_5 rfl rfl ?_
    refine x_iload_n hF dX7_suspects_6 rfl rfl ?_
    obtain ⟨r3, S4, hcall, h⟩ := ob_some h
    refine x_cVi hF hN hR (ctX7_smallestCause hF.tr hcall) mwX7_smallestCause miX7_smallestCause sh0 ck6 (by decide) tw_957 ⟨by decide, by decide⟩ rfl rfl (Nat.le_of_ble_eq_true rfl) dX7_suspects_7 ?_
    refine x_istore_n [(2, _), (0, _), (1, _)] hF hN dX7_suspects_10 rfl (by decide) rfl ?_
    refine x_iload_n hF dX7_suspects_11 rfl rfl ?_
    refine x_iconst (v := (-1 : Int32)) hF dX7_suspects_12 (by decide) ?_
    refine x_icmp_eq (tgt := 20) hF dX7_suspects_13 (by decide) (fun hc => ?_) (fun hc => ?_)
    · have h := oi_pos hc h
      refine x_iconst (v := (0 : Int32)) hF dX7_suspects_20 (by decide) ?_
      obtain ⟨rfl, rfl⟩ := sm h
      exact hret _ _ _ _ _ (by decide) hk dX7_suspects_21
    · have h := oi_neg hc h
      refine x_iload_n hF dX7_suspects_16 rfl rfl ?_
      refine x_if_ne (tgt := 22) hF dX7_suspects_17 (by decide) (fun hc => ?_) (fun hc => ?_)
      · have h := oi_neg hc h
        refine x_iload_n hF dX7_suspects_22 rfl rfl ?_
        refine x_istore_n [(3, _), (2, _), (0, _), (1, _)] hF hN dX7_suspects_23 rfl (by decide) rfl ?_
        refine x_iload_n hF dX7_suspects_24 rfl rfl ?_
        refine x_iconst (v := (1 : Int32)) hF dX7_suspects_25 (by decide) ?_
        refine x_iadd hF dX7_suspects_26 ?_
        refine x_istore [(4, _), (3, _), (2, _), (0, _), (1, _)] hF hN dX7_suspects_27 (by decide) rfl ?_
        obtain ⟨b11, S12, hlb11, h⟩ := ob_some h
        refine x_sub (xX7_suspects_29L hF hN hR (K := fun bb SS => bb = b11 ∧ SS = S12) ?_ hlb11 ⟨rfl, rfl⟩) ⟨rfl, rfl, rfl, rfl, rfl, trivial⟩
        rintro _ _ ⟨rfl, rfl⟩
        refine x_iload_n hF dX7_suspects_69 rfl rfl ?_
        obtain ⟨rfl, rfl⟩ := sm h
        exact hret _ _ _ _ _ (by decide) hk dX7_suspects_70
      · have h := oi_pos hc h
        refine x_iconst (v := (0 : Int32)) hF dX7_suspects_20 (by decide) ?_
        obtain ⟨rfl, rfl⟩ := sm h
        exact hret _ _ _ _ _ (by decide) hk dX7_suspects_21
  · subst h
    exact x_xVt hF hN hR (cxX7_requirePacket hF.tr hcall) mwX7_requirePacket miX7_requirePacket sh0 ck6 (by decide) tw_727 ⟨by decide, by decide⟩ rfl rfl (Nat.le_of_ble_eq_true rfl) dX7_suspects_2 (hxt _ _ _ _ _ (by decide) hk)
noncomputable def X7_capacityFor_16 (x1 : Int32) (x2 : Int32) (S : St) : Option (((Int32) ⊕ (Int32 ⊕ Unit)) × St) :=
  oi ((1000 : Int32) < x2) (some (.inr (.inr ()), S)) (ob (X5_play 58 (63 : Int32) x2 (gi S 5 2) S) (fun r1 S2 => oi (x1 < (gi S2 59 3)) (some (.inl (if (x2 + (1 : Int32)) < (gi S2 58 5) then (gi S2 58 5) else (x2 + (1 : Int32))), S2)) (some (.inr (.inl x2), S2))))
set_option maxHeartbeats 4000000 in
set_option maxRecDepth 20000 in
theorem xX7_capacityFor_16 {F : Cx} (hF : Ok F cX7_capacityFor RX7) (hN : nLF F 3) (hR : RmF F 6 1) {x1 : Int32} {x2 : Int32} {K : ((Int32) ⊕ (Int32 ⊕ Unit)) → St → Prop} (hag : ∀ (a : Int32) (S : St), K (.inl a) S → X F 0 16 [(0, .ref (gA F 0)), (1, .int x1), (2, .int a)] [] S) (hex56 : ∀ (q : Int32) (S : St), K (.inr (.inl q)) S → X F 0 56 [(2, .int q)] [] S) (hex75 : ∀ (q : Unit) (S : St), K (.inr (.inr q)) S → X F 0 75 [] [] S) {S : St} {r : (Int32) ⊕ (Int32 ⊕ Unit)} {S1 : St} (h : X7_capacityFor_16 x1 x2 S = some (r, S1)) (hk : K r S1) : X F 0 16 [(0, .ref (gA F 0)), (1, .int x1), (2, .int x2)] [] S := by
  unfold X7_capacityFor_16 at h
  refine x_iload_n hF dX7_capacityFor_16 rfl rfl ?_
  refine x_sipush (v := (1000 : Int32)) hF dX7_capacityFor_17 (by decide) ?_
  refine x_icmp_gt (tgt := 75) hF dX7_capacityFor_20 (by decide) (fun hc => ?_) (fun hc => ?_)
  · have h := oi_pos hc h
    obtain ⟨rfl, rfl⟩ := sm h
    exact x_sub (hex75 _ _ hk) trivial
  · have h := oi_neg hc h
    refine x_aload_n hF dX7_capacityFor_23 rfl rfl ?_
    refine x_getr hF sh0 3 rfl ck6 (by decide) (by decide) tw_295 rfl dX7_capacityFor_24 ?_
    refine x_bipush (v := (63 : Int32)) hF dX7_capacityFor_27 (by decide) ?_
    refine x_iload_n hF dX7_capacityFor_29 rfl rfl ?_
    refine x_aload_n hF dX7_capacityFor_30 rfl rfl ?_
    refine x_getr hF sh0 0 rfl ck6 (by decide) (by decide) tw_292 rfl dX7_capacityFor_31 ?_
    refine x_getr hF sh1 4 rfl ck3 (by decide) (by decide) tw_132 rfl dX7_capacityFor_34 ?_
    refine x_iconst (v := (2 : Int32)) hF dX7_capacityFor_37 (by decide) ?_
    refine x_iald (j := 2) hF sh5 (by decide) (by decide) (by decide) dX7_capacityFor_38 ?_
    obtain ⟨r1, S2, hcall, h⟩ := ob_some h
    refine x_cVv hF hN hR (ctX5_play (by decide) hF.tr hcall) mwX5_play miX5_play sh58 ck4 (by decide) tw_363 ⟨by decide, by decide⟩ rfl rfl (Nat.le_of_ble_eq_true rfl) dX7_capacityFor_39 ?_
    refine x_aload_n hF dX7_capacityFor_42 rfl rfl ?_
    refine x_getr hF sh0 3 rfl ck6 (by decide) (by decide) tw_295 rfl dX7_capacityFor_43 ?_
    refine x_getr hF sh58 1 rfl ck4 (by decide) (by decide) tw_236 rfl dX7_capacityFor_46 ?_
    refine x_geti hF sh59 3 rfl ck2 (by decide) (by decide) tw_182 rfl dX7_capacityFor_49 ?_
    refine x_iload_n hF dX7_capacityFor_52 rfl rfl ?_
    refine x_icmp_gt (tgt := 58) hF dX7_capacityFor_53 (by decide) (fun hc => ?_) (fun hc => ?_)
    · have h := oi_pos hc h
      refine x_iload_n hF dX7_capacityFor_58 rfl rfl ?_
      refine x_iconst (v := (1 : Int32)) hF dX7_capacityFor_59 (by decide) ?_
      refine x_iadd hF dX7_capacityFor_60 ?_
      refine x_aload_n hF dX7_capacityFor_61 rfl rfl ?_
      refine x_getr hF sh0 3 rfl ck6 (by decide) (by decide) tw_295 rfl dX7_capacityFor_62 ?_
      refine x_geti hF sh58 5 rfl ck4 (by decide) (by decide) tw_241 rfl dX7_capacityFor_65 ?_
      refine x_mmax hF hR tw_984 mcmax.1 tw_87 mcmax.2 ⟨by decide, by decide⟩ (Nat.le_of_ble_eq_true rfl) dX7_capacityFor_68 ?_
      refine x_istore_n [(2, _), (0, _), (1, _)] hF hN dX7_capacityFor_71 rfl (by decide) rfl ?_
      refine x_goto (tgt := 16) hF dX7_capacityFor_72 (by decide) ?_
      obtain ⟨rfl, rfl⟩ := sm h
      exact x_sub (hag _ _ hk) ⟨rfl, rfl, rfl, trivial⟩
    · have h := oi_neg hc h
      obtain ⟨rfl, rfl⟩ := sm h
      exact x_sub (hex56 _ _ hk) ⟨rfl, trivial⟩
noncomputable def X7_capacityFor_16L (x1 : Int32) (a : Int32) (S : St) : Option ((Int32 ⊕ Unit) × St) :=
  lp (fun (a : Int32) (S : St) => X7_capacityFor_16 x1 a S) a S
theorem xX7_capacityFor_16L {F : Cx} (hF : Ok F cX7_capacityFor RX7) (hN : nLF F 3) (hR : RmF F 6 1) {x1 : Int32} {K : (Int32 ⊕ Unit) → St → Prop} (hex56 : ∀ (q : Int32) (S : St), K ((.inl q)) S → X F 0 56 [(2, .int q)] [] S) (hex75 : ∀ (q : Unit) (S : St), K ((.inr q)) S → X F 0 75 [] [] S) {a : Int32} {S : St} {b : Int32 ⊕ Unit} {S1 : St} (h : X7_capacityFor_16L x1 a S = some (b, S1)) (hk : K b S1) : X F 0 16 [(0, .ref (gA F 0)), (1, .int x1), (2, .int a)] [] S := by
  unfold X7_capacityFor_16L at h
  exact lp_rule (Xh := fun (a : Int32) (S : St) => X F 0 16 [(0, .ref (gA F 0)), (1, .int x1), (2, .int a)] [] S) (K := K) (fun a S r S1 h hk => xX7_capacityFor_16 hF hN hR (K := fun r S => match r with | .inl a => X F 0 16 [(0, .ref (gA F 0)), (1, .int x1), (2, .int a)] [] S | .inr b => K b S) (fun _ _ h => h) (fun q S h => hex56 q S h) (fun q S h => hex75 q S h) h (by cases r <;> exact hk)) h hk
noncomputable def X7_capacityFor (x1 : Int32) (S : St) : Option ((Int32 ⊕ Nat) × St) :=
  oi (0 ≤ x1) (ob (X7_capacityFor_16L x1 (1 : Int32) S) (fun b3 S4 => match b3 with | .inl q5 => some (.inl q5, S4) | .inr q6 => some (.inl (-1 : Int32), S4))) (some (.inr 1, S))
set_option maxHeartbeats 4000000 in
set_option maxRecDepth 20000 in
theorem cxX7_capacityFor {l : Launch} {G : Ga} {x1 : Int32} (hl : l.stackTraces = false) {S : St} {r : (Int32 ⊕ Nat)} {S1 : St} (h : X7_capacityFor x1 S = some (r, S1)) : CX l G 6 1 yX7_capacityFor cX7_capacityFor 3 (some .int) [.ref (G.1 0), .int x1] S (rvI r) S1 := by
  refine cx_of hl (by decide) rfl (by decide) (Nat.le_of_ble_eq_true rfl) (fun F hFl hFG hF hN hR hret => ?_)
  subst hFl hFG
  show X F 0 0 [(0, .ref (gA F 0)), (1, .int x1)] [] S
  have hxt : ∀ (e : Nat) (S : St) (u pc : Nat) (ls : List (Nat × Value)), u ≤ 1 → (.inr e = r ∧ S = S1) → XT F u pc e ls S := fun e S2 u pc ls hu hq => by obtain ⟨rfl, rfl⟩ := hq; exact hret.2.2.1 u pc e ls hu rfl
  have hthr : ∀ {e : Nat} {S : St} {u pc ik is j : Nat} {tx : String} {ls : List (Nat × Value)} {st : List Value}, u + 1 ≤ 1 → e < 3 → (st.map fun v => v.category).sum ≤ 8 → (.inr e = r ∧ S = S1) → Thr cX7_capacityFor pc e ik is j tx ∨ ThrW cX7_capacityFor pc e ik is j tx → X F u pc ls st S := fun {e S2 u pc ik is j tx ls st} hu he hs hq hT => by obtain ⟨rfl, rfl⟩ := hq; exact hret.2.2.2 u pc e ik is j tx ls st hu he hs rfl hT
  have hret : ∀ (v : Int32) (S : St) (u pc : Nat) (ls : List (Nat × Value)), u ≤ 1 → (.inl v = r ∧ S = S1) → decode cX7_capacityFor pc = .ok (.ireturn, 1) → X F u pc ls [.int v] S := fun v S2 u pc ls hu hq hd => by obtain ⟨rfl, rfl⟩ := hq; exact hret.1 u pc ls v hu rfl rfl hd
  have hk : r = r ∧ S1 = S1 := ⟨rfl, rfl⟩
  unfold X7_capacityFor at h
  refine x_iload_n hF dX7_capacityFor_0 rfl rfl ?_
  refine x_if_ge (tgt := 14) hF dX7_capacityFor_1 (by decide) (fun hc => ?_) (fun hc => ?_)
  · have h := oi_pos hc h
    refine x_iconst (v := (1 : Int32)) hF dX7_capacityFor_14 (by decide) ?_
    refine x_istore_n [(2, _), (0, _), (1, _)] hF hN dX7_capacityFor_15 rfl (by decide) rfl ?_
    obtain ⟨b3, S4, hlb3, h⟩ := ob_some h
    refine x_sub (xX7_capacityFor_16L hF hN hR (K := fun bb SS => bb = b3 ∧ SS = S4) ?_ ?_ hlb3 ⟨rfl, rfl⟩) ⟨rfl, rfl, rfl, trivial⟩
    · rintro _ _ ⟨rfl, rfl⟩
      dsimp only at h
      refine x_iload_n hF dX7_capacityFor_56 rfl rfl ?_
      obtain ⟨rfl, rfl⟩ := sm h
      exact hret _ _ _ _ _ (by decide) hk dX7_capacityFor_57
    · rintro _ _ ⟨rfl, rfl⟩
      dsimp only at h
      refine x_iconst (v := (-1 : Int32)) hF dX7_capacityFor_75 (by decide) ?_
      obtain ⟨rfl, rfl⟩ := sm h
      exact hret _ _ _ _ _ (by decide) hk dX7_capacityFor_76
  · have h := oi_neg hc h
    obtain ⟨rfl, rfl⟩ := sm h
    exact hthr (e := 1) (j := 11) (by decide) (by decide) (Nat.le_of_ble_eq_true rfl) hk (Or.inl ⟨tw_665, tw_84, rfl, dX7_capacityFor_4, dX7_capacityFor_7, dX7_capacityFor_8, dX7_capacityFor_10, dX7_capacityFor_13⟩)
noncomputable def X7_bestPolicy_50 (x3 : Int32) (x4 : Int32) (S : St) : Option (((Int32 × Int32 × Int32) ⊕ Int32) × St) :=
  some (.inl (x3, x4, (x3 + (1 : Int32))), S)
set_option maxHeartbeats 4000000 in
set_option maxRecDepth 20000 in
theorem xX7_bestPolicy_50 {F : Cx} (hF : Ok F cX7_bestPolicy RX7) (hN : nLF F 5) (hR : RmF F 5 0) {x3 : Int32} {x4 : Int32} {K : ((Int32 × Int32 × Int32) ⊕ Int32) → St → Prop} (hag : ∀ (a : Int32 × Int32 × Int32) (S : St), K (.inl a) S → X F 0 6 [(0, .ref (gA F 0)), (1, .int a.1), (2, .int a.2.1), (3, .int a.2.2)] [] S) (hex61 : ∀ (q : Int32) (S : St), K (.inr q) S → X F 0 61 [(1, .int q)] [] S) {S : St} {r : (Int32 × Int32 × Int32) ⊕ Int32} {S1 : St} (h : X7_bestPolicy_50 x3 x4 S = some (r, S1)) (hk : K r S1) : X F 0 50 [(0, .ref (gA F 0)), (3, .int x3), (4, .int x4)] [] S := by
  unfold X7_bestPolicy_50 at h
  refine x_iload_n hF dX7_bestPolicy_50 rfl rfl ?_
  refine x_istore_n [(1, _), (0, _), (3, _), (4, _)] hF hN dX7_bestPolicy_51 rfl (by decide) rfl ?_
  refine x_iload hF dX7_bestPolicy_52 rfl ?_
  refine x_istore_n [(2, _), (1, _), (0, _), (3, _), (4, _)] hF hN dX7_bestPolicy_54 rfl (by decide) rfl ?_
  refine x_iinc [(3, _), (2, _), (1, _), (0, _), (4, _)] (v := (1 : Int32)) hF hN dX7_bestPolicy_55 rfl (by decide) (by decide) rfl ?_
  refine x_goto (tgt := 6) hF dX7_bestPolicy_58 (by decide) ?_
  obtain ⟨rfl, rfl⟩ := sm h
  exact x_sub (hag _ _ hk) ⟨rfl, rfl, rfl, rfl, trivial⟩
noncomputable def X7_bestPolicy_6 (x1 : Int32) (x2 : Int32) (x3 : Int32) (S : St) : Option (((Int32 × Int32 × Int32) ⊕ Int32) × St) :=
  oi ((5 : Int32) ≤ x3) (some (.inr x1, S)) (ob (X5_play 58 (63 : Int32) (gi S 5 0) x3 S) (fun r1 S2 => ob (X5_measureFor 58 (-1 : Int32) S2) (fun r3 S4 => oi (x3 = 0) (X7_bestPolicy_50 x3 r3 S4) (oi (x2 ≤ r3) (some (.inl (x1, x2, (x3 + (1 : Int32))), S4)) (X7_bestPolicy_50 x3 r3 S4)))))
set_option maxHeartbeats 4000000 in
set_option maxRecDepth 20000 in
theorem xX7_bestPolicy_6 {F : Cx} (hF : Ok F cX7_bestPolicy RX7) (hN : nLF F 5) (hR : RmF F 5 0) {x1 : Int32} {x2 : Int32} {x3 : Int32} {K : ((Int32 × Int32 × Int32) ⊕ Int32) → St → Prop} (hag : ∀ (a : Int32 × Int32 × Int32) (S : St), K (.inl a) S → X F 0 6 [(0, .ref (gA F 0)), (1, .int a.1), (2, .int a.2.1), (3, .int a.2.2)] [] S) (hex61 : ∀ (q : Int32) (S : St), K (.inr q) S → X F 0 61 [(1, .int q)] [] S) {S : St} {r : (Int32 × Int32 × Int32) ⊕ Int32} {S1 : St} (h : X7_bestPolicy_6 x1 x2 x3 S = some (r, S1)) (hk : K r S1) : X F 0 6 [(0, .ref (gA F 0)), (1, .int x1), (2, .int x2), (3, .int x3)] [] S := by
  unfold X7_bestPolicy_6 at h
  refine x_iload_n hF dX7_bestPolicy_6 rfl rfl ?_
  refine x_iconst (v := (5 : Int32)) hF dX7_bestPolicy_7 (by decide) ?_
  refine x_icmp_ge (tgt := 61) hF dX7_bestPolicy_8 (by decide) (fun hc => ?_) (fun hc => ?_)
  · have h := oi_pos hc h
    obtain ⟨rfl, rfl⟩ := sm h
    exact x_sub (hex61 _ _ hk) ⟨rfl, trivial⟩
  · have h := oi_neg hc h
    refine x_aload_n hF dX7_bestPolicy_11 rfl rfl ?_
    refine x_getr hF sh0 3 rfl ck6 (by decide) (by decide) tw_295 rfl dX7_bestPolicy_12 ?_
    refine x_bipush (v := (63 : Int32)) hF dX7_bestPolicy_15 (by decide) ?_
    refine x_aload_n hF dX7_bestPolicy_17 rfl rfl ?_
    refine x_getr hF sh0 0 rfl ck6 (by decide) (by decide) tw_292 rfl dX7_bestPolicy_18 ?_
    refine x_getr hF sh1 4 rfl ck3 (by decide) (by decide) tw_132 rfl dX7_bestPolicy_21 ?_
    refine x_iconst (v := (0 : Int32)) hF dX7_bestPolicy_24 (by decide) ?_
    refine x_iald (j := 0) hF sh5 (by decide) (by decide) (by decide) dX7_bestPolicy_25 ?_
    refine x_iload_n hF dX7_bestPolicy_26 rfl rfl ?_
    obtain ⟨r1, S2, hcall, h⟩ := ob_some h
    refine x_cVv hF hN hR (ctX5_play (by decide) hF.tr hcall) mwX5_play miX5_play sh58 ck4 (by decide) tw_363 ⟨by decide, by decide⟩ rfl rfl (Nat.le_of_ble_eq_true rfl) dX7_bestPolicy_27 ?_
    refine x_aload_n hF dX7_bestPolicy_30 rfl rfl ?_
    refine x_getr hF sh0 3 rfl ck6 (by decide) (by decide) tw_295 rfl dX7_bestPolicy_31 ?_
    refine x_iconst (v := (-1 : Int32)) hF dX7_bestPolicy_34 (by decide) ?_
    obtain ⟨r3, S4, hcall, h⟩ := ob_some h
    refine x_cVi hF hN hR (ctX5_measureFor (by decide) hF.tr hcall) mwX5_measureFor miX5_measureFor sh58 ck4 (by decide) tw_469 ⟨by decide, by decide⟩ rfl rfl (Nat.le_of_ble_eq_true rfl) dX7_bestPolicy_35 ?_
    refine x_istore [(4, _), (0, _), (1, _), (2, _), (3, _)] hF hN dX7_bestPolicy_38 (by decide) rfl ?_
    refine x_iload_n hF dX7_bestPolicy_40 rfl rfl ?_
    refine x_if_eq (tgt := 50) hF dX7_bestPolicy_41 (by decide) (fun hc => ?_) (fun hc => ?_)
    · have h := oi_pos hc h
      exact x_sub (xX7_bestPolicy_50 hF hN hR (K := K) hag hex61 h hk) ⟨rfl, rfl, rfl, trivial⟩
    · have h := oi_neg hc h
      refine x_iload hF dX7_bestPolicy_44 rfl ?_
      refine x_iload_n hF dX7_bestPolicy_46 rfl rfl ?_
      refine x_icmp_ge (tgt := 55) hF dX7_bestPolicy_47 (by decide) (fun hc => ?_) (fun hc => ?_)
      · have h := oi_pos hc h
        refine x_iinc [(3, _), (4, _), (0, _), (1, _), (2, _)] (v := (1 : Int32)) hF hN dX7_bestPolicy_55 rfl (by decide) (by decide) rfl ?_
        refine x_goto (tgt := 6) hF dX7_bestPolicy_58 (by decide) ?_
        obtain ⟨rfl, rfl⟩ := sm h
        exact x_sub (hag _ _ hk) ⟨rfl, rfl, rfl, rfl, trivial⟩
      · have h := oi_neg hc h
        exact x_sub (xX7_bestPolicy_50 hF hN hR (K := K) hag hex61 h hk) ⟨rfl, rfl, rfl, trivial⟩
noncomputable def X7_bestPolicy_6L (a : Int32 × Int32 × Int32) (S : St) : Option (Int32 × St) :=
  lp (fun (a : Int32 × Int32 × Int32) (S : St) => X7_bestPolicy_6 a.1 a.2.1 a.2.2 S) a S
theorem xX7_bestPolicy_6L {F : Cx} (hF : Ok F cX7_bestPolicy RX7) (hN : nLF F 5) (hR : RmF F 5 0) {K : Int32 → St → Prop} (hex61 : ∀ (q : Int32) (S : St), K (q) S → X F 0 61 [(1, .int q)] [] S) {a : Int32 × Int32 × Int32} {S : St} {b : Int32} {S1 : St} (h : X7_bestPolicy_6L  a S = some (b, S1)) (hk : K b S1) : X F 0 6 [(0, .ref (gA F 0)), (1, .int a.1), (2, .int a.2.1), (3, .int a.2.2)] [] S := by
  unfold X7_bestPolicy_6L at h
  exact lp_rule (Xh := fun (a : Int32 × Int32 × Int32) (S : St) => X F 0 6 [(0, .ref (gA F 0)), (1, .int a.1), (2, .int a.2.1), (3, .int a.2.2)] [] S) (K := K) (fun a S r S1 h hk => xX7_bestPolicy_6 hF hN hR (K := fun r S => match r with | .inl a => X F 0 6 [(0, .ref (gA F 0)), (1, .int a.1), (2, .int a.2.1), (3, .int a.2.2)] [] S | .inr b => K b S) (fun _ _ h => h) (fun q S h => hex61 q S h) h (by cases r <;> exact hk)) h hk
noncomputable def X7_bestPolicy (S : St) : Option (Int32 × St) :=
  ob (X7_bestPolicy_6L ((0 : Int32), (0 : Int32), (0 : Int32)) S) (fun b5 S6 => some (b5, S6))
set_option maxHeartbeats 4000000 in
set_option maxRecDepth 20000 in
theorem ctX7_bestPolicy {l : Launch} {G : Ga} (hl : l.stackTraces = false) {S : St} {r : Int32} {S1 : St} (h : X7_bestPolicy  S = some (r, S1)) : CT l G 5 yX7_bestPolicy cX7_bestPolicy 5 (some .int) [.ref (G.1 0)] S (some (.int r)) S1 := by
  refine ct_of hl (by decide) (Nat.le_of_ble_eq_true rfl) (fun F hFl hFG hF hN hR hret => ?_)
  subst hFl hFG
  show X F 0 0 [(0, .ref (gA F 0))] [] S
  have hret : ∀ (v : Int32) (S : St) (pc : Nat) (ls : List (Nat × Value)), (v = r ∧ S = S1) → decode cX7_bestPolicy pc = .ok (.ireturn, 1) → X F 0 pc ls [.int v] S := fun v S2 pc ls hq hd => by obtain ⟨rfl, rfl⟩ := hq; exact hret.1 pc ls v rfl rfl hd
  have hk : r = r ∧ S1 = S1 := ⟨rfl, rfl⟩
  unfold X7_bestPolicy at h
  refine x_iconst (v := (0 : Int32)) hF dX7_bestPolicy_0 (by decide) ?_
  refine x_istore_n [(1, _), (0, _)] hF hN dX7_bestPolicy_1 rfl (by decide) rfl ?_
  refine x_iconst (v := (0 : Int32)) hF dX7_bestPolicy_2 (by decide) ?_
  refine x_istore_n [(2, _), (1, _), (0, _)] hF hN dX7_bestPolicy_3 rfl (by decide) rfl ?_
  refine x_iconst (v := (0 : Int32)) hF dX7_bestPolicy_4 (by decide) ?_
  refine x_istore_n [(3, _), (2, _), (1, _), (0, _)] hF hN dX7_bestPolicy_5 rfl (by decide) rfl ?_
  obtain ⟨b5, S6, hlb5, h⟩ := ob_some h
  refine x_sub (xX7_bestPolicy_6L hF hN hR (K := fun bb SS => bb = b5 ∧ SS = S6) ?_ hlb5 ⟨rfl, rfl⟩) ⟨rfl, rfl, rfl, rfl, trivial⟩
  rintro _ _ ⟨rfl, rfl⟩
  refine x_iload_n hF dX7_bestPolicy_61 rfl rfl ?_
  obtain ⟨rfl, rfl⟩ := sm h
  exact hret _ _ _ _ hk dX7_bestPolicy_62
noncomputable def X6_isFull (S : St) : Option (Int32 × St) :=
  oi ((gi S 68 1) < (120 : Int32)) (some ((0 : Int32), S)) (some ((1 : Int32), S))
set_option maxHeartbeats 4000000 in
set_option maxRecDepth 20000 in
theorem ctX6_isFull {l : Launch} {G : Ga} (hl : l.stackTraces = false) {S : St} {r : Int32} {S1 : St} (h : X6_isFull  S = some (r, S1)) : CT l G 0 yX6_isFull cX6_isFull 1 (some .boolean) [.ref (G.1 68)] S (some (.int r)) S1 := by
  refine ct_of hl (by decide) (Nat.le_of_ble_eq_true rfl) (fun F hFl hFG hF hN hR hret => ?_)
  subst hFl hFG
  show X F 0 0 [(0, .ref (gA F 68))] [] S
  have hret : ∀ (v : Int32) (S : St) (pc : Nat) (ls : List (Nat × Value)), isB v → (v = r ∧ S = S1) → decode cX6_isFull pc = .ok (.ireturn, 1) → X F 0 pc ls [.int v] S := fun v S2 pc ls hb hq hd => by obtain ⟨rfl, rfl⟩ := hq; exact hret.2.1 pc ls v rfl hb rfl hd
  have hk : r = r ∧ S1 = S1 := ⟨rfl, rfl⟩
  unfold X6_isFull at h
  refine x_aload_n hF dX6_isFull_0 rfl rfl ?_
  refine x_geti hF sh68 1 rfl ck5 (by decide) (by decide) tw_273 rfl dX6_isFull_1 ?_
  refine x_bipush (v := (120 : Int32)) hF dX6_isFull_4 (by decide) ?_
  refine x_icmp_lt (tgt := 13) hF dX6_isFull_6 (by decide) (fun hc => ?_) (fun hc => ?_)
  · have h := oi_pos hc h
    refine x_iconst (v := (0 : Int32)) hF dX6_isFull_13 (by decide) ?_
    obtain ⟨rfl, rfl⟩ := sm h
    exact hret _ _ _ _ (by decide) hk dX6_isFull_14
  · have h := oi_neg hc h
    refine x_iconst (v := (1 : Int32)) hF dX6_isFull_9 (by decide) ?_
    refine x_goto (tgt := 14) hF dX6_isFull_10 (by decide) ?_
    obtain ⟨rfl, rfl⟩ := sm h
    exact hret _ _ _ _ (by decide) hk dX6_isFull_14
noncomputable def X6_append (x1 : Int32) (S : St) : Option (Unit × St) :=
  ob (X6_isFull  S) (fun r1 S2 => oi (r1 = 0) (og (inb (gi S2 68 1) 120) (ol (si S2 69 (ix (gi S2 68 1)) x1) (fun T3 => ol (si T3 68 1 ((gi T3 68 1) + (1 : Int32))) (fun T4 => some ((), T4))))) (some ((), S2)))
set_option maxHeartbeats 4000000 in
set_option maxRecDepth 20000 in
theorem ctX6_append {l : Launch} {G : Ga} {x1 : Int32} (hl : l.stackTraces = false) {S : St} {r : Unit} {S1 : St} (h : X6_append x1 S = some (r, S1)) : CT l G 1 yX6_append cX6_append 2 none [.ref (G.1 68), .int x1] S none S1 := by
  refine ct_of hl (by decide) (Nat.le_of_ble_eq_true rfl) (fun F hFl hFG hF hN hR hret => ?_)
  subst hFl hFG
  show X F 0 0 [(0, .ref (gA F 68)), (1, .int x1)] [] S
  have hret : ∀ (v : Unit) (S : St) (pc : Nat) (ls : List (Nat × Value)), (v = r ∧ S = S1) → decode cX6_append pc = .ok (.return_, 1) → X F 0 pc ls [] S := fun v S2 pc ls hq hd => by obtain ⟨rfl, rfl⟩ := hq; exact hret.2.2.2.2.1 pc ls rfl rfl hd
  have hk : r = r ∧ S1 = S1 := ⟨rfl, rfl⟩
  unfold X6_append at h
  refine x_aload_n hF dX6_append_0 rfl rfl ?_
  obtain ⟨r1, S2, hcall, h⟩ := ob_some h
  refine x_cVi hF hN hR (ctX6_isFull hF.tr hcall) mwX6_isFull miX6_isFull sh68 ck5 (by decide) tw_1002 ⟨by decide, by decide⟩ rfl rfl (Nat.le_of_ble_eq_true rfl) dX6_append_1 ?_
  refine x_if_ne (tgt := 27) hF dX6_append_4 (by decide) (fun hc => ?_) (fun hc => ?_)
  · have h := oi_neg hc h
    obtain ⟨rfl, rfl⟩ := sm h
    exact hret _ _ _ _ hk dX6_append_27
  · have h := oi_pos hc h
    refine x_aload_n hF dX6_append_7 rfl rfl ?_
    refine x_getr hF sh68 0 rfl ck5 (by decide) (by decide) tw_272 rfl dX6_append_8 ?_
    refine x_aload_n hF dX6_append_11 rfl rfl ?_
    refine x_geti hF sh68 1 rfl ck5 (by decide) (by decide) tw_273 rfl dX6_append_12 ?_
    refine x_iload_n hF dX6_append_15 rfl rfl ?_
    obtain ⟨hg, h⟩ := og_some h
    obtain ⟨T3, eT3, h⟩ := ol_some h
    refine x_iast hF sh69 (by decide) hg rfl eT3 dX6_append_16 ?_
    refine x_aload_n hF dX6_append_17 rfl rfl ?_
    refine x_dup hF dX6_append_18 rfl ?_
    refine x_geti hF sh68 1 rfl ck5 (by decide) (by decide) tw_273 rfl dX6_append_19 ?_
    refine x_iconst (v := (1 : Int32)) hF dX6_append_22 (by decide) ?_
    refine x_iadd hF dX6_append_23 ?_
    obtain ⟨T4, eT4, h⟩ := ol_some h
    refine x_puti hF sh68 1 rfl ck5 (by decide) (by decide) tw_273 rfl rfl rfl rfl rfl eT4 dX6_append_24 ?_
    obtain ⟨rfl, rfl⟩ := sm h
    exact hret _ _ _ _ hk dX6_append_27
noncomputable def X7_type_12 (S : St) : Option ((Int32 ⊕ Nat) × St) :=
  some (.inr 1, S)
set_option maxHeartbeats 4000000 in
set_option maxRecDepth 20000 in
theorem xX7_type_12 {F : Cx} (hF : Ok F cX7_type RX7) (hN : nLF F 2) (hR : RmF F 6 1) {K : (Int32 ⊕ Nat) → St → Prop} (hret : ∀ (v : Int32) (S : St) (u pc : Nat) (ls : List (Nat × Value)), u ≤ 1 → K (.inl v) S → decode cX7_type pc = .ok (.ireturn, 1) → X F u pc ls [.int v] S) (hxt : ∀ (e : Nat) (S : St) (u pc : Nat) (ls : List (Nat × Value)), u ≤ 1 → K (.inr e) S → XT F u pc e ls S) (hthr : ∀ {e : Nat} {S : St} {u pc ik is j : Nat} {tx : String} {ls : List (Nat × Value)} {st : List Value}, u + 1 ≤ 1 → e < 3 → (st.map fun v => v.category).sum ≤ 8 → K (.inr e) S → Thr cX7_type pc e ik is j tx ∨ ThrW cX7_type pc e ik is j tx → X F u pc ls st S) {S : St} {r : (Int32 ⊕ Nat)} {S1 : St} (h : X7_type_12  S = some (r, S1)) (hk : K r S1) : X F 0 12 [] [] S := by
  unfold X7_type_12 at h
  obtain ⟨rfl, rfl⟩ := sm h
  exact hthr (e := 1) (j := 12) (by decide) (by decide) (Nat.le_of_ble_eq_true rfl) hk (Or.inl ⟨tw_665, tw_84, rfl, dX7_type_12, dX7_type_15, dX7_type_16, dX7_type_18, dX7_type_21⟩)
noncomputable def X7_type (x1 : Int32) (S : St) : Option ((Int32 ⊕ Nat) × St) :=
  oi (x1 < (32 : Int32)) (X7_type_12  S) (oi (x1 ≤ (126 : Int32)) (ob (X6_isFull  S) (fun r1 S2 => oi (r1 = 0) (ob (X6_append x1 S2) (fun r3 S4 => some (.inl (gi S4 68 1), S4))) (some (.inr 2, S2)))) (X7_type_12  S))
set_option maxHeartbeats 4000000 in
set_option maxRecDepth 20000 in
theorem cxX7_type {l : Launch} {G : Ga} {x1 : Int32} (hl : l.stackTraces = false) {S : St} {r : (Int32 ⊕ Nat)} {S1 : St} (h : X7_type x1 S = some (r, S1)) : CX l G 6 1 yX7_type cX7_type 2 (some .int) [.ref (G.1 0), .int x1] S (rvI r) S1 := by
  refine cx_of hl (by decide) rfl (by decide) (Nat.le_of_ble_eq_true rfl) (fun F hFl hFG hF hN hR hret => ?_)
  subst hFl hFG
  show X F 0 0 [(0, .ref (gA F 0)), (1, .int x1)] [] S
  have hxt : ∀ (e : Nat) (S : St) (u pc : Nat) (ls : List (Nat × Value)), u ≤ 1 → (.inr e = r ∧ S = S1) → XT F u pc e ls S := fun e S2 u pc ls hu hq => by obtain ⟨rfl, rfl⟩ := hq; exact hret.2.2.1 u pc e ls hu rfl
  have hthr : ∀ {e : Nat} {S : St} {u pc ik is j : Nat} {tx : String} {ls : List (Nat × Value)} {st : List Value}, u + 1 ≤ 1 → e < 3 → (st.map fun v => v.category).sum ≤ 8 → (.inr e = r ∧ S = S1) → Thr cX7_type pc e ik is j tx ∨ ThrW cX7_type pc e ik is j tx → X F u pc ls st S := fun {e S2 u pc ik is j tx ls st} hu he hs hq hT => by obtain ⟨rfl, rfl⟩ := hq; exact hret.2.2.2 u pc e ik is j tx ls st hu he hs rfl hT
  have hret : ∀ (v : Int32) (S : St) (u pc : Nat) (ls : List (Nat × Value)), u ≤ 1 → (.inl v = r ∧ S = S1) → decode cX7_type pc = .ok (.ireturn, 1) → X F u pc ls [.int v] S := fun v S2 u pc ls hu hq hd => by obtain ⟨rfl, rfl⟩ := hq; exact hret.1 u pc ls v hu rfl rfl hd
  have hk : r = r ∧ S1 = S1 := ⟨rfl, rfl⟩
  unfold X7_type at h
  refine x_iload_n hF dX7_type_0 rfl rfl ?_
  refine x_bipush (v := (32 : Int32)) hF dX7_type_1 (by decide) ?_
  refine x_icmp_lt (tgt := 12) hF dX7_type_3 (by decide) (fun hc => ?_) (fun hc => ?_)
  · have h := oi_pos hc h
    exact x_sub (xX7_type_12 hF hN hR (K := fun v9 S9 => v9 = r ∧ S9 = S1) hret hxt hthr h hk) trivial
  · have h := oi_neg hc h
    refine x_iload_n hF dX7_type_6 rfl rfl ?_
    refine x_bipush (v := (126 : Int32)) hF dX7_type_7 (by decide) ?_
    refine x_icmp_le (tgt := 22) hF dX7_type_9 (by decide) (fun hc => ?_) (fun hc => ?_)
    · have h := oi_pos hc h
      refine x_aload_n hF dX7_type_22 rfl rfl ?_
      refine x_getr hF sh0 4 rfl ck6 (by decide) (by decide) tw_296 rfl dX7_type_23 ?_
      obtain ⟨r1, S2, hcall, h⟩ := ob_some h
      refine x_cVi hF hN hR (ctX6_isFull hF.tr hcall) mwX6_isFull miX6_isFull sh68 ck5 (by decide) tw_993 ⟨by decide, by decide⟩ rfl rfl (Nat.le_of_ble_eq_true rfl) dX7_type_26 ?_
      refine x_if_eq (tgt := 42) hF dX7_type_29 (by decide) (fun hc => ?_) (fun hc => ?_)
      · have h := oi_pos hc h
        refine x_aload_n hF dX7_type_42 rfl rfl ?_
        refine x_getr hF sh0 4 rfl ck6 (by decide) (by decide) tw_296 rfl dX7_type_43 ?_
        refine x_iload_n hF dX7_type_46 rfl rfl ?_
        obtain ⟨r3, S4, hcall, h⟩ := ob_some h
        refine x_cVv hF hN hR (ctX6_append hF.tr hcall) mwX6_append miX6_append sh68 ck5 (by decide) tw_998 ⟨by decide, by decide⟩ rfl rfl (Nat.le_of_ble_eq_true rfl) dX7_type_47 ?_
        refine x_aload_n hF dX7_type_50 rfl rfl ?_
        refine x_getr hF sh0 4 rfl ck6 (by decide) (by decide) tw_296 rfl dX7_type_51 ?_
        refine x_geti hF sh68 1 rfl ck5 (by decide) (by decide) tw_274 rfl dX7_type_54 ?_
        obtain ⟨rfl, rfl⟩ := sm h
        exact hret _ _ _ _ _ (by decide) hk dX7_type_57
      · have h := oi_neg hc h
        obtain ⟨rfl, rfl⟩ := sm h
        exact hthr (e := 2) (j := 13) (by decide) (by decide) (Nat.le_of_ble_eq_true rfl) hk (Or.inl ⟨tw_685, tw_85, rfl, dX7_type_32, dX7_type_35, dX7_type_36, dX7_type_38, dX7_type_41⟩)
    · have h := oi_neg hc h
      exact x_sub (xX7_type_12 hF hN hR (K := fun v9 S9 => v9 = r ∧ S9 = S1) hret hxt hthr h hk) trivial
noncomputable def X7_clearText (S : St) : Option (Int32 × St) :=
  ol (si S 68 1 (0 : Int32)) (fun T1 => some ((gi S 68 1), T1))
set_option maxHeartbeats 4000000 in
set_option maxRecDepth 20000 in
theorem ctX7_clearText {l : Launch} {G : Ga} (hl : l.stackTraces = false) {S : St} {r : Int32} {S1 : St} (h : X7_clearText  S = some (r, S1)) : CT l G 0 yX7_clearText cX7_clearText 2 (some .int) [.ref (G.1 0)] S (some (.int r)) S1 := by
  refine ct_of hl (by decide) (Nat.le_of_ble_eq_true rfl) (fun F hFl hFG hF hN hR hret => ?_)
  subst hFl hFG
  show X F 0 0 [(0, .ref (gA F 0))] [] S
  have hret : ∀ (v : Int32) (S : St) (pc : Nat) (ls : List (Nat × Value)), (v = r ∧ S = S1) → decode cX7_clearText pc = .ok (.ireturn, 1) → X F 0 pc ls [.int v] S := fun v S2 pc ls hq hd => by obtain ⟨rfl, rfl⟩ := hq; exact hret.1 pc ls v rfl rfl hd
  have hk : r = r ∧ S1 = S1 := ⟨rfl, rfl⟩
  unfold X7_clearText at h
  refine x_aload_n hF dX7_clearText_0 rfl rfl ?_
  refine x_getr hF sh0 4 rfl ck6 (by decide) (by decide) tw_296 rfl dX7_clearText_1 ?_
  refine x_geti hF sh68 1 rfl ck5 (by decide) (by decide) tw_274 rfl dX7_clearText_4 ?_
  refine x_istore_n [(1, _), (0, _)] hF hN dX7_clearText_7 rfl (by decide) rfl ?_
  refine x_aload_n hF dX7_clearText_8 rfl rfl ?_
  refine x_getr hF sh0 4 rfl ck6 (by decide) (by decide) tw_296 rfl dX7_clearText_9 ?_
  refine x_iconst (v := (0 : Int32)) hF dX7_clearText_12 (by decide) ?_
  obtain ⟨T1, eT1, h⟩ := ol_some h
  refine x_puti hF sh68 1 rfl ck5 (by decide) (by decide) tw_274 rfl rfl rfl rfl rfl eT1 dX7_clearText_13 ?_
  refine x_iload_n hF dX7_clearText_16 rfl rfl ?_
  obtain ⟨rfl, rfl⟩ := sm h
  exact hret _ _ _ _ hk dX7_clearText_17
noncomputable def X6_isWordAt_15 (w1 : Nat) (x2 : Int32) (x4 : Int32) (S : St) : Option (((Int32) ⊕ (Unit ⊕ Unit)) × St) :=
  oi ((nI (wLn w1)) ≤ x4) (some (.inr (.inr ()), S)) (og (inb x4 (wLn w1)) (og (inb (x2 + x4) 120) (oi ((wCh w1 (ix x4)) = (gi S 69 (ix (x2 + x4)))) (some (.inl (x4 + (1 : Int32)), S)) (some (.inr (.inl ()), S)))))
set_option maxHeartbeats 4000000 in
set_option maxRecDepth 20000 in
theorem xX6_isWordAt_15 {F : Cx} {w1 : Nat} (iw1 : w1 < 7) (hF : Ok F cX6_isWordAt RX6) (hN : nLF F 5) (hR : RmF F 4 0) {x2 : Int32} {x4 : Int32} {K : ((Int32) ⊕ (Unit ⊕ Unit)) → St → Prop} (hag : ∀ (a : Int32) (S : St), K (.inl a) S → X F 0 15 [(0, .ref (gA F 68)), (1, .ref (gS F (10 + w1))), (2, .int x2), (4, .int a)] [] S) (hex42 : ∀ (q : Unit) (S : St), K (.inr (.inl q)) S → X F 0 42 [] [] S) (hex50 : ∀ (q : Unit) (S : St), K (.inr (.inr q)) S → X F 0 50 [] [] S) {S : St} {r : (Int32) ⊕ (Unit ⊕ Unit)} {S1 : St} (h : X6_isWordAt_15 w1 x2 x4 S = some (r, S1)) (hk : K r S1) : X F 0 15 [(0, .ref (gA F 68)), (1, .ref (gS F (10 + w1))), (2, .int x2), (4, .int x4)] [] S := by
  unfold X6_isWordAt_15 at h
  refine x_iload hF dX6_isWordAt_15 rfl ?_
  refine x_aload_n hF dX6_isWordAt_17 rfl rfl ?_
  refine x_cVO hF hN hR (hF.e6.2.2.1.1 _ iw1).1 (ctJ0_length iw1 hF.tr) mwJ0_length_8abf5 miJ0_length_8abf5 tw_507 ⟨by decide, by decide⟩ rfl rfl (Nat.le_of_ble_eq_true rfl) dX6_isWordAt_18 ?_
  refine x_icmp_ge (tgt := 50) hF dX6_isWordAt_21 (by decide) (fun hc => ?_) (fun hc => ?_)
  · have h := oi_pos hc h
    obtain ⟨rfl, rfl⟩ := sm h
    exact x_sub (hex50 _ _ hk) trivial
  · have h := oi_neg hc h
    refine x_aload_n hF dX6_isWordAt_24 rfl rfl ?_
    refine x_iload hF dX6_isWordAt_25 rfl ?_
    obtain ⟨hg, h⟩ := og_some h
    refine x_cVO hF hN hR (hF.e6.2.2.1.1 _ iw1).1 (ctJ0_charAt iw1 hg hF.tr) mwJ0_charAt_5068e miJ0_charAt_5068e tw_517 ⟨by decide, by decide⟩ rfl rfl (Nat.le_of_ble_eq_true rfl) dX6_isWordAt_27 ?_
    refine x_aload_n hF dX6_isWordAt_30 rfl rfl ?_
    refine x_getr hF sh68 0 rfl ck5 (by decide) (by decide) tw_272 rfl dX6_isWordAt_31 ?_
    refine x_iload_n hF dX6_isWordAt_34 rfl rfl ?_
    refine x_iload hF dX6_isWordAt_35 rfl ?_
    refine x_iadd hF dX6_isWordAt_37 ?_
    obtain ⟨hg, h⟩ := og_some h
    refine x_iald hF sh69 (by decide) hg rfl dX6_isWordAt_38 ?_
    refine x_icmp_eq (tgt := 44) hF dX6_isWordAt_39 (by decide) (fun hc => ?_) (fun hc => ?_)
    · have h := oi_pos hc h
      refine x_iinc [(4, _), (0, _), (1, _), (2, _)] (v := (1 : Int32)) hF hN dX6_isWordAt_44 rfl (by decide) (by decide) rfl ?_
      refine x_goto (tgt := 15) hF dX6_isWordAt_47 (by decide) ?_
      obtain ⟨rfl, rfl⟩ := sm h
      exact x_sub (hag _ _ hk) ⟨rfl, rfl, rfl, rfl, trivial⟩
    · have h := oi_neg hc h
      obtain ⟨rfl, rfl⟩ := sm h
      exact x_sub (hex42 _ _ hk) trivial
noncomputable def X6_isWordAt_15L (w1 : Nat) (x2 : Int32) (a : Int32) (S : St) : Option ((Unit ⊕ Unit) × St) :=
  lp (fun (a : Int32) (S : St) => X6_isWordAt_15 w1 x2 a S) a S
theorem xX6_isWordAt_15L {F : Cx} {w1 : Nat} (iw1 : w1 < 7) (hF : Ok F cX6_isWordAt RX6) (hN : nLF F 5) (hR : RmF F 4 0) {x2 : Int32} {K : (Unit ⊕ Unit) → St → Prop} (hex42 : ∀ (q : Unit) (S : St), K ((.inl q)) S → X F 0 42 [] [] S) (hex50 : ∀ (q : Unit) (S : St), K ((.inr q)) S → X F 0 50 [] [] S) {a : Int32} {S : St} {b : Unit ⊕ Unit} {S1 : St} (h : X6_isWordAt_15L w1 x2 a S = some (b, S1)) (hk : K b S1) : X F 0 15 [(0, .ref (gA F 68)), (1, .ref (gS F (10 + w1))), (2, .int x2), (4, .int a)] [] S := by
  unfold X6_isWordAt_15L at h
  exact lp_rule (Xh := fun (a : Int32) (S : St) => X F 0 15 [(0, .ref (gA F 68)), (1, .ref (gS F (10 + w1))), (2, .int x2), (4, .int a)] [] S) (K := K) (fun a S r S1 h hk => xX6_isWordAt_15 iw1 hF hN hR (K := fun r S => match r with | .inl a => X F 0 15 [(0, .ref (gA F 68)), (1, .ref (gS F (10 + w1))), (2, .int x2), (4, .int a)] [] S | .inr b => K b S) (fun _ _ h => h) (fun q S h => hex42 q S h) (fun q S h => hex50 q S h) h (by cases r <;> exact hk)) h hk
noncomputable def X6_isWordAt (w1 : Nat) (x2 : Int32) (x3 : Int32) (S : St) : Option (Int32 × St) :=
  oi ((nI (wLn w1)) = (x3 - x2)) (ob (X6_isWordAt_15L w1 x2 (0 : Int32) S) (fun b1 S2 => match b1 with | .inl q3 => some ((0 : Int32), S2) | .inr q4 => some ((1 : Int32), S2))) (some ((0 : Int32), S))
set_option maxHeartbeats 4000000 in
set_option maxRecDepth 20000 in
theorem ctX6_isWordAt {l : Launch} {G : Ga} {w1 : Nat} (iw1 : w1 < 7) {x2 : Int32} {x3 : Int32} (hl : l.stackTraces = false) {S : St} {r : Int32} {S1 : St} (h : X6_isWordAt w1 x2 x3 S = some (r, S1)) : CT l G 4 yX6_isWordAt cX6_isWordAt 5 (some .boolean) [.ref (G.1 68), .ref (G.2.2.2.2 (10 + w1)), .int x2, .int x3] S (some (.int r)) S1 := by
  refine ct_of hl (by decide) (Nat.le_of_ble_eq_true rfl) (fun F hFl hFG hF hN hR hret => ?_)
  subst hFl hFG
  show X F 0 0 [(0, .ref (gA F 68)), (1, .ref (gS F (10 + w1))), (2, .int x2), (3, .int x3)] [] S
  have hret : ∀ (v : Int32) (S : St) (pc : Nat) (ls : List (Nat × Value)), isB v → (v = r ∧ S = S1) → decode cX6_isWordAt pc = .ok (.ireturn, 1) → X F 0 pc ls [.int v] S := fun v S2 pc ls hb hq hd => by obtain ⟨rfl, rfl⟩ := hq; exact hret.2.1 pc ls v rfl hb rfl hd
  have hk : r = r ∧ S1 = S1 := ⟨rfl, rfl⟩
  unfold X6_isWordAt at h
  refine x_aload_n hF dX6_isWordAt_0 rfl rfl ?_
  refine x_cVO hF hN hR (hF.e6.2.2.1.1 _ iw1).1 (ctJ0_length iw1 hF.tr) mwJ0_length_8abf5 miJ0_length_8abf5 tw_507 ⟨by decide, by decide⟩ rfl rfl (Nat.le_of_ble_eq_true rfl) dX6_isWordAt_1 ?_
  refine x_iload_n hF dX6_isWordAt_4 rfl rfl ?_
  refine x_iload_n hF dX6_isWordAt_5 rfl rfl ?_
  refine x_isub hF dX6_isWordAt_6 ?_
  refine x_icmp_eq (tgt := 12) hF dX6_isWordAt_7 (by decide) (fun hc => ?_) (fun hc => ?_)
  · have h := oi_pos hc h
    refine x_iconst (v := (0 : Int32)) hF dX6_isWordAt_12 (by decide) ?_
    refine x_istore [(4, _), (0, _), (1, _), (2, _), (3, _)] hF hN dX6_isWordAt_13 (by decide) rfl ?_
    obtain ⟨b1, S2, hlb1, h⟩ := ob_some h
    refine x_sub (xX6_isWordAt_15L iw1 hF hN hR (K := fun bb SS => bb = b1 ∧ SS = S2) ?_ ?_ hlb1 ⟨rfl, rfl⟩) ⟨rfl, rfl, rfl, rfl, trivial⟩
    · rintro _ _ ⟨rfl, rfl⟩
      dsimp only at h
      refine x_iconst (v := (0 : Int32)) hF dX6_isWordAt_42 (by decide) ?_
      obtain ⟨rfl, rfl⟩ := sm h
      exact hret _ _ _ _ (by decide) hk dX6_isWordAt_43
    · rintro _ _ ⟨rfl, rfl⟩
      dsimp only at h
      refine x_iconst (v := (1 : Int32)) hF dX6_isWordAt_50 (by decide) ?_
      obtain ⟨rfl, rfl⟩ := sm h
      exact hret _ _ _ _ (by decide) hk dX6_isWordAt_51
  · have h := oi_neg hc h
    refine x_iconst (v := (0 : Int32)) hF dX6_isWordAt_10 (by decide) ?_
    obtain ⟨rfl, rfl⟩ := sm h
    exact hret _ _ _ _ (by decide) hk dX6_isWordAt_11
noncomputable def X6_commandAt_2 (x1 : Int32) (x2 : Int32) (x3 : Int32) (S : St) : Option (((Int32) ⊕ (Int32 ⊕ Unit)) × St) :=
  oi ((7 : Int32) ≤ x3) (some (.inr (.inr ()), S)) (og (inb x3 7) (ob (X6_isWordAt (ix x3) x1 x2 S) (fun r1 S2 => oi (r1 = 0) (some (.inl (x3 + (1 : Int32)), S2)) (some (.inr (.inl x3), S2)))))
set_option maxHeartbeats 4000000 in
set_option maxRecDepth 20000 in
theorem xX6_commandAt_2 {F : Cx} (hF : Ok F cX6_commandAt RX6) (hN : nLF F 4) (hR : RmF F 5 0) {x1 : Int32} {x2 : Int32} {x3 : Int32} {K : ((Int32) ⊕ (Int32 ⊕ Unit)) → St → Prop} (hag : ∀ (a : Int32) (S : St), K (.inl a) S → X F 0 2 [(0, .ref (gA F 68)), (1, .int x1), (2, .int x2), (3, .int a)] [] S) (hex27 : ∀ (q : Int32) (S : St), K (.inr (.inl q)) S → X F 0 27 [(3, .int q)] [] S) (hex39 : ∀ (q : Unit) (S : St), K (.inr (.inr q)) S → X F 0 39 [] [] S) {S : St} {r : (Int32) ⊕ (Int32 ⊕ Unit)} {S1 : St} (h : X6_commandAt_2 x1 x2 x3 S = some (r, S1)) (hk : K r S1) : X F 0 2 [(0, .ref (gA F 68)), (1, .int x1), (2, .int x2), (3, .int x3)] [] S := by
  unfold X6_commandAt_2 at h
  refine x_iload_n hF dX6_commandAt_2 rfl rfl ?_
  refine x_getsN (v := .ref (gS F 4)) hF (List.mem_of_getElem? (i := 4) rfl) (List.mem_of_getElem? (i := 1) rfl) dX6_commandAt_3 ?_
  refine x_clen hF dX6_commandAt_6 ?_
  refine x_icmp_ge (tgt := 39) hF dX6_commandAt_7 (by decide) (fun hc => ?_) (fun hc => ?_)
  · have h := oi_pos hc h
    obtain ⟨rfl, rfl⟩ := sm h
    exact x_sub (hex39 _ _ hk) trivial
  · have h := oi_neg hc h
    refine x_aload_n hF dX6_commandAt_10 rfl rfl ?_
    refine x_getsN (v := .ref (gS F 4)) hF (List.mem_of_getElem? (i := 4) rfl) (List.mem_of_getElem? (i := 1) rfl) dX6_commandAt_11 ?_
    refine x_iload_n hF dX6_commandAt_14 rfl rfl ?_
    obtain ⟨hg15, h⟩ := og_some h
    refine x_cald hF hg15 dX6_commandAt_15 ?_
    refine x_getE hF (ix_lt hg15) (List.mem_of_getElem? (i := 0) rfl) tw_1485 dX6_commandAt_16 ?_
    refine x_iload_n hF dX6_commandAt_19 rfl rfl ?_
    refine x_iload_n hF dX6_commandAt_20 rfl rfl ?_
    obtain ⟨r1, S2, hcall, h⟩ := ob_some h
    refine x_cVi hF hN hR (ctX6_isWordAt (ix_lt hg15) hF.tr hcall) mwX6_isWordAt miX6_isWordAt sh68 ck5 (by decide) tw_503 ⟨by decide, by decide⟩ rfl rfl (Nat.le_of_ble_eq_true rfl) dX6_commandAt_21 ?_
    refine x_if_eq (tgt := 33) hF dX6_commandAt_24 (by decide) (fun hc => ?_) (fun hc => ?_)
    · have h := oi_pos hc h
      refine x_iinc [(3, _), (0, _), (1, _), (2, _)] (v := (1 : Int32)) hF hN dX6_commandAt_33 rfl (by decide) (by decide) rfl ?_
      refine x_goto (tgt := 2) hF dX6_commandAt_36 (by decide) ?_
      obtain ⟨rfl, rfl⟩ := sm h
      exact x_sub (hag _ _ hk) ⟨rfl, rfl, rfl, rfl, trivial⟩
    · have h := oi_neg hc h
      obtain ⟨rfl, rfl⟩ := sm h
      exact x_sub (hex27 _ _ hk) ⟨rfl, trivial⟩
noncomputable def X6_commandAt_2L (x1 : Int32) (x2 : Int32) (a : Int32) (S : St) : Option ((Int32 ⊕ Unit) × St) :=
  lp (fun (a : Int32) (S : St) => X6_commandAt_2 x1 x2 a S) a S
theorem xX6_commandAt_2L {F : Cx} (hF : Ok F cX6_commandAt RX6) (hN : nLF F 4) (hR : RmF F 5 0) {x1 : Int32} {x2 : Int32} {K : (Int32 ⊕ Unit) → St → Prop} (hex27 : ∀ (q : Int32) (S : St), K ((.inl q)) S → X F 0 27 [(3, .int q)] [] S) (hex39 : ∀ (q : Unit) (S : St), K ((.inr q)) S → X F 0 39 [] [] S) {a : Int32} {S : St} {b : Int32 ⊕ Unit} {S1 : St} (h : X6_commandAt_2L x1 x2 a S = some (b, S1)) (hk : K b S1) : X F 0 2 [(0, .ref (gA F 68)), (1, .int x1), (2, .int x2), (3, .int a)] [] S := by
  unfold X6_commandAt_2L at h
  exact lp_rule (Xh := fun (a : Int32) (S : St) => X F 0 2 [(0, .ref (gA F 68)), (1, .int x1), (2, .int x2), (3, .int a)] [] S) (K := K) (fun a S r S1 h hk => xX6_commandAt_2 hF hN hR (K := fun r S => match r with | .inl a => X F 0 2 [(0, .ref (gA F 68)), (1, .int x1), (2, .int x2), (3, .int a)] [] S | .inr b => K b S) (fun _ _ h => h) (fun q S h => hex27 q S h) (fun q S h => hex39 q S h) h (by cases r <;> exact hk)) h hk
noncomputable def X6_commandAt (x1 : Int32) (x2 : Int32) (S : St) : Option (Option Nat × St) :=
  ob (X6_commandAt_2L x1 x2 (0 : Int32) S) (fun b3 S4 => match b3 with | .inl q5 => og (inb q5 7) (some ((some (ix q5)), S4)) | .inr q6 => some (none, S4))
set_option maxHeartbeats 4000000 in
set_option maxRecDepth 20000 in
theorem ctX6_commandAt {l : Launch} {G : Ga} {x1 : Int32} {x2 : Int32} (hl : l.stackTraces = false) {S : St} {r : Option Nat} {S1 : St} (h : X6_commandAt x1 x2 S = some (r, S1)) : CT l G 5 yX6_commandAt cX6_commandAt 4 (some (.object "QueueBlame$Command")) [.ref (G.1 68), .int x1, .int x2] S (some (va_re G.2.1 r)) S1 := by
  refine ct_of hl (by decide) (Nat.le_of_ble_eq_true rfl) (fun F hFl hFG hF hN hR hret => ?_)
  subst hFl hFG
  show X F 0 0 [(0, .ref (gA F 68)), (1, .int x1), (2, .int x2)] [] S
  have hret : ∀ (v : Option Nat) (S : St) (pc : Nat) (ls : List (Nat × Value)), (v = r ∧ S = S1) → decode cX6_commandAt pc = .ok (.areturn, 1) → X F 0 pc ls [va_re (gE F) v] S := fun v S2 pc ls hq hd => by obtain ⟨rfl, rfl⟩ := hq; exact hret.2.2.2.1 pc ls _ _ rfl (by cases v; exact Or.inl rfl; exact Or.inr ⟨_, rfl⟩) rfl hd
  have hk : r = r ∧ S1 = S1 := ⟨rfl, rfl⟩
  unfold X6_commandAt at h
  refine x_iconst (v := (0 : Int32)) hF dX6_commandAt_0 (by decide) ?_
  refine x_istore_n [(3, _), (0, _), (1, _), (2, _)] hF hN dX6_commandAt_1 rfl (by decide) rfl ?_
  obtain ⟨b3, S4, hlb3, h⟩ := ob_some h
  refine x_sub (xX6_commandAt_2L hF hN hR (K := fun bb SS => bb = b3 ∧ SS = S4) ?_ ?_ hlb3 ⟨rfl, rfl⟩) ⟨rfl, rfl, rfl, rfl, trivial⟩
  · rintro _ _ ⟨rfl, rfl⟩
    dsimp only at h
    refine x_getsN (v := .ref (gS F 4)) hF (List.mem_of_getElem? (i := 4) rfl) (List.mem_of_getElem? (i := 1) rfl) dX6_commandAt_27 ?_
    refine x_iload_n hF dX6_commandAt_30 rfl rfl ?_
    obtain ⟨hg31, h⟩ := og_some h
    refine x_cald hF hg31 dX6_commandAt_31 ?_
    obtain ⟨rfl, rfl⟩ := sm h
    exact hret _ _ _ _ hk dX6_commandAt_32
  · rintro _ _ ⟨rfl, rfl⟩
    dsimp only at h
    refine x_null hF dX6_commandAt_39 ?_
    obtain ⟨rfl, rfl⟩ := sm h
    exact hret _ _ _ _ hk dX6_commandAt_40
noncomputable def X6_kindOf_28 (x0 : Int32) (S : St) : Option (Int32 × St) :=
  oi (x0 = (59 : Int32)) (some ((3 : Int32), S)) (oi (x0 = (32 : Int32)) (some ((0 : Int32), S)) (some ((4 : Int32), S)))
set_option maxHeartbeats 4000000 in
set_option maxRecDepth 20000 in
theorem xX6_kindOf_28 {F : Cx} (hF : Ok F cX6_kindOf RX6) (hN : nLF F 1) (hR : RmF F 0 0) {x0 : Int32} {K : Int32 → St → Prop} (hret : ∀ (v : Int32) (S : St) (pc : Nat) (ls : List (Nat × Value)), K v S → decode cX6_kindOf pc = .ok (.ireturn, 1) → X F 0 pc ls [.int v] S) {S : St} {r : Int32} {S1 : St} (h : X6_kindOf_28 x0 S = some (r, S1)) (hk : K r S1) : X F 0 28 [(0, .int x0)] [] S := by
  unfold X6_kindOf_28 at h
  refine x_iload_n hF dX6_kindOf_28 rfl rfl ?_
  refine x_bipush (v := (59 : Int32)) hF dX6_kindOf_29 (by decide) ?_
  refine x_icmp_ne (tgt := 36) hF dX6_kindOf_31 (by decide) (fun hc => ?_) (fun hc => ?_)
  · have h := oi_neg hc h
    refine x_iload_n hF dX6_kindOf_36 rfl rfl ?_
    refine x_bipush (v := (32 : Int32)) hF dX6_kindOf_37 (by decide) ?_
    refine x_icmp_ne (tgt := 46) hF dX6_kindOf_39 (by decide) (fun hc => ?_) (fun hc => ?_)
    · have h := oi_neg hc h
      refine x_iconst (v := (4 : Int32)) hF dX6_kindOf_46 (by decide) ?_
      obtain ⟨rfl, rfl⟩ := sm h
      exact hret _ _ _ _ hk dX6_kindOf_47
    · have h := oi_pos hc h
      refine x_iconst (v := (0 : Int32)) hF dX6_kindOf_42 (by decide) ?_
      refine x_goto (tgt := 47) hF dX6_kindOf_43 (by decide) ?_
      obtain ⟨rfl, rfl⟩ := sm h
      exact hret _ _ _ _ hk dX6_kindOf_47
  · have h := oi_pos hc h
    refine x_iconst (v := (3 : Int32)) hF dX6_kindOf_34 (by decide) ?_
    obtain ⟨rfl, rfl⟩ := sm h
    exact hret _ _ _ _ hk dX6_kindOf_35
noncomputable def X6_kindOf_14 (x0 : Int32) (S : St) : Option (Int32 × St) :=
  oi (x0 < (48 : Int32)) (X6_kindOf_28 x0 S) (oi ((57 : Int32) < x0) (X6_kindOf_28 x0 S) (some ((2 : Int32), S)))
set_option maxHeartbeats 4000000 in
set_option maxRecDepth 20000 in
theorem xX6_kindOf_14 {F : Cx} (hF : Ok F cX6_kindOf RX6) (hN : nLF F 1) (hR : RmF F 0 0) {x0 : Int32} {K : Int32 → St → Prop} (hret : ∀ (v : Int32) (S : St) (pc : Nat) (ls : List (Nat × Value)), K v S → decode cX6_kindOf pc = .ok (.ireturn, 1) → X F 0 pc ls [.int v] S) {S : St} {r : Int32} {S1 : St} (h : X6_kindOf_14 x0 S = some (r, S1)) (hk : K r S1) : X F 0 14 [(0, .int x0)] [] S := by
  unfold X6_kindOf_14 at h
  refine x_iload_n hF dX6_kindOf_14 rfl rfl ?_
  refine x_bipush (v := (48 : Int32)) hF dX6_kindOf_15 (by decide) ?_
  refine x_icmp_lt (tgt := 28) hF dX6_kindOf_17 (by decide) (fun hc => ?_) (fun hc => ?_)
  · have h := oi_pos hc h
    exact x_sub (xX6_kindOf_28 hF hN hR (K := K) hret h hk) ⟨rfl, trivial⟩
  · have h := oi_neg hc h
    refine x_iload_n hF dX6_kindOf_20 rfl rfl ?_
    refine x_bipush (v := (57 : Int32)) hF dX6_kindOf_21 (by decide) ?_
    refine x_icmp_gt (tgt := 28) hF dX6_kindOf_23 (by decide) (fun hc => ?_) (fun hc => ?_)
    · have h := oi_pos hc h
      exact x_sub (xX6_kindOf_28 hF hN hR (K := K) hret h hk) ⟨rfl, trivial⟩
    · have h := oi_neg hc h
      refine x_iconst (v := (2 : Int32)) hF dX6_kindOf_26 (by decide) ?_
      obtain ⟨rfl, rfl⟩ := sm h
      exact hret _ _ _ _ hk dX6_kindOf_27
noncomputable def X6_kindOf (x0 : Int32) (S : St) : Option (Int32 × St) :=
  oi (x0 < (97 : Int32)) (X6_kindOf_14 x0 S) (oi ((122 : Int32) < x0) (X6_kindOf_14 x0 S) (some ((1 : Int32), S)))
set_option maxHeartbeats 4000000 in
set_option maxRecDepth 20000 in
theorem ctX6_kindOf {l : Launch} {G : Ga} {x0 : Int32} (hl : l.stackTraces = false) {S : St} {r : Int32} {S1 : St} (h : X6_kindOf x0 S = some (r, S1)) : CT l G 0 yX6_kindOf cX6_kindOf 1 (some .int) [.int x0] S (some (.int r)) S1 := by
  refine ct_of hl (by decide) (Nat.le_of_ble_eq_true rfl) (fun F hFl hFG hF hN hR hret => ?_)
  subst hFl hFG
  show X F 0 0 [(0, .int x0)] [] S
  have hret : ∀ (v : Int32) (S : St) (pc : Nat) (ls : List (Nat × Value)), (v = r ∧ S = S1) → decode cX6_kindOf pc = .ok (.ireturn, 1) → X F 0 pc ls [.int v] S := fun v S2 pc ls hq hd => by obtain ⟨rfl, rfl⟩ := hq; exact hret.1 pc ls v rfl rfl hd
  have hk : r = r ∧ S1 = S1 := ⟨rfl, rfl⟩
  unfold X6_kindOf at h
  refine x_iload_n hF dX6_kindOf_0 rfl rfl ?_
  refine x_bipush (v := (97 : Int32)) hF dX6_kindOf_1 (by decide) ?_
  refine x_icmp_lt (tgt := 14) hF dX6_kindOf_3 (by decide) (fun hc => ?_) (fun hc => ?_)
  · have h := oi_pos hc h
    exact x_sub (xX6_kindOf_14 hF hN hR (K := fun v9 S9 => v9 = r ∧ S9 = S1) hret h hk) ⟨rfl, trivial⟩
  · have h := oi_neg hc h
    refine x_iload_n hF dX6_kindOf_6 rfl rfl ?_
    refine x_bipush (v := (122 : Int32)) hF dX6_kindOf_7 (by decide) ?_
    refine x_icmp_gt (tgt := 14) hF dX6_kindOf_9 (by decide) (fun hc => ?_) (fun hc => ?_)
    · have h := oi_pos hc h
      exact x_sub (xX6_kindOf_14 hF hN hR (K := fun v9 S9 => v9 = r ∧ S9 = S1) hret h hk) ⟨rfl, trivial⟩
    · have h := oi_neg hc h
      refine x_iconst (v := (1 : Int32)) hF dX6_kindOf_12 (by decide) ?_
      obtain ⟨rfl, rfl⟩ := sm h
      exact hret _ _ _ _ hk dX6_kindOf_13
noncomputable def X6_endOf_14 (x2 : Int32) (x3 : Int32) (S : St) : Option (((Int32) ⊕ Int32) × St) :=
  oi ((gi S 68 1) ≤ x3) (some (.inr x3, S)) (og (inb x3 120) (ob (X6_kindOf (gi S 69 (ix x3)) S) (fun r1 S2 => oi (r1 = x2) (some (.inl (x3 + (1 : Int32)), S2)) (some (.inr x3, S2)))))
set_option maxHeartbeats 4000000 in
set_option maxRecDepth 20000 in
theorem xX6_endOf_14 {F : Cx} (hF : Ok F cX6_endOf RX6) (hN : nLF F 4) (hR : RmF F 1 0) {x2 : Int32} {x3 : Int32} {K : ((Int32) ⊕ Int32) → St → Prop} (hag : ∀ (a : Int32) (S : St), K (.inl a) S → X F 0 4 [(0, .ref (gA F 68)), (2, .int x2), (3, .int a)] [] S) (hex41 : ∀ (q : Int32) (S : St), K (.inr q) S → X F 0 41 [(3, .int q)] [] S) {S : St} {r : (Int32) ⊕ Int32} {S1 : St} (h : X6_endOf_14 x2 x3 S = some (r, S1)) (hk : K r S1) : X F 0 14 [(0, .ref (gA F 68)), (2, .int x2), (3, .int x3)] [] S := by
  unfold X6_endOf_14 at h
  refine x_iload_n hF dX6_endOf_14 rfl rfl ?_
  refine x_aload_n hF dX6_endOf_15 rfl rfl ?_
  refine x_geti hF sh68 1 rfl ck5 (by decide) (by decide) tw_273 rfl dX6_endOf_16 ?_
  refine x_icmp_ge (tgt := 41) hF dX6_endOf_19 (by decide) (fun hc => ?_) (fun hc => ?_)
  · have h := oi_pos hc h
    obtain ⟨rfl, rfl⟩ := sm h
    exact x_sub (hex41 _ _ hk) ⟨rfl, trivial⟩
  · have h := oi_neg hc h
    refine x_aload_n hF dX6_endOf_22 rfl rfl ?_
    refine x_getr hF sh68 0 rfl ck5 (by decide) (by decide) tw_272 rfl dX6_endOf_23 ?_
    refine x_iload_n hF dX6_endOf_26 rfl rfl ?_
    obtain ⟨hg, h⟩ := og_some h
    refine x_iald hF sh69 (by decide) hg rfl dX6_endOf_27 ?_
    obtain ⟨r1, S2, hcall, h⟩ := ob_some h
    refine x_cSi hF hN hR (ctX6_kindOf hF.tr hcall) mwX6_kindOf tw_491 tw_490 ⟨by decide, by decide⟩ rfl rfl (Nat.le_of_ble_eq_true rfl) dX6_endOf_28 ?_
    refine x_iload_n hF dX6_endOf_31 rfl rfl ?_
    refine x_icmp_ne (tgt := 41) hF dX6_endOf_32 (by decide) (fun hc => ?_) (fun hc => ?_)
    · have h := oi_neg hc h
      obtain ⟨rfl, rfl⟩ := sm h
      exact x_sub (hex41 _ _ hk) ⟨rfl, trivial⟩
    · have h := oi_pos hc h
      refine x_iinc [(3, _), (0, _), (2, _)] (v := (1 : Int32)) hF hN dX6_endOf_35 rfl (by decide) (by decide) rfl ?_
      refine x_goto (tgt := 4) hF dX6_endOf_38 (by decide) ?_
      obtain ⟨rfl, rfl⟩ := sm h
      exact x_sub (hag _ _ hk) ⟨rfl, rfl, rfl, trivial⟩
noncomputable def X6_endOf_4 (x2 : Int32) (x3 : Int32) (S : St) : Option (((Int32) ⊕ Int32) × St) :=
  oi (x2 = (1 : Int32)) (X6_endOf_14 x2 x3 S) (oi (x2 = (2 : Int32)) (X6_endOf_14 x2 x3 S) (some (.inr x3, S)))
set_option maxHeartbeats 4000000 in
set_option maxRecDepth 20000 in
theorem xX6_endOf_4 {F : Cx} (hF : Ok F cX6_endOf RX6) (hN : nLF F 4) (hR : RmF F 1 0) {x2 : Int32} {x3 : Int32} {K : ((Int32) ⊕ Int32) → St → Prop} (hag : ∀ (a : Int32) (S : St), K (.inl a) S → X F 0 4 [(0, .ref (gA F 68)), (2, .int x2), (3, .int a)] [] S) (hex41 : ∀ (q : Int32) (S : St), K (.inr q) S → X F 0 41 [(3, .int q)] [] S) {S : St} {r : (Int32) ⊕ Int32} {S1 : St} (h : X6_endOf_4 x2 x3 S = some (r, S1)) (hk : K r S1) : X F 0 4 [(0, .ref (gA F 68)), (2, .int x2), (3, .int x3)] [] S := by
  unfold X6_endOf_4 at h
  refine x_iload_n hF dX6_endOf_4 rfl rfl ?_
  refine x_iconst (v := (1 : Int32)) hF dX6_endOf_5 (by decide) ?_
  refine x_icmp_eq (tgt := 14) hF dX6_endOf_6 (by decide) (fun hc => ?_) (fun hc => ?_)
  · have h := oi_pos hc h
    exact x_sub (xX6_endOf_14 hF hN hR (K := K) hag hex41 h hk) ⟨rfl, rfl, rfl, trivial⟩
  · have h := oi_neg hc h
    refine x_iload_n hF dX6_endOf_9 rfl rfl ?_
    refine x_iconst (v := (2 : Int32)) hF dX6_endOf_10 (by decide) ?_
    refine x_icmp_ne (tgt := 41) hF dX6_endOf_11 (by decide) (fun hc => ?_) (fun hc => ?_)
    · have h := oi_neg hc h
      obtain ⟨rfl, rfl⟩ := sm h
      exact x_sub (hex41 _ _ hk) ⟨rfl, trivial⟩
    · have h := oi_pos hc h
      exact x_sub (xX6_endOf_14 hF hN hR (K := K) hag hex41 h hk) ⟨rfl, rfl, rfl, trivial⟩
noncomputable def X6_endOf_4L (x2 : Int32) (a : Int32) (S : St) : Option (Int32 × St) :=
  lp (fun (a : Int32) (S : St) => X6_endOf_4 x2 a S) a S
theorem xX6_endOf_4L {F : Cx} (hF : Ok F cX6_endOf RX6) (hN : nLF F 4) (hR : RmF F 1 0) {x2 : Int32} {K : Int32 → St → Prop} (hex41 : ∀ (q : Int32) (S : St), K (q) S → X F 0 41 [(3, .int q)] [] S) {a : Int32} {S : St} {b : Int32} {S1 : St} (h : X6_endOf_4L x2 a S = some (b, S1)) (hk : K b S1) : X F 0 4 [(0, .ref (gA F 68)), (2, .int x2), (3, .int a)] [] S := by
  unfold X6_endOf_4L at h
  exact lp_rule (Xh := fun (a : Int32) (S : St) => X F 0 4 [(0, .ref (gA F 68)), (2, .int x2), (3, .int a)] [] S) (K := K) (fun a S r S1 h hk => xX6_endOf_4 hF hN hR (K := fun r S => match r with | .inl a => X F 0 4 [(0, .ref (gA F 68)), (2, .int x2), (3, .int a)] [] S | .inr b => K b S) (fun _ _ h => h) (fun q S h => hex41 q S h) h (by cases r <;> exact hk)) h hk
noncomputable def X6_endOf (x1 : Int32) (x2 : Int32) (S : St) : Option (Int32 × St) :=
  ob (X6_endOf_4L x2 (x1 + (1 : Int32)) S) (fun b3 S4 => some (b3, S4))
set_option maxHeartbeats 4000000 in
set_option maxRecDepth 20000 in
theorem ctX6_endOf {l : Launch} {G : Ga} {x1 : Int32} {x2 : Int32} (hl : l.stackTraces = false) {S : St} {r : Int32} {S1 : St} (h : X6_endOf x1 x2 S = some (r, S1)) : CT l G 1 yX6_endOf cX6_endOf 4 (some .int) [.ref (G.1 68), .int x1, .int x2] S (some (.int r)) S1 := by
  refine ct_of hl (by decide) (Nat.le_of_ble_eq_true rfl) (fun F hFl hFG hF hN hR hret => ?_)
  subst hFl hFG
  show X F 0 0 [(0, .ref (gA F 68)), (1, .int x1), (2, .int x2)] [] S
  have hret : ∀ (v : Int32) (S : St) (pc : Nat) (ls : List (Nat × Value)), (v = r ∧ S = S1) → decode cX6_endOf pc = .ok (.ireturn, 1) → X F 0 pc ls [.int v] S := fun v S2 pc ls hq hd => by obtain ⟨rfl, rfl⟩ := hq; exact hret.1 pc ls v rfl rfl hd
  have hk : r = r ∧ S1 = S1 := ⟨rfl, rfl⟩
  unfold X6_endOf at h
  refine x_iload_n hF dX6_endOf_0 rfl rfl ?_
  refine x_iconst (v := (1 : Int32)) hF dX6_endOf_1 (by decide) ?_
  refine x_iadd hF dX6_endOf_2 ?_
  refine x_istore_n [(3, _), (0, _), (1, _), (2, _)] hF hN dX6_endOf_3 rfl (by decide) rfl ?_
  obtain ⟨b3, S4, hlb3, h⟩ := ob_some h
  refine x_sub (xX6_endOf_4L hF hN hR (K := fun bb SS => bb = b3 ∧ SS = S4) ?_ hlb3 ⟨rfl, rfl⟩) ⟨rfl, rfl, rfl, trivial⟩
  rintro _ _ ⟨rfl, rfl⟩
  refine x_iload_n hF dX6_endOf_41 rfl rfl ?_
  obtain ⟨rfl, rfl⟩ := sm h
  exact hret _ _ _ _ hk dX6_endOf_42
noncomputable def X6_numberAt_5 (x2 : Int32) (x3 : Int32) (x4 : Int32) (S : St) : Option (((Int32 × Int32) ⊕ Int32) × St) :=
  oi (x2 ≤ x4) (some (.inr x3, S)) (og (inb x4 120) (some (.inl (((((10 : Int32) * x3) + (gi S 69 (ix x4))) - (48 : Int32)), (x4 + (1 : Int32))), S)))
set_option maxHeartbeats 4000000 in
set_option maxRecDepth 20000 in
theorem xX6_numberAt_5 {F : Cx} (hF : Ok F cX6_numberAt RX6) (hN : nLF F 5) (hR : RmF F 0 0) {x2 : Int32} {x3 : Int32} {x4 : Int32} {K : ((Int32 × Int32) ⊕ Int32) → St → Prop} (hag : ∀ (a : Int32 × Int32) (S : St), K (.inl a) S → X F 0 5 [(0, .ref (gA F 68)), (2, .int x2), (3, .int a.1), (4, .int a.2)] [] S) (hex33 : ∀ (q : Int32) (S : St), K (.inr q) S → X F 0 33 [(3, .int q)] [] S) {S : St} {r : (Int32 × Int32) ⊕ Int32} {S1 : St} (h : X6_numberAt_5 x2 x3 x4 S = some (r, S1)) (hk : K r S1) : X F 0 5 [(0, .ref (gA F 68)), (2, .int x2), (3, .int x3), (4, .int x4)] [] S := by
  unfold X6_numberAt_5 at h
  refine x_iload hF dX6_numberAt_5 rfl ?_
  refine x_iload_n hF dX6_numberAt_7 rfl rfl ?_
  refine x_icmp_ge (tgt := 33) hF dX6_numberAt_8 (by decide) (fun hc => ?_) (fun hc => ?_)
  · have h := oi_pos hc h
    obtain ⟨rfl, rfl⟩ := sm h
    exact x_sub (hex33 _ _ hk) ⟨rfl, trivial⟩
  · have h := oi_neg hc h
    refine x_bipush (v := (10 : Int32)) hF dX6_numberAt_11 (by decide) ?_
    refine x_iload_n hF dX6_numberAt_13 rfl rfl ?_
    refine x_imul hF dX6_numberAt_14 ?_
    refine x_aload_n hF dX6_numberAt_15 rfl rfl ?_
    refine x_getr hF sh68 0 rfl ck5 (by decide) (by decide) tw_272 rfl dX6_numberAt_16 ?_
    refine x_iload hF dX6_numberAt_19 rfl ?_
    obtain ⟨hg, h⟩ := og_some h
    refine x_iald hF sh69 (by decide) hg rfl dX6_numberAt_21 ?_
    refine x_iadd hF dX6_numberAt_22 ?_
    refine x_bipush (v := (48 : Int32)) hF dX6_numberAt_23 (by decide) ?_
    refine x_isub hF dX6_numberAt_25 ?_
    refine x_istore_n [(3, _), (0, _), (2, _), (4, _)] hF hN dX6_numberAt_26 rfl (by decide) rfl ?_
    refine x_iinc [(4, _), (3, _), (0, _), (2, _)] (v := (1 : Int32)) hF hN dX6_numberAt_27 rfl (by decide) (by decide) rfl ?_
    refine x_goto (tgt := 5) hF dX6_numberAt_30 (by decide) ?_
    obtain ⟨rfl, rfl⟩ := sm h
    exact x_sub (hag _ _ hk) ⟨rfl, rfl, rfl, rfl, trivial⟩
noncomputable def X6_numberAt_5L (x2 : Int32) (a : Int32 × Int32) (S : St) : Option (Int32 × St) :=
  lp (fun (a : Int32 × Int32) (S : St) => X6_numberAt_5 x2 a.1 a.2 S) a S
theorem xX6_numberAt_5L {F : Cx} (hF : Ok F cX6_numberAt RX6) (hN : nLF F 5) (hR : RmF F 0 0) {x2 : Int32} {K : Int32 → St → Prop} (hex33 : ∀ (q : Int32) (S : St), K (q) S → X F 0 33 [(3, .int q)] [] S) {a : Int32 × Int32} {S : St} {b : Int32} {S1 : St} (h : X6_numberAt_5L x2 a S = some (b, S1)) (hk : K b S1) : X F 0 5 [(0, .ref (gA F 68)), (2, .int x2), (3, .int a.1), (4, .int a.2)] [] S := by
  unfold X6_numberAt_5L at h
  exact lp_rule (Xh := fun (a : Int32 × Int32) (S : St) => X F 0 5 [(0, .ref (gA F 68)), (2, .int x2), (3, .int a.1), (4, .int a.2)] [] S) (K := K) (fun a S r S1 h hk => xX6_numberAt_5 hF hN hR (K := fun r S => match r with | .inl a => X F 0 5 [(0, .ref (gA F 68)), (2, .int x2), (3, .int a.1), (4, .int a.2)] [] S | .inr b => K b S) (fun _ _ h => h) (fun q S h => hex33 q S h) h (by cases r <;> exact hk)) h hk
noncomputable def X6_numberAt (x1 : Int32) (x2 : Int32) (S : St) : Option (Int32 × St) :=
  ob (X6_numberAt_5L x2 ((0 : Int32), x1) S) (fun b1 S2 => some (b1, S2))
set_option maxHeartbeats 4000000 in
set_option maxRecDepth 20000 in
theorem ctX6_numberAt {l : Launch} {G : Ga} {x1 : Int32} {x2 : Int32} (hl : l.stackTraces = false) {S : St} {r : Int32} {S1 : St} (h : X6_numberAt x1 x2 S = some (r, S1)) : CT l G 0 yX6_numberAt cX6_numberAt 5 (some .int) [.ref (G.1 68), .int x1, .int x2] S (some (.int r)) S1 := by
  refine ct_of hl (by decide) (Nat.le_of_ble_eq_true rfl) (fun F hFl hFG hF hN hR hret => ?_)
  subst hFl hFG
  show X F 0 0 [(0, .ref (gA F 68)), (1, .int x1), (2, .int x2)] [] S
  have hret : ∀ (v : Int32) (S : St) (pc : Nat) (ls : List (Nat × Value)), (v = r ∧ S = S1) → decode cX6_numberAt pc = .ok (.ireturn, 1) → X F 0 pc ls [.int v] S := fun v S2 pc ls hq hd => by obtain ⟨rfl, rfl⟩ := hq; exact hret.1 pc ls v rfl rfl hd
  have hk : r = r ∧ S1 = S1 := ⟨rfl, rfl⟩
  unfold X6_numberAt at h
  refine x_iconst (v := (0 : Int32)) hF dX6_numberAt_0 (by decide) ?_
  refine x_istore_n [(3, _), (0, _), (1, _), (2, _)] hF hN dX6_numberAt_1 rfl (by decide) rfl ?_
  refine x_iload_n hF dX6_numberAt_2 rfl rfl ?_
  refine x_istore [(4, _), (3, _), (0, _), (1, _), (2, _)] hF hN dX6_numberAt_3 (by decide) rfl ?_
  obtain ⟨b1, S2, hlb1, h⟩ := ob_some h
  refine x_sub (xX6_numberAt_5L hF hN hR (K := fun bb SS => bb = b1 ∧ SS = S2) ?_ hlb1 ⟨rfl, rfl⟩) ⟨rfl, rfl, rfl, rfl, trivial⟩
  rintro _ _ ⟨rfl, rfl⟩
  refine x_iload_n hF dX6_numberAt_33 rfl rfl ?_
  obtain ⟨rfl, rfl⟩ := sm h
  exact hret _ _ _ _ hk dX6_numberAt_34
noncomputable def X6_parse_165 (x1 : Option Nat) (x2 : Int32) (x3 : Int32) (x4 : Int32) (S : St) : Option (((Option Nat × Int32 × Int32) ⊕ (Int32 ⊕ Int32 ⊕ Int32 ⊕ (Option Nat))) × St) :=
  some (.inl (x1, x2, (if (x4 + (1 : Int32)) < x3 then x3 else (x4 + (1 : Int32)))), S)
set_option maxHeartbeats 4000000 in
set_option maxRecDepth 20000 in
theorem xX6_parse_165 {F : Cx} (hF : Ok F cX6_parse RX6) (hN : nLF F 6) (hR : RmF F 6 0) {x1 : Option Nat} {x2 : Int32} {x3 : Int32} {x4 : Int32} {K : ((Option Nat × Int32 × Int32) ⊕ (Int32 ⊕ Int32 ⊕ Int32 ⊕ (Option Nat))) → St → Prop} (hag : ∀ (a : Option Nat × Int32 × Int32) (S : St), K (.inl a) S → X F 0 14 [(0, .ref (gA F 68)), (1, va_re (gE F) a.1), (2, .int a.2.1), (4, .int a.2.2)] [] S) (hex80 : ∀ (q : Int32) (S : St), K (.inr (.inl q)) S → X F 0 80 [(4, .int q)] [] S) (hex105 : ∀ (q : Int32) (S : St), K (.inr (.inr (.inl q))) S → X F 0 105 [(4, .int q)] [] S) (hex140 : ∀ (q : Int32) (S : St), K (.inr (.inr (.inr (.inl q)))) S → X F 0 140 [(4, .int q)] [] S) (hex178 : ∀ (q : Option Nat) (S : St), K (.inr (.inr (.inr (.inr q)))) S → X F 0 178 [(0, .ref (gA F 68)), (1, va_re (gE F) q)] [] S) {S : St} {r : (Option Nat × Int32 × Int32) ⊕ (Int32 ⊕ Int32 ⊕ Int32 ⊕ (Option Nat))} {S1 : St} (h : X6_parse_165 x1 x2 x3 x4 S = some (r, S1)) (hk : K r S1) : X F 0 165 [(0, .ref (gA F 68)), (1, va_re (gE F) x1), (2, .int x2), (3, .int x3), (4, .int x4)] [] S := by
  unfold X6_parse_165 at h
  cases x1 <;> (
    refine x_iload hF dX6_parse_165 rfl ?_
    refine x_iconst (v := (1 : Int32)) hF dX6_parse_167 (by decide) ?_
    refine x_iadd hF dX6_parse_168 ?_
    refine x_iload_n hF dX6_parse_169 rfl rfl ?_
    refine x_mmax hF hR tw_559 mcmax.1 tw_87 mcmax.2 ⟨by decide, by decide⟩ (Nat.le_of_ble_eq_true rfl) dX6_parse_170 ?_
    refine x_istore [(4, _), (0, _), (1, _), (2, _), (3, _)] hF hN dX6_parse_173 (by decide) rfl ?_
    refine x_goto (tgt := 14) hF dX6_parse_175 (by decide) ?_
    obtain ⟨rfl, rfl⟩ := sm h
    exact x_sub (hag _ _ hk) ⟨rfl, rfl, rfl, rfl, trivial⟩)
noncomputable def X6_parse_73 (x3 : Int32) (x4 : Int32) (z0 : Option Nat) (S : St) : Option (((Option Nat × Int32 × Int32) ⊕ (Int32 ⊕ Int32 ⊕ Int32 ⊕ (Option Nat))) × St) :=
  oi (z0 = none) (some (.inr (.inl x4), S)) (X6_parse_165 z0 (0 : Int32) x3 x4 S)
set_option maxHeartbeats 4000000 in
set_option maxRecDepth 20000 in
theorem xX6_parse_73 {F : Cx} (hF : Ok F cX6_parse RX6) (hN : nLF F 6) (hR : RmF F 6 0) {x3 : Int32} {x4 : Int32} {z0 : Option Nat} {K : ((Option Nat × Int32 × Int32) ⊕ (Int32 ⊕ Int32 ⊕ Int32 ⊕ (Option Nat))) → St → Prop} (hag : ∀ (a : Option Nat × Int32 × Int32) (S : St), K (.inl a) S → X F 0 14 [(0, .ref (gA F 68)), (1, va_re (gE F) a.1), (2, .int a.2.1), (4, .int a.2.2)] [] S) (hex80 : ∀ (q : Int32) (S : St), K (.inr (.inl q)) S → X F 0 80 [(4, .int q)] [] S) (hex105 : ∀ (q : Int32) (S : St), K (.inr (.inr (.inl q))) S → X F 0 105 [(4, .int q)] [] S) (hex140 : ∀ (q : Int32) (S : St), K (.inr (.inr (.inr (.inl q)))) S → X F 0 140 [(4, .int q)] [] S) (hex178 : ∀ (q : Option Nat) (S : St), K (.inr (.inr (.inr (.inr q)))) S → X F 0 178 [(0, .ref (gA F 68)), (1, va_re (gE F) q)] [] S) {S : St} {r : (Option Nat × Int32 × Int32) ⊕ (Int32 ⊕ Int32 ⊕ Int32 ⊕ (Option Nat))} {S1 : St} (h : X6_parse_73 x3 x4 z0 S = some (r, S1)) (hk : K r S1) : X F 0 73 [(0, .ref (gA F 68)), (3, .int x3), (4, .int x4)] [va_re (gE F) z0] S := by
  unfold X6_parse_73 at h
  cases z0 <;> (
    refine x_astoreE_n [(1, _), (0, _), (3, _), (4, _)] hF hN dX6_parse_73 rfl (by decide) rfl ?_
    refine x_iconst (v := (0 : Int32)) hF dX6_parse_74 (by decide) ?_
    refine x_istore_n [(2, _), (1, _), (0, _), (3, _), (4, _)] hF hN dX6_parse_75 rfl (by decide) rfl ?_
    refine x_aloadV_n hF dX6_parse_76 rfl rfl (by first | exact Or.inl rfl | exact Or.inr ⟨_, rfl⟩) ?_
    try dsimp only
    refine x_ifnn (tgt := 165) hF dX6_parse_77 (by decide) (fun hc => ?_) (fun hc => ?_)
    · have h := oi_neg hc h
      exact x_sub (xX6_parse_165 hF hN hR (K := K) hag hex80 hex105 hex140 hex178 h hk) ⟨rfl, rfl, rfl, rfl, rfl, trivial⟩
    · have h := oi_pos hc h
      obtain ⟨rfl, rfl⟩ := sm h
      exact x_sub (hex80 _ _ hk) ⟨rfl, trivial⟩)
noncomputable def X6_parse_14 (x1 : Option Nat) (x2 : Int32) (x4 : Int32) (S : St) : Option (((Option Nat × Int32 × Int32) ⊕ (Int32 ⊕ Int32 ⊕ Int32 ⊕ (Option Nat))) × St) :=
  oi ((gi S 68 1) ≤ x4) (some (.inr (.inr (.inr (.inr x1))), S)) (og (inb x4 120) (ob (X6_kindOf (gi S 69 (ix x4)) S) (fun r2 S3 => ob (X6_endOf x4 r2 S3) (fun r4 S5 => oi (r2 = 0) (X6_parse_165 x1 x2 r4 x4 S5) (oi (x1 = none) (oi (r2 = (1 : Int32)) (ob (X6_commandAt x4 r4 S5) (fun r13 S14 => X6_parse_73 r4 x4 r13 S14)) (X6_parse_73 r4 x4 none S5)) (os x1 (fun j6 => og (j6 < 7) (oi ((cmdN j6) ≤ x2) (oi (r2 = (3 : Int32)) (os x1 (fun j8 => og (inb (gi S5 68 4) 120 ∧ j8 < 7) (ol (sr S5 70 (ix (gi S5 68 4)) (some j8)) (fun T7 => ol (si T7 68 4 ((gi T7 68 4) + (1 : Int32))) (fun T9 => X6_parse_165 none x2 r4 x4 T9))))) (some (.inr (.inr (.inr (.inl x4))), S5))) (oi (r2 = (2 : Int32)) (oi ((r4 - x4) ≤ (4 : Int32)) (ob (X6_numberAt x4 r4 S5) (fun r10 S11 => og (inb (((3 : Int32) * (gi S5 68 4)) + x2) 360) (ol (si S11 71 (ix (((3 : Int32) * (gi S5 68 4)) + x2)) r10) (fun T12 => X6_parse_165 x1 (x2 + (1 : Int32)) r4 x4 T12)))) (some (.inr (.inr (.inl x4)), S5))) (some (.inr (.inr (.inl x4)), S5)))))))))))
set_option maxHeartbeats 4000000 in
set_option maxRecDepth 20000 in
theorem xX6_parse_14 {F : Cx} (hF : Ok F cX6_parse RX6) (hN : nLF F 6) (hR : RmF F 6 0) {x1 : Option Nat} {x2 : Int32} {x4 : Int32} {K : ((Option Nat × Int32 × Int32) ⊕ (Int32 ⊕ Int32 ⊕ Int32 ⊕ (Option Nat))) → St → Prop} (hag : ∀ (a : Option Nat × Int32 × Int32) (S : St), K (.inl a) S → X F 0 14 [(0, .ref (gA F 68)), (1, va_re (gE F) a.1), (2, .int a.2.1), (4, .int a.2.2)] [] S) (hex80 : ∀ (q : Int32) (S : St), K (.inr (.inl q)) S → X F 0 80 [(4, .int q)] [] S) (hex105 : ∀ (q : Int32) (S : St), K (.inr (.inr (.inl q))) S → X F 0 105 [(4, .int q)] [] S) (hex140 : ∀ (q : Int32) (S : St), K (.inr (.inr (.inr (.inl q)))) S → X F 0 140 [(4, .int q)] [] S) (hex178 : ∀ (q : Option Nat) (S : St), K (.inr (.inr (.inr (.inr q)))) S → X F 0 178 [(0, .ref (gA F 68)), (1, va_re (gE F) q)] [] S) {S : St} {r : (Option Nat × Int32 × Int32) ⊕ (Int32 ⊕ Int32 ⊕ Int32 ⊕ (Option Nat))} {S1 : St} (h : X6_parse_14 x1 x2 x4 S = some (r, S1)) (hk : K r S1) : X F 0 14 [(0, .ref (gA F 68)), (1, va_re (gE F) x1), (2, .int x2), (4, .int x4)] [] S := by
  unfold X6_parse_14 at h
  cases x1 <;> (
    refine x_iload hF dX6_parse_14 rfl ?_
    refine x_aload_n hF dX6_parse_16 rfl rfl ?_
    refine x_geti hF sh68 1 rfl ck5 (by decide) (by decide) tw_273 rfl dX6_parse_17 ?_
    refine x_icmp_ge (tgt := 178) hF dX6_parse_20 (by decide) (fun hc => ?_) (fun hc => ?_)
    · have h := oi_pos hc h
      obtain ⟨rfl, rfl⟩ := sm h
      exact x_sub (hex178 _ _ hk) ⟨rfl, rfl, trivial⟩
    · have h := oi_neg hc h
      refine x_aload_n hF dX6_parse_23 rfl rfl ?_
      refine x_getr hF sh68 0 rfl ck5 (by decide) (by decide) tw_272 rfl dX6_parse_24 ?_
      refine x_iload hF dX6_parse_27 rfl ?_
      obtain ⟨hg, h⟩ := og_some h
      refine x_iald hF sh69 (by decide) hg rfl dX6_parse_29 ?_
      obtain ⟨r2, S3, hcall, h⟩ := ob_some h
      refine x_cSi hF hN hR (ctX6_kindOf hF.tr hcall) mwX6_kindOf tw_491 tw_490 ⟨by decide, by decide⟩ rfl rfl (Nat.le_of_ble_eq_true rfl) dX6_parse_30 ?_
      refine x_istore [(5, _), (0, _), (1, _), (2, _), (4, _)] hF hN dX6_parse_33 (by decide) rfl ?_
      refine x_aload_n hF dX6_parse_35 rfl rfl ?_
      refine x_iload hF dX6_parse_36 rfl ?_
      refine x_iload hF dX6_parse_38 rfl ?_
      obtain ⟨r4, S5, hcall, h⟩ := ob_some h
      refine x_cVi hF hN hR (ctX6_endOf hF.tr hcall) mwX6_endOf miX6_endOf sh68 ck5 (by decide) tw_493 ⟨by decide, by decide⟩ rfl rfl (Nat.le_of_ble_eq_true rfl) dX6_parse_40 ?_
      refine x_istore_n [(3, _), (5, _), (0, _), (1, _), (2, _), (4, _)] hF hN dX6_parse_43 rfl (by decide) rfl ?_
      refine x_iload hF dX6_parse_44 rfl ?_
      refine x_if_ne (tgt := 52) hF dX6_parse_46 (by decide) (fun hc => ?_) (fun hc => ?_)
      · have h := oi_neg hc h
        refine x_aloadV_n hF dX6_parse_52 rfl rfl (by first | exact Or.inl rfl | exact Or.inr ⟨_, rfl⟩) ?_
        try dsimp only
        refine x_ifnn (tgt := 83) hF dX6_parse_53 (by decide) (fun hc => ?_) (fun hc => ?_)
        · have h := oi_neg hc h
          refine x_iload_n hF dX6_parse_83 rfl rfl ?_
          refine x_aloadV_n hF dX6_parse_84 rfl rfl (by first | exact Or.inl rfl | exact Or.inr ⟨_, rfl⟩) ?_
          try dsimp only
          obtain ⟨j6, ej6, h⟩ := os_some h
          first | (cases ej6; done) | (
            obtain rfl := Option.some.inj ej6
            obtain ⟨hgj6, h⟩ := og_some h
            refine x_getE hF hgj6 (List.mem_of_getElem? (i := 1) rfl) tw_1488 dX6_parse_85 ?_
            refine x_icmp_ge (tgt := 134) hF dX6_parse_88 (by decide) (fun hc => ?_) (fun hc => ?_)
            · have h := oi_pos hc h
              refine x_iload hF dX6_parse_134 rfl ?_
              refine x_iconst (v := (3 : Int32)) hF dX6_parse_136 (by decide) ?_
              refine x_icmp_eq (tgt := 143) hF dX6_parse_137 (by decide) (fun hc => ?_) (fun hc => ?_)
              · have h := oi_pos hc h
                refine x_aload_n hF dX6_parse_143 rfl rfl ?_
                refine x_getr hF sh68 2 rfl ck5 (by decide) (by decide) tw_275 rfl dX6_parse_144 ?_
                refine x_aload_n hF dX6_parse_147 rfl rfl ?_
                refine x_geti hF sh68 4 rfl ck5 (by decide) (by decide) tw_279 rfl dX6_parse_148 ?_
                refine x_aloadV_n hF dX6_parse_151 rfl rfl (by first | exact Or.inl rfl | exact Or.inr ⟨_, rfl⟩) ?_
                try dsimp only
                obtain ⟨j8, ej8, h⟩ := os_some h
                first | (cases ej8; done) | (
                  obtain rfl := Option.some.inj ej8
                  obtain ⟨hg, h⟩ := og_some h
                  obtain ⟨T7, eT7, h⟩ := ol_some h
                  refine x_aastE hF sh70 (by decide) hg.1 hg.2 eT7 dX6_parse_152 ?_
                  refine x_aload_n hF dX6_parse_153 rfl rfl ?_
                  refine x_dup hF dX6_parse_154 rfl ?_
                  refine x_geti hF sh68 4 rfl ck5 (by decide) (by decide) tw_279 rfl dX6_parse_155 ?_
                  refine x_iconst (v := (1 : Int32)) hF dX6_parse_158 (by decide) ?_
                  refine x_iadd hF dX6_parse_159 ?_
                  obtain ⟨T9, eT9, h⟩ := ol_some h
                  refine x_puti hF sh68 4 rfl ck5 (by decide) (by decide) tw_279 rfl rfl rfl rfl rfl eT9 dX6_parse_160 ?_
                  refine x_null hF dX6_parse_163 ?_
                  refine x_astoreE_n [(1, _), (3, _), (5, _), (0, _), (2, _), (4, _)] hF hN dX6_parse_164 rfl (by decide) rfl ?_
                  exact x_sub (xX6_parse_165 hF hN hR (K := K) hag hex80 hex105 hex140 hex178 h hk) ⟨rfl, rfl, rfl, rfl, rfl, trivial⟩)
              · have h := oi_neg hc h
                obtain ⟨rfl, rfl⟩ := sm h
                exact x_sub (hex140 _ _ hk) ⟨rfl, trivial⟩
            · have h := oi_neg hc h
              refine x_iload hF dX6_parse_91 rfl ?_
              refine x_iconst (v := (2 : Int32)) hF dX6_parse_93 (by decide) ?_
              refine x_icmp_ne (tgt := 105) hF dX6_parse_94 (by decide) (fun hc => ?_) (fun hc => ?_)
              · have h := oi_neg hc h
                obtain ⟨rfl, rfl⟩ := sm h
                exact x_sub (hex105 _ _ hk) ⟨rfl, trivial⟩
              · have h := oi_pos hc h
                refine x_iload_n hF dX6_parse_97 rfl rfl ?_
                refine x_iload hF dX6_parse_98 rfl ?_
                refine x_isub hF dX6_parse_100 ?_
                refine x_iconst (v := (4 : Int32)) hF dX6_parse_101 (by decide) ?_
                refine x_icmp_le (tgt := 108) hF dX6_parse_102 (by decide) (fun hc => ?_) (fun hc => ?_)
                · have h := oi_pos hc h
                  refine x_aload_n hF dX6_parse_108 rfl rfl ?_
                  refine x_getr hF sh68 3 rfl ck5 (by decide) (by decide) tw_277 rfl dX6_parse_109 ?_
                  refine x_iconst (v := (3 : Int32)) hF dX6_parse_112 (by decide) ?_
                  refine x_aload_n hF dX6_parse_113 rfl rfl ?_
                  refine x_geti hF sh68 4 rfl ck5 (by decide) (by decide) tw_279 rfl dX6_parse_114 ?_
                  refine x_imul hF dX6_parse_117 ?_
                  refine x_iload_n hF dX6_parse_118 rfl rfl ?_
                  refine x_iadd hF dX6_parse_119 ?_
                  refine x_aload_n hF dX6_parse_120 rfl rfl ?_
                  refine x_iload hF dX6_parse_121 rfl ?_
                  refine x_iload_n hF dX6_parse_123 rfl rfl ?_
                  obtain ⟨r10, S11, hcall, h⟩ := ob_some h
                  refine x_cVi hF hN hR (ctX6_numberAt hF.tr hcall) mwX6_numberAt miX6_numberAt sh68 ck5 (by decide) tw_555 ⟨by decide, by decide⟩ rfl rfl (Nat.le_of_ble_eq_true rfl) dX6_parse_124 ?_
                  obtain ⟨hg, h⟩ := og_some h
                  obtain ⟨T12, eT12, h⟩ := ol_some h
                  refine x_iast hF sh71 (by decide) hg rfl eT12 dX6_parse_127 ?_
                  refine x_iinc [(2, _), (3, _), (5, _), (0, _), (1, _), (4, _)] (v := (1 : Int32)) hF hN dX6_parse_128 rfl (by decide) (by decide) rfl ?_
                  refine x_goto (tgt := 165) hF dX6_parse_131 (by decide) ?_
                  exact x_sub (xX6_parse_165 hF hN hR (K := K) hag hex80 hex105 hex140 hex178 h hk) ⟨rfl, rfl, rfl, rfl, rfl, trivial⟩
                · have h := oi_neg hc h
                  obtain ⟨rfl, rfl⟩ := sm h
                  exact x_sub (hex105 _ _ hk) ⟨rfl, trivial⟩)
        · have h := oi_pos hc h
          refine x_iload hF dX6_parse_56 rfl ?_
          refine x_iconst (v := (1 : Int32)) hF dX6_parse_58 (by decide) ?_
          refine x_icmp_ne (tgt := 72) hF dX6_parse_59 (by decide) (fun hc => ?_) (fun hc => ?_)
          · have h := oi_neg hc h
            refine x_null hF dX6_parse_72 ?_
            exact x_sub (xX6_parse_73 hF hN hR (K := K) hag hex80 hex105 hex140 hex178 h hk) ⟨rfl, rfl, rfl, trivial⟩
          · have h := oi_pos hc h
            refine x_aload_n hF dX6_parse_62 rfl rfl ?_
            refine x_iload hF dX6_parse_63 rfl ?_
            refine x_iload_n hF dX6_parse_65 rfl rfl ?_
            obtain ⟨r13, S14, hcall, h⟩ := ob_some h
            refine x_cVe hF hN hR (ctX6_commandAt hF.tr hcall) mwX6_commandAt miX6_commandAt sh68 ck5 (by decide) tw_497 ⟨by decide, by decide⟩ rfl rfl (Nat.le_of_ble_eq_true rfl) dX6_parse_66 ?_
            cases r13 <;> (
              refine x_goto (tgt := 73) hF dX6_parse_69 (by decide) ?_
              exact x_sub (xX6_parse_73 hF hN hR (K := K) hag hex80 hex105 hex140 hex178 h hk) ⟨rfl, rfl, rfl, trivial⟩)
      · have h := oi_pos hc h
        refine x_goto (tgt := 165) hF dX6_parse_49 (by decide) ?_
        exact x_sub (xX6_parse_165 hF hN hR (K := K) hag hex80 hex105 hex140 hex178 h hk) ⟨rfl, rfl, rfl, rfl, rfl, trivial⟩)
noncomputable def X6_parse_14L (a : Option Nat × Int32 × Int32) (S : St) : Option ((Int32 ⊕ Int32 ⊕ Int32 ⊕ (Option Nat)) × St) :=
  lp (fun (a : Option Nat × Int32 × Int32) (S : St) => X6_parse_14 a.1 a.2.1 a.2.2 S) a S
theorem xX6_parse_14L {F : Cx} (hF : Ok F cX6_parse RX6) (hN : nLF F 6) (hR : RmF F 6 0) {K : (Int32 ⊕ Int32 ⊕ Int32 ⊕ (Option Nat)) → St → Prop} (hex80 : ∀ (q : Int32) (S : St), K ((.inl q)) S → X F 0 80 [(4, .int q)] [] S) (hex105 : ∀ (q : Int32) (S : St), K ((.inr (.inl q))) S → X F 0 105 [(4, .int q)] [] S) (hex140 : ∀ (q : Int32) (S : St), K ((.inr (.inr (.inl q)))) S → X F 0 140 [(4, .int q)] [] S) (hex178 : ∀ (q : Option Nat) (S : St), K ((.inr (.inr (.inr q)))) S → X F 0 178 [(0, .ref (gA F 68)), (1, va_re (gE F) q)] [] S) {a : Option Nat × Int32 × Int32} {S : St} {b : Int32 ⊕ Int32 ⊕ Int32 ⊕ (Option Nat)} {S1 : St} (h : X6_parse_14L  a S = some (b, S1)) (hk : K b S1) : X F 0 14 [(0, .ref (gA F 68)), (1, va_re (gE F) a.1), (2, .int a.2.1), (4, .int a.2.2)] [] S := by
  unfold X6_parse_14L at h
  exact lp_rule (Xh := fun (a : Option Nat × Int32 × Int32) (S : St) => X F 0 14 [(0, .ref (gA F 68)), (1, va_re (gE F) a.1), (2, .int a.2.1), (4, .int a.2.2)] [] S) (K := K) (fun a S r S1 h hk => xX6_parse_14 hF hN hR (K := fun r S => match r with | .inl a => X F 0 14 [(0, .ref (gA F 68)), (1, va_re (gE F) a.1), (2, .int a.2.1), (4, .int a.2.2)] [] S | .inr b => K b S) (fun _ _ h => h) (fun q S h => hex80 q S h) (fun q S h => hex105 q S h) (fun q S h => hex140 q S h) (fun q S h => hex178 q S h) h (by cases r <;> exact hk)) h hk
noncomputable def X6_parse (S : St) : Option (Int32 × St) :=
  ol (si S 68 4 (0 : Int32)) (fun T1 => ob (X6_parse_14L (none, (0 : Int32), (0 : Int32)) T1) (fun b15 S16 => match b15 with | .inl q17 => some (q17, S16) | .inr (.inl q18) => some (q18, S16) | .inr (.inr (.inl q19)) => some (q19, S16) | .inr (.inr (.inr q20)) => oi (q20 = none) (some ((-1 : Int32), S16)) (some ((gi S16 68 1), S16))))
set_option maxHeartbeats 4000000 in
set_option maxRecDepth 20000 in
theorem ctX6_parse {l : Launch} {G : Ga} (hl : l.stackTraces = false) {S : St} {r : Int32} {S1 : St} (h : X6_parse  S = some (r, S1)) : CT l G 6 yX6_parse cX6_parse 6 (some .int) [.ref (G.1 68)] S (some (.int r)) S1 := by
  refine ct_of hl (by decide) (Nat.le_of_ble_eq_true rfl) (fun F hFl hFG hF hN hR hret => ?_)
  subst hFl hFG
  show X F 0 0 [(0, .ref (gA F 68))] [] S
  have hret : ∀ (v : Int32) (S : St) (pc : Nat) (ls : List (Nat × Value)), (v = r ∧ S = S1) → decode cX6_parse pc = .ok (.ireturn, 1) → X F 0 pc ls [.int v] S := fun v S2 pc ls hq hd => by obtain ⟨rfl, rfl⟩ := hq; exact hret.1 pc ls v rfl rfl hd
  have hk : r = r ∧ S1 = S1 := ⟨rfl, rfl⟩
  unfold X6_parse at h
  refine x_aload_n hF dX6_parse_0 rfl rfl ?_
  refine x_iconst (v := (0 : Int32)) hF dX6_parse_1 (by decide) ?_
  obtain ⟨T1, eT1, h⟩ := ol_some h
  refine x_puti hF sh68 4 rfl ck5 (by decide) (by decide) tw_279 rfl rfl rfl rfl rfl eT1 dX6_parse_2 ?_
  refine x_null hF dX6_parse_5 ?_
  refine x_astoreE_n [(1, _), (0, _)] hF hN dX6_parse_6 rfl (by decide) rfl ?_
  refine x_iconst (v := (0 : Int32)) hF dX6_parse_7 (by decide) ?_
  refine x_istore_n [(2, _), (1, _), (0, _)] hF hN dX6_parse_8 rfl (by decide) rfl ?_
  refine x_iconst (v := (0 : Int32)) hF dX6_parse_9 (by decide) ?_
  refine x_istore_n [(3, _), (2, _), (1, _), (0, _)] hF hN dX6_parse_10 rfl (by decide) rfl ?_
  refine x_iconst (v := (0 : Int32)) hF dX6_parse_11 (by decide) ?_
  refine x_istore [(4, _), (3, _), (2, _), (1, _), (0, _)] hF hN dX6_parse_12 (by decide) rfl ?_
  obtain ⟨b15, S16, hlb15, h⟩ := ob_some h
  refine x_sub (xX6_parse_14L hF hN hR (K := fun bb SS => bb = b15 ∧ SS = S16) ?_ ?_ ?_ ?_ hlb15 ⟨rfl, rfl⟩) ⟨rfl, rfl, rfl, rfl, trivial⟩
  · rintro _ _ ⟨rfl, rfl⟩
    dsimp only at h
    refine x_iload hF dX6_parse_80 rfl ?_
    obtain ⟨rfl, rfl⟩ := sm h
    exact hret _ _ _ _ hk dX6_parse_82
  · rintro _ _ ⟨rfl, rfl⟩
    dsimp only at h
    refine x_iload hF dX6_parse_105 rfl ?_
    obtain ⟨rfl, rfl⟩ := sm h
    exact hret _ _ _ _ hk dX6_parse_107
  · rintro _ _ ⟨rfl, rfl⟩
    dsimp only at h
    refine x_iload hF dX6_parse_140 rfl ?_
    obtain ⟨rfl, rfl⟩ := sm h
    exact hret _ _ _ _ hk dX6_parse_142
  · rintro qe _ ⟨rfl, rfl⟩
    dsimp only at h
    cases qe <;> (
      refine x_aloadV_n hF dX6_parse_178 rfl rfl (by first | exact Or.inl rfl | exact Or.inr ⟨_, rfl⟩) ?_
      try dsimp only
      refine x_ifnn (tgt := 186) hF dX6_parse_179 (by decide) (fun hc => ?_) (fun hc => ?_)
      · have h := oi_neg hc h
        refine x_aload_n hF dX6_parse_186 rfl rfl ?_
        refine x_geti hF sh68 1 rfl ck5 (by decide) (by decide) tw_273 rfl dX6_parse_187 ?_
        obtain ⟨rfl, rfl⟩ := sm h
        exact hret _ _ _ _ hk dX6_parse_190
      · have h := oi_pos hc h
        refine x_iconst (v := (-1 : Int32)) hF dX6_parse_182 (by decide) ?_
        refine x_goto (tgt := 190) hF dX6_parse_183 (by decide) ?_
        obtain ⟨rfl, rfl⟩ := sm h
        exact hret _ _ _ _ hk dX6_parse_190)
noncomputable def X7_fault (S : St) : Option (Int32 × St) :=
  ob (X6_parse  S) (fun r1 S2 => some (r1, S2))
set_option maxHeartbeats 4000000 in
set_option maxRecDepth 20000 in
theorem ctX7_fault {l : Launch} {G : Ga} (hl : l.stackTraces = false) {S : St} {r : Int32} {S1 : St} (h : X7_fault  S = some (r, S1)) : CT l G 7 yX7_fault cX7_fault 1 (some .int) [.ref (G.1 0)] S (some (.int r)) S1 := by
  refine ct_of hl (by decide) (Nat.le_of_ble_eq_true rfl) (fun F hFl hFG hF hN hR hret => ?_)
  subst hFl hFG
  show X F 0 0 [(0, .ref (gA F 0))] [] S
  have hret : ∀ (v : Int32) (S : St) (pc : Nat) (ls : List (Nat × Value)), (v = r ∧ S = S1) → decode cX7_fault pc = .ok (.ireturn, 1) → X F 0 pc ls [.int v] S := fun v S2 pc ls hq hd => by obtain ⟨rfl, rfl⟩ := hq; exact hret.1 pc ls v rfl rfl hd
  have hk : r = r ∧ S1 = S1 := ⟨rfl, rfl⟩
  unfold X7_fault at h
  refine x_aload_n hF dX7_fault_0 rfl rfl ?_
  refine x_getr hF sh0 4 rfl ck6 (by decide) (by decide) tw_296 rfl dX7_fault_1 ?_
  obtain ⟨r1, S2, hcall, h⟩ := ob_some h
  refine x_cVi hF hN hR (ctX6_parse hF.tr hcall) mwX6_parse miX6_parse sh68 ck5 (by decide) tw_486 ⟨by decide, by decide⟩ rfl rfl (Nat.le_of_ble_eq_true rfl) dX7_fault_4 ?_
  obtain ⟨rfl, rfl⟩ := sm h
  exact hret _ _ _ _ hk dX7_fault_7
noncomputable def X4_set (k : Nat) (x1 : Int32) (x2 : Int32) (S : St) : Option (Int32 × St) :=
  ob (X7_isAllowed x1 x2 S) (fun r1 S2 => oi (r1 = 0) (og (isB r1) (some (r1, S2))) (og (inb x1 14) (ol (si S2 (k + 4) (ix x1) x2) (fun T3 => og (isB r1) (some (r1, T3))))))
set_option maxHeartbeats 4000000 in
set_option maxRecDepth 20000 in
theorem ctX4_set {l : Launch} {G : Ga} {k : Nat} (ik : isRecording k) {x1 : Int32} {x2 : Int32} (hl : l.stackTraces = false) {S : St} {r : Int32} {S1 : St} (h : X4_set k x1 x2 S = some (r, S1)) : CT l G 1 yX4_set cX4_set 4 (some .boolean) [.ref (G.1 k), .int x1, .int x2] S (some (.int r)) S1 := by
  refine ct_of hl (by decide) (Nat.le_of_ble_eq_true rfl) (fun F hFl hFG hF hN hR hret => ?_)
  subst hFl hFG
  show X F 0 0 [(0, .ref (gA F k)), (1, .int x1), (2, .int x2)] [] S
  have hret : ∀ (v : Int32) (S : St) (pc : Nat) (ls : List (Nat × Value)), isB v → (v = r ∧ S = S1) → decode cX4_set pc = .ok (.ireturn, 1) → X F 0 pc ls [.int v] S := fun v S2 pc ls hb hq hd => by obtain ⟨rfl, rfl⟩ := hq; exact hret.2.1 pc ls v rfl hb rfl hd
  have hk : r = r ∧ S1 = S1 := ⟨rfl, rfl⟩
  unfold X4_set at h
  refine x_iload_n hF dX4_set_0 rfl rfl ?_
  refine x_iload_n hF dX4_set_1 rfl rfl ?_
  obtain ⟨r1, S2, hcall, h⟩ := ob_some h
  refine x_cSN hF hN hR (ctX7_isAllowed hF.tr hcall) mwX7_isAllowed tw_756 (List.mem_of_getElem? (i := 7) rfl) ⟨by decide, by decide⟩ rfl rfl (Nat.le_of_ble_eq_true rfl) dX4_set_2 ?_
  refine x_istore_n [(3, _), (0, _), (1, _), (2, _)] hF hN dX4_set_5 rfl (by decide) rfl ?_
  refine x_iload_n hF dX4_set_6 rfl rfl ?_
  refine x_if_eq (tgt := 17) hF dX4_set_7 (by decide) (fun hc => ?_) (fun hc => ?_)
  · have h := oi_pos hc h
    refine x_iload_n hF dX4_set_17 rfl rfl ?_
    obtain ⟨hg, h⟩ := og_some h
    obtain ⟨rfl, rfl⟩ := sm h
    exact hret _ _ _ _ hg hk dX4_set_18
  · have h := oi_neg hc h
    refine x_aload_n hF dX4_set_10 rfl rfl ?_
    refine x_getr hF (shRecording_0 ik) 4 rfl ck3 (ltRecording_0 ik) (by decide) tw_130 rfl dX4_set_11 ?_
    refine x_iload_n hF dX4_set_14 rfl rfl ?_
    refine x_iload_n hF dX4_set_15 rfl rfl ?_
    obtain ⟨hg, h⟩ := og_some h
    obtain ⟨T3, eT3, h⟩ := ol_some h
    refine x_iast hF (shRecording_4 ik) (ltRecording_4 ik) hg rfl eT3 dX4_set_16 ?_
    refine x_iload_n hF dX4_set_17 rfl rfl ?_
    obtain ⟨hg, h⟩ := og_some h
    obtain ⟨rfl, rfl⟩ := sm h
    exact hret _ _ _ _ hg hk dX4_set_18
noncomputable def X7_carryOut (x1 : Option Nat) (x2 : Int32) (S : St) : Option (Int32 × St) :=
  oi (x2 < 0) (some ((0 : Int32), S)) (oi ((360 : Int32) ≤ (x2 + (2 : Int32))) (some ((0 : Int32), S)) (oi (x1 = none) (some ((0 : Int32), S)) (og (inb x2 360) (og (inb (x2 + (1 : Int32)) 360) (og (inb (x2 + (2 : Int32)) 360) (og (x1.getD 0 < 7 ∧ (some 0).getD 0 < 7) (oi (x1 = (some 0)) (ob (X7_isPacket (gi S 71 (ix x2)) (gi S 71 (ix (x2 + (1 : Int32)))) (gi S 71 (ix (x2 + (2 : Int32)))) S) (fun r8 S9 => oi (r8 = 0) (some ((0 : Int32), S9)) (ob (X4_insert 1 (gi S 71 (ix x2)) (gi S 71 (ix (x2 + (1 : Int32)))) (gi S 71 (ix (x2 + (2 : Int32)))) S9) (fun r10 S11 => oi (r10 = (-1 : Int32)) (some ((0 : Int32), S11)) (some ((1 : Int32), S11)))))) (og (x1.getD 0 < 7 ∧ (some 5).getD 0 < 7) (oi (x1 = (some 5)) (ob (X7_isFlow (gi S 71 (ix x2)) S) (fun r4 S5 => oi (r4 = 0) (some ((0 : Int32), S5)) (ob (X4_set 1 ((8 : Int32) + (gi S 71 (ix x2))) (gi S 71 (ix (x2 + (1 : Int32)))) S5) (fun r6 S7 => oi (r6 = 0) (some ((0 : Int32), S7)) (some ((1 : Int32), S7)))))) (os x1 (fun j1 => og (j1 < 7) (ob (X4_set 1 (cmdS j1) (gi S 71 (ix x2)) S) (fun r2 S3 => og (isB r2) (some (r2, S3)))))))))))))))
set_option maxHeartbeats 4000000 in
set_option maxRecDepth 20000 in
theorem ctX7_carryOut {l : Launch} {G : Ga} {x1 : Option Nat} {x2 : Int32} (hl : l.stackTraces = false) {S : St} {r : Int32} {S1 : St} (h : X7_carryOut x1 x2 S = some (r, S1)) : CT l G 3 yX7_carryOut cX7_carryOut 6 (some .boolean) [.ref (G.1 0), va_re G.2.1 x1, .int x2] S (some (.int r)) S1 := by
  cases x1 <;> (
  refine ct_of hl (by decide) (Nat.le_of_ble_eq_true rfl) (fun F hFl hFG hF hN hR hret => ?_)
  subst hFl hFG
  show X F 0 0 [(0, .ref (gA F 0)), (1, _), (2, .int x2)] [] S
  have hret : ∀ (v : Int32) (S : St) (pc : Nat) (ls : List (Nat × Value)), isB v → (v = r ∧ S = S1) → decode cX7_carryOut pc = .ok (.ireturn, 1) → X F 0 pc ls [.int v] S := fun v S2 pc ls hb hq hd => by obtain ⟨rfl, rfl⟩ := hq; exact hret.2.1 pc ls v rfl hb rfl hd
  have hk : r = r ∧ S1 = S1 := ⟨rfl, rfl⟩
  unfold X7_carryOut at h
  refine x_iload_n hF dX7_carryOut_0 rfl rfl ?_
  refine x_if_lt (tgt := 22) hF dX7_carryOut_1 (by decide) (fun hc => ?_) (fun hc => ?_)
  · have h := oi_pos hc h
    refine x_iconst (v := (0 : Int32)) hF dX7_carryOut_22 (by decide) ?_
    obtain ⟨rfl, rfl⟩ := sm h
    exact hret _ _ _ _ (by decide) hk dX7_carryOut_23
  · have h := oi_neg hc h
    refine x_iload_n hF dX7_carryOut_4 rfl rfl ?_
    refine x_iconst (v := (2 : Int32)) hF dX7_carryOut_5 (by decide) ?_
    refine x_iadd hF dX7_carryOut_6 ?_
    refine x_aload_n hF dX7_carryOut_7 rfl rfl ?_
    refine x_getr hF sh0 4 rfl ck6 (by decide) (by decide) tw_296 rfl dX7_carryOut_8 ?_
    refine x_getr hF sh68 3 rfl ck5 (by decide) (by decide) tw_278 rfl dX7_carryOut_11 ?_
    refine x_alen (v := (360 : Int32)) hF sh71 (by decide) (by decide) dX7_carryOut_14 ?_
    refine x_icmp_ge (tgt := 22) hF dX7_carryOut_15 (by decide) (fun hc => ?_) (fun hc => ?_)
    · have h := oi_pos hc h
      refine x_iconst (v := (0 : Int32)) hF dX7_carryOut_22 (by decide) ?_
      obtain ⟨rfl, rfl⟩ := sm h
      exact hret _ _ _ _ (by decide) hk dX7_carryOut_23
    · have h := oi_neg hc h
      refine x_aloadV_n hF dX7_carryOut_18 rfl rfl (by first | exact Or.inl rfl | exact Or.inr ⟨_, rfl⟩) ?_
      try dsimp only
      refine x_ifnn (tgt := 24) hF dX7_carryOut_19 (by decide) (fun hc => ?_) (fun hc => ?_)
      · have h := oi_neg hc h
        refine x_aload_n hF dX7_carryOut_24 rfl rfl ?_
        refine x_getr hF sh0 4 rfl ck6 (by decide) (by decide) tw_296 rfl dX7_carryOut_25 ?_
        refine x_getr hF sh68 3 rfl ck5 (by decide) (by decide) tw_278 rfl dX7_carryOut_28 ?_
        refine x_iload_n hF dX7_carryOut_31 rfl rfl ?_
        obtain ⟨hg, h⟩ := og_some h
        refine x_iald hF sh71 (by decide) hg rfl dX7_carryOut_32 ?_
        refine x_istore_n [(3, _), (0, _), (1, _), (2, _)] hF hN dX7_carryOut_33 rfl (by decide) rfl ?_
        refine x_aload_n hF dX7_carryOut_34 rfl rfl ?_
        refine x_getr hF sh0 4 rfl ck6 (by decide) (by decide) tw_296 rfl dX7_carryOut_35 ?_
        refine x_getr hF sh68 3 rfl ck5 (by decide) (by decide) tw_278 rfl dX7_carryOut_38 ?_
        refine x_iload_n hF dX7_carryOut_41 rfl rfl ?_
        refine x_iconst (v := (1 : Int32)) hF dX7_carryOut_42 (by decide) ?_
        refine x_iadd hF dX7_carryOut_43 ?_
        obtain ⟨hg, h⟩ := og_some h
        refine x_iald hF sh71 (by decide) hg rfl dX7_carryOut_44 ?_
        refine x_istore [(4, _), (3, _), (0, _), (1, _), (2, _)] hF hN dX7_carryOut_45 (by decide) rfl ?_
        refine x_aload_n hF dX7_carryOut_47 rfl rfl ?_
        refine x_getr hF sh0 4 rfl ck6 (by decide) (by decide) tw_296 rfl dX7_carryOut_48 ?_
        refine x_getr hF sh68 3 rfl ck5 (by decide) (by decide) tw_278 rfl dX7_carryOut_51 ?_
        refine x_iload_n hF dX7_carryOut_54 rfl rfl ?_
        refine x_iconst (v := (2 : Int32)) hF dX7_carryOut_55 (by decide) ?_
        refine x_iadd hF dX7_carryOut_56 ?_
        obtain ⟨hg, h⟩ := og_some h
        refine x_iald hF sh71 (by decide) hg rfl dX7_carryOut_57 ?_
        refine x_istore [(5, _), (4, _), (3, _), (0, _), (1, _), (2, _)] hF hN dX7_carryOut_58 (by decide) rfl ?_
        refine x_aloadV_n hF dX7_carryOut_60 rfl rfl (by first | exact Or.inl rfl | exact Or.inr ⟨_, rfl⟩) ?_
        try dsimp only
        refine x_gets (v := va_re (gE F) (some 0)) hF (List.mem_of_getElem? (i := 5) rfl) tw_1015 dX7_carryOut_61 ?_
        obtain ⟨hg, h⟩ := og_some h
        refine x_acmp_ne (tgt := 100) hF hg.1 hg.2 dX7_carryOut_64 (by decide) (fun hc => ?_) (fun hc => ?_)
        · have h := oi_neg hc h
          refine x_aloadV_n hF dX7_carryOut_100 rfl rfl (by first | exact Or.inl rfl | exact Or.inr ⟨_, rfl⟩) ?_
          try dsimp only
          refine x_gets (v := va_re (gE F) (some 5)) hF (List.mem_of_getElem? (i := 6) rfl) tw_1017 dX7_carryOut_101 ?_
          obtain ⟨hg, h⟩ := og_some h
          refine x_acmp_ne (tgt := 136) hF hg.1 hg.2 dX7_carryOut_104 (by decide) (fun hc => ?_) (fun hc => ?_)
          · have h := oi_neg hc h
            refine x_aload_n hF dX7_carryOut_136 rfl rfl ?_
            refine x_getr hF sh0 0 rfl ck6 (by decide) (by decide) tw_292 rfl dX7_carryOut_137 ?_
            refine x_aloadV_n hF dX7_carryOut_140 rfl rfl (by first | exact Or.inl rfl | exact Or.inr ⟨_, rfl⟩) ?_
            try dsimp only
            obtain ⟨j1, ej1, h⟩ := os_some h
            first | (cases ej1; done) | (
              obtain rfl := Option.some.inj ej1
              obtain ⟨hgj1, h⟩ := og_some h
              refine x_getE hF hgj1 (List.mem_of_getElem? (i := 2) rfl) tw_1489 dX7_carryOut_141 ?_
              refine x_iload_n hF dX7_carryOut_144 rfl rfl ?_
              obtain ⟨r2, S3, hcall, h⟩ := ob_some h
              refine x_cVi hF hN hR (ctX4_set (by decide) hF.tr hcall) mwX4_set miX4_set sh1 ck3 (by decide) tw_1019 ⟨by decide, by decide⟩ rfl rfl (Nat.le_of_ble_eq_true rfl) dX7_carryOut_145 ?_
              obtain ⟨hg, h⟩ := og_some h
              obtain ⟨rfl, rfl⟩ := sm h
              exact hret _ _ _ _ hg hk dX7_carryOut_148)
          · have h := oi_pos hc h
            refine x_iload_n hF dX7_carryOut_107 rfl rfl ?_
            obtain ⟨r4, S5, hcall, h⟩ := ob_some h
            refine x_cSi hF hN hR (ctX7_isFlow hF.tr hcall) mwX7_isFlow tw_592 tw_591 ⟨by decide, by decide⟩ rfl rfl (Nat.le_of_ble_eq_true rfl) dX7_carryOut_108 ?_
            refine x_if_eq (tgt := 134) hF dX7_carryOut_111 (by decide) (fun hc => ?_) (fun hc => ?_)
            · have h := oi_pos hc h
              refine x_iconst (v := (0 : Int32)) hF dX7_carryOut_134 (by decide) ?_
              obtain ⟨rfl, rfl⟩ := sm h
              exact hret _ _ _ _ (by decide) hk dX7_carryOut_135
            · have h := oi_neg hc h
              refine x_aload_n hF dX7_carryOut_114 rfl rfl ?_
              refine x_getr hF sh0 0 rfl ck6 (by decide) (by decide) tw_292 rfl dX7_carryOut_115 ?_
              refine x_bipush (v := (8 : Int32)) hF dX7_carryOut_118 (by decide) ?_
              refine x_iload_n hF dX7_carryOut_120 rfl rfl ?_
              refine x_iadd hF dX7_carryOut_121 ?_
              refine x_iload hF dX7_carryOut_122 rfl ?_
              obtain ⟨r6, S7, hcall, h⟩ := ob_some h
              refine x_cVi hF hN hR (ctX4_set (by decide) hF.tr hcall) mwX4_set miX4_set sh1 ck3 (by decide) tw_1019 ⟨by decide, by decide⟩ rfl rfl (Nat.le_of_ble_eq_true rfl) dX7_carryOut_124 ?_
              refine x_if_eq (tgt := 134) hF dX7_carryOut_127 (by decide) (fun hc => ?_) (fun hc => ?_)
              · have h := oi_pos hc h
                refine x_iconst (v := (0 : Int32)) hF dX7_carryOut_134 (by decide) ?_
                obtain ⟨rfl, rfl⟩ := sm h
                exact hret _ _ _ _ (by decide) hk dX7_carryOut_135
              · have h := oi_neg hc h
                refine x_iconst (v := (1 : Int32)) hF dX7_carryOut_130 (by decide) ?_
                refine x_goto (tgt := 135) hF dX7_carryOut_131 (by decide) ?_
                obtain ⟨rfl, rfl⟩ := sm h
                exact hret _ _ _ _ (by decide) hk dX7_carryOut_135
        · have h := oi_pos hc h
          refine x_iload_n hF dX7_carryOut_67 rfl rfl ?_
          refine x_iload hF dX7_carryOut_68 rfl ?_
          refine x_iload hF dX7_carryOut_70 rfl ?_
          obtain ⟨r8, S9, hcall, h⟩ := ob_some h
          refine x_cSi hF hN hR (ctX7_isPacket hF.tr hcall) mwX7_isPacket tw_663 tw_662 ⟨by decide, by decide⟩ rfl rfl (Nat.le_of_ble_eq_true rfl) dX7_carryOut_72 ?_
          refine x_if_eq (tgt := 98) hF dX7_carryOut_75 (by decide) (fun hc => ?_) (fun hc => ?_)
          · have h := oi_pos hc h
            refine x_iconst (v := (0 : Int32)) hF dX7_carryOut_98 (by decide) ?_
            obtain ⟨rfl, rfl⟩ := sm h
            exact hret _ _ _ _ (by decide) hk dX7_carryOut_99
          · have h := oi_neg hc h
            refine x_aload_n hF dX7_carryOut_78 rfl rfl ?_
            refine x_getr hF sh0 0 rfl ck6 (by decide) (by decide) tw_292 rfl dX7_carryOut_79 ?_
            refine x_iload_n hF dX7_carryOut_82 rfl rfl ?_
            refine x_iload hF dX7_carryOut_83 rfl ?_
            refine x_iload hF dX7_carryOut_85 rfl ?_
            obtain ⟨r10, S11, hcall, h⟩ := ob_some h
            refine x_cVi hF hN hR (ctX4_insert (by decide) hF.tr hcall) mwX4_insert miX4_insert sh1 ck3 (by decide) tw_711 ⟨by decide, by decide⟩ rfl rfl (Nat.le_of_ble_eq_true rfl) dX7_carryOut_87 ?_
            refine x_iconst (v := (-1 : Int32)) hF dX7_carryOut_90 (by decide) ?_
            refine x_icmp_eq (tgt := 98) hF dX7_carryOut_91 (by decide) (fun hc => ?_) (fun hc => ?_)
            · have h := oi_pos hc h
              refine x_iconst (v := (0 : Int32)) hF dX7_carryOut_98 (by decide) ?_
              obtain ⟨rfl, rfl⟩ := sm h
              exact hret _ _ _ _ (by decide) hk dX7_carryOut_99
            · have h := oi_neg hc h
              refine x_iconst (v := (1 : Int32)) hF dX7_carryOut_94 (by decide) ?_
              refine x_goto (tgt := 99) hF dX7_carryOut_95 (by decide) ?_
              obtain ⟨rfl, rfl⟩ := sm h
              exact hret _ _ _ _ (by decide) hk dX7_carryOut_99
      · have h := oi_pos hc h
        refine x_iconst (v := (0 : Int32)) hF dX7_carryOut_22 (by decide) ?_
        obtain ⟨rfl, rfl⟩ := sm h
        exact hret _ _ _ _ (by decide) hk dX7_carryOut_23)
noncomputable def X7_run_36 (x1 : Int32) (x2 : Int32) (S : St) : Option (((Int32 × Int32) ⊕ Int32) × St) :=
  oi ((gi S 68 4) ≤ x2) (some (.inr x1, S)) (og (inb x2 120) (ob (X7_carryOut (gr S 70 (ix x2)) (x2 * (3 : Int32)) S) (fun r5 S6 => oi (r5 = 0) (some (.inl (x1, (x2 + (1 : Int32))), S6)) (some (.inl ((x1 + (1 : Int32)), (x2 + (1 : Int32))), S6)))))
set_option maxHeartbeats 4000000 in
set_option maxRecDepth 20000 in
theorem xX7_run_36 {F : Cx} (hF : Ok F cX7_run RX7) (hN : nLF F 3) (hR : RmF F 7 1) {x1 : Int32} {x2 : Int32} {K : ((Int32 × Int32) ⊕ Int32) → St → Prop} (hag : ∀ (a : Int32 × Int32) (S : St), K (.inl a) S → X F 0 36 [(0, .ref (gA F 0)), (1, .int a.1), (2, .int a.2)] [] S) (hex75 : ∀ (q : Int32) (S : St), K (.inr q) S → X F 0 75 [(1, .int q)] [] S) {S : St} {r : (Int32 × Int32) ⊕ Int32} {S1 : St} (h : X7_run_36 x1 x2 S = some (r, S1)) (hk : K r S1) : X F 0 36 [(0, .ref (gA F 0)), (1, .int x1), (2, .int x2)] [] S := by
  unfold X7_run_36 at h
  refine x_iload_n hF dX7_run_36 rfl rfl ?_
  refine x_aload_n hF dX7_run_37 rfl rfl ?_
  refine x_getr hF sh0 4 rfl ck6 (by decide) (by decide) tw_296 rfl dX7_run_38 ?_
  refine x_geti hF sh68 4 rfl ck5 (by decide) (by decide) tw_280 rfl dX7_run_41 ?_
  refine x_icmp_ge (tgt := 75) hF dX7_run_44 (by decide) (fun hc => ?_) (fun hc => ?_)
  · have h := oi_pos hc h
    obtain ⟨rfl, rfl⟩ := sm h
    exact x_sub (hex75 _ _ hk) ⟨rfl, trivial⟩
  · have h := oi_neg hc h
    refine x_aload_n hF dX7_run_47 rfl rfl ?_
    refine x_aload_n hF dX7_run_48 rfl rfl ?_
    refine x_getr hF sh0 4 rfl ck6 (by decide) (by decide) tw_296 rfl dX7_run_49 ?_
    refine x_getr hF sh68 2 rfl ck5 (by decide) (by decide) tw_276 rfl dX7_run_52 ?_
    refine x_iload_n hF dX7_run_55 rfl rfl ?_
    obtain ⟨hg, h⟩ := og_some h
    refine x_aaldE hF sh70 (by decide) hg dX7_run_56 ?_
    refine x_iload_n hF dX7_run_57 rfl rfl ?_
    refine x_iconst (v := (3 : Int32)) hF dX7_run_58 (by decide) ?_
    refine x_imul hF dX7_run_59 ?_
    obtain ⟨r5, S6, hcall, h⟩ := ob_some h
    refine x_cVi hF hN hR (ctX7_carryOut hF.tr hcall) mwX7_carryOut miX7_carryOut sh0 ck6 (by decide) tw_1011 ⟨by decide, by decide⟩ rfl rfl (Nat.le_of_ble_eq_true rfl) dX7_run_60 ?_
    refine x_if_eq (tgt := 69) hF dX7_run_63 (by decide) (fun hc => ?_) (fun hc => ?_)
    · have h := oi_pos hc h
      refine x_iinc [(2, _), (0, _), (1, _)] (v := (1 : Int32)) hF hN dX7_run_69 rfl (by decide) (by decide) rfl ?_
      refine x_goto (tgt := 36) hF dX7_run_72 (by decide) ?_
      obtain ⟨rfl, rfl⟩ := sm h
      exact x_sub (hag _ _ hk) ⟨rfl, rfl, rfl, trivial⟩
    · have h := oi_neg hc h
      refine x_iinc [(1, _), (0, _), (2, _)] (v := (1 : Int32)) hF hN dX7_run_66 rfl (by decide) (by decide) rfl ?_
      refine x_iinc [(2, _), (1, _), (0, _)] (v := (1 : Int32)) hF hN dX7_run_69 rfl (by decide) (by decide) rfl ?_
      refine x_goto (tgt := 36) hF dX7_run_72 (by decide) ?_
      obtain ⟨rfl, rfl⟩ := sm h
      exact x_sub (hag _ _ hk) ⟨rfl, rfl, rfl, trivial⟩
noncomputable def X7_run_36L (a : Int32 × Int32) (S : St) : Option (Int32 × St) :=
  lp (fun (a : Int32 × Int32) (S : St) => X7_run_36 a.1 a.2 S) a S
theorem xX7_run_36L {F : Cx} (hF : Ok F cX7_run RX7) (hN : nLF F 3) (hR : RmF F 7 1) {K : Int32 → St → Prop} (hex75 : ∀ (q : Int32) (S : St), K (q) S → X F 0 75 [(1, .int q)] [] S) {a : Int32 × Int32} {S : St} {b : Int32} {S1 : St} (h : X7_run_36L  a S = some (b, S1)) (hk : K b S1) : X F 0 36 [(0, .ref (gA F 0)), (1, .int a.1), (2, .int a.2)] [] S := by
  unfold X7_run_36L at h
  exact lp_rule (Xh := fun (a : Int32 × Int32) (S : St) => X F 0 36 [(0, .ref (gA F 0)), (1, .int a.1), (2, .int a.2)] [] S) (K := K) (fun a S r S1 h hk => xX7_run_36 hF hN hR (K := fun r S => match r with | .inl a => X F 0 36 [(0, .ref (gA F 0)), (1, .int a.1), (2, .int a.2)] [] S | .inr b => K b S) (fun _ _ h => h) (fun q S h => hex75 q S h) h (by cases r <;> exact hk)) h hk
noncomputable def X7_run (S : St) : Option ((Int32 ⊕ Nat) × St) :=
  ob (X6_parse  S) (fun r1 S2 => oi (r1 = (-1 : Int32)) (ob (X1_save 1 S2) (fun r3 S4 => ob (X7_run_36L ((0 : Int32), (0 : Int32)) S4) (fun b7 S8 => some (.inl b7, S8)))) (some (.inr 1, S2)))
set_option maxHeartbeats 4000000 in
set_option maxRecDepth 20000 in
theorem cxX7_run {l : Launch} {G : Ga} (hl : l.stackTraces = false) {S : St} {r : (Int32 ⊕ Nat)} {S1 : St} (h : X7_run  S = some (r, S1)) : CX l G 7 1 yX7_run cX7_run 3 (some .int) [.ref (G.1 0)] S (rvI r) S1 := by
  refine cx_of hl (by decide) rfl (by decide) (Nat.le_of_ble_eq_true rfl) (fun F hFl hFG hF hN hR hret => ?_)
  subst hFl hFG
  show X F 0 0 [(0, .ref (gA F 0))] [] S
  have hxt : ∀ (e : Nat) (S : St) (u pc : Nat) (ls : List (Nat × Value)), u ≤ 1 → (.inr e = r ∧ S = S1) → XT F u pc e ls S := fun e S2 u pc ls hu hq => by obtain ⟨rfl, rfl⟩ := hq; exact hret.2.2.1 u pc e ls hu rfl
  have hthr : ∀ {e : Nat} {S : St} {u pc ik is j : Nat} {tx : String} {ls : List (Nat × Value)} {st : List Value}, u + 1 ≤ 1 → e < 3 → (st.map fun v => v.category).sum ≤ 8 → (.inr e = r ∧ S = S1) → Thr cX7_run pc e ik is j tx ∨ ThrW cX7_run pc e ik is j tx → X F u pc ls st S := fun {e S2 u pc ik is j tx ls st} hu he hs hq hT => by obtain ⟨rfl, rfl⟩ := hq; exact hret.2.2.2 u pc e ik is j tx ls st hu he hs rfl hT
  have hret : ∀ (v : Int32) (S : St) (u pc : Nat) (ls : List (Nat × Value)), u ≤ 1 → (.inl v = r ∧ S = S1) → decode cX7_run pc = .ok (.ireturn, 1) → X F u pc ls [.int v] S := fun v S2 u pc ls hu hq hd => by obtain ⟨rfl, rfl⟩ := hq; exact hret.1 u pc ls v hu rfl rfl hd
  have hk : r = r ∧ S1 = S1 := ⟨rfl, rfl⟩
  unfold X7_run at h
  refine x_aload_n hF dX7_run_0 rfl rfl ?_
  refine x_getr hF sh0 4 rfl ck6 (by decide) (by decide) tw_296 rfl dX7_run_1 ?_
  obtain ⟨r1, S2, hcall, h⟩ := ob_some h
  refine x_cVi hF hN hR (ctX6_parse hF.tr hcall) mwX6_parse miX6_parse sh68 ck5 (by decide) tw_486 ⟨by decide, by decide⟩ rfl rfl (Nat.le_of_ble_eq_true rfl) dX7_run_4 ?_
  refine x_iconst (v := (-1 : Int32)) hF dX7_run_7 (by decide) ?_
  refine x_icmp_eq (tgt := 21) hF dX7_run_8 (by decide) (fun hc => ?_) (fun hc => ?_)
  · have h := oi_pos hc h
    refine x_aload_n hF dX7_run_21 rfl rfl ?_
    refine x_getr hF sh0 1 rfl ck6 (by decide) (by decide) tw_293 rfl dX7_run_22 ?_
    refine x_aload_n hF dX7_run_25 rfl rfl ?_
    refine x_getr hF sh0 0 rfl ck6 (by decide) (by decide) tw_292 rfl dX7_run_26 ?_
    obtain ⟨r3, S4, hcall, h⟩ := ob_some h
    refine x_cVv hF hN hR (ctX1_save (by decide) hF.tr hcall) mwX1_save miX1_save sh6 ck0 (by decide) tw_701 ⟨by decide, by decide⟩ rfl rfl (Nat.le_of_ble_eq_true rfl) dX7_run_29 ?_
    refine x_iconst (v := (0 : Int32)) hF dX7_run_32 (by decide) ?_
    refine x_istore_n [(1, _), (0, _)] hF hN dX7_run_33 rfl (by decide) rfl ?_
    refine x_iconst (v := (0 : Int32)) hF dX7_run_34 (by decide) ?_
    refine x_istore_n [(2, _), (1, _), (0, _)] hF hN dX7_run_35 rfl (by decide) rfl ?_
    obtain ⟨b7, S8, hlb7, h⟩ := ob_some h
    refine x_sub (xX7_run_36L hF hN hR (K := fun bb SS => bb = b7 ∧ SS = S8) ?_ hlb7 ⟨rfl, rfl⟩) ⟨rfl, rfl, rfl, trivial⟩
    rintro _ _ ⟨rfl, rfl⟩
    refine x_iload_n hF dX7_run_75 rfl rfl ?_
    obtain ⟨rfl, rfl⟩ := sm h
    exact hret _ _ _ _ _ (by decide) hk dX7_run_76
  · have h := oi_neg hc h
    obtain ⟨rfl, rfl⟩ := sm h
    exact hthr (e := 1) (j := 14) (by decide) (by decide) (Nat.le_of_ble_eq_true rfl) hk (Or.inl ⟨tw_665, tw_84, rfl, dX7_run_11, dX7_run_14, dX7_run_15, dX7_run_17, dX7_run_20⟩)
noncomputable def X1_restore (o1 : Nat) (S : St) : Option (Unit × St) :=
  og (inb (gi S 6 2) 8) (ob (X4_copyFrom o1 (8 + 5 * ix (gi S 6 2)) S) (fun r1 S2 => ol (si S2 6 2 ((((gi S2 6 2) + (8 : Int32)) - (1 : Int32)) - (((gi S2 6 2) + (8 : Int32)) - (1 : Int32)) / (8 : Int32) * (8 : Int32))) (fun T3 => ol (si T3 6 1 ((gi T3 6 1) - (1 : Int32))) (fun T4 => some ((), T4)))))
set_option maxHeartbeats 4000000 in
set_option maxRecDepth 20000 in
theorem ctX1_restore {l : Launch} {G : Ga} {o1 : Nat} (io1 : isRecording o1) (hl : l.stackTraces = false) {S : St} {r : Unit} {S1 : St} (h : X1_restore o1 S = some (r, S1)) : CT l G 2 yX1_restore cX1_restore 2 none [.ref (G.1 6), .ref (G.1 o1)] S none S1 := by
  refine ct_of hl (by decide) (Nat.le_of_ble_eq_true rfl) (fun F hFl hFG hF hN hR hret => ?_)
  subst hFl hFG
  show X F 0 0 [(0, .ref (gA F 6)), (1, .ref (gA F o1))] [] S
  have hret : ∀ (v : Unit) (S : St) (pc : Nat) (ls : List (Nat × Value)), (v = r ∧ S = S1) → decode cX1_restore pc = .ok (.return_, 1) → X F 0 pc ls [] S := fun v S2 pc ls hq hd => by obtain ⟨rfl, rfl⟩ := hq; exact hret.2.2.2.2.1 pc ls rfl rfl hd
  have hk : r = r ∧ S1 = S1 := ⟨rfl, rfl⟩
  unfold X1_restore at h
  refine x_aload_n hF dX1_restore_0 rfl rfl ?_
  refine x_aload_n hF dX1_restore_1 rfl rfl ?_
  refine x_getr hF sh6 0 rfl ck0 (by decide) (by decide) tw_154 rfl dX1_restore_2 ?_
  refine x_aload_n hF dX1_restore_5 rfl rfl ?_
  refine x_geti hF sh6 2 rfl ck0 (by decide) (by decide) tw_157 rfl dX1_restore_6 ?_
  obtain ⟨hg9, h⟩ := og_some h
  refine x_aaldR hF sh7 (by decide) hg9 dX1_restore_9 ?_
  obtain ⟨r1, S2, hcall, h⟩ := ob_some h
  refine x_cVv hF hN hR (ctX4_copyFrom io1 (isRecording_st hg9) hF.tr hcall) mwX4_copyFrom miX4_copyFrom (shRecording_0 io1) ck3 (ltRecording_0 io1) tw_705 ⟨by decide, by decide⟩ rfl rfl (Nat.le_of_ble_eq_true rfl) dX1_restore_10 ?_
  refine x_aload_n hF dX1_restore_13 rfl rfl ?_
  refine x_aload_n hF dX1_restore_14 rfl rfl ?_
  refine x_geti hF sh6 2 rfl ck0 (by decide) (by decide) tw_157 rfl dX1_restore_15 ?_
  refine x_bipush (v := (8 : Int32)) hF dX1_restore_18 (by decide) ?_
  refine x_iadd hF dX1_restore_20 ?_
  refine x_iconst (v := (1 : Int32)) hF dX1_restore_21 (by decide) ?_
  refine x_isub hF dX1_restore_22 ?_
  refine x_bipush (v := (8 : Int32)) hF dX1_restore_23 (by decide) ?_
  refine x_irem hF dX1_restore_25 (by decide) ?_
  obtain ⟨T3, eT3, h⟩ := ol_some h
  refine x_puti hF sh6 2 rfl ck0 (by decide) (by decide) tw_157 rfl rfl rfl rfl rfl eT3 dX1_restore_26 ?_
  refine x_aload_n hF dX1_restore_29 rfl rfl ?_
  refine x_dup hF dX1_restore_30 rfl ?_
  refine x_geti hF sh6 1 rfl ck0 (by decide) (by decide) tw_155 rfl dX1_restore_31 ?_
  refine x_iconst (v := (1 : Int32)) hF dX1_restore_34 (by decide) ?_
  refine x_isub hF dX1_restore_35 ?_
  obtain ⟨T4, eT4, h⟩ := ol_some h
  refine x_puti hF sh6 1 rfl ck0 (by decide) (by decide) tw_155 rfl rfl rfl rfl rfl eT4 dX1_restore_36 ?_
  obtain ⟨rfl, rfl⟩ := sm h
  exact hret _ _ _ _ hk dX1_restore_39
noncomputable def X7_undo (S : St) : Option ((Int32 ⊕ Nat) × St) :=
  oi ((gi S 6 1) = 0) (some (.inr 2, S)) (ob (X1_restore 1 S) (fun r1 S2 => some (.inl (gi S2 6 1), S2)))
set_option maxHeartbeats 4000000 in
set_option maxRecDepth 20000 in
theorem cxX7_undo {l : Launch} {G : Ga} (hl : l.stackTraces = false) {S : St} {r : (Int32 ⊕ Nat)} {S1 : St} (h : X7_undo  S = some (r, S1)) : CX l G 6 1 yX7_undo cX7_undo 1 (some .int) [.ref (G.1 0)] S (rvI r) S1 := by
  refine cx_of hl (by decide) rfl (by decide) (Nat.le_of_ble_eq_true rfl) (fun F hFl hFG hF hN hR hret => ?_)
  subst hFl hFG
  show X F 0 0 [(0, .ref (gA F 0))] [] S
  have hxt : ∀ (e : Nat) (S : St) (u pc : Nat) (ls : List (Nat × Value)), u ≤ 1 → (.inr e = r ∧ S = S1) → XT F u pc e ls S := fun e S2 u pc ls hu hq => by obtain ⟨rfl, rfl⟩ := hq; exact hret.2.2.1 u pc e ls hu rfl
  have hthr : ∀ {e : Nat} {S : St} {u pc ik is j : Nat} {tx : String} {ls : List (Nat × Value)} {st : List Value}, u + 1 ≤ 1 → e < 3 → (st.map fun v => v.category).sum ≤ 8 → (.inr e = r ∧ S = S1) → Thr cX7_undo pc e ik is j tx ∨ ThrW cX7_undo pc e ik is j tx → X F u pc ls st S := fun {e S2 u pc ik is j tx ls st} hu he hs hq hT => by obtain ⟨rfl, rfl⟩ := hq; exact hret.2.2.2 u pc e ik is j tx ls st hu he hs rfl hT
  have hret : ∀ (v : Int32) (S : St) (u pc : Nat) (ls : List (Nat × Value)), u ≤ 1 → (.inl v = r ∧ S = S1) → decode cX7_undo pc = .ok (.ireturn, 1) → X F u pc ls [.int v] S := fun v S2 u pc ls hu hq hd => by obtain ⟨rfl, rfl⟩ := hq; exact hret.1 u pc ls v hu rfl rfl hd
  have hk : r = r ∧ S1 = S1 := ⟨rfl, rfl⟩
  unfold X7_undo at h
  refine x_aload_n hF dX7_undo_0 rfl rfl ?_
  refine x_getr hF sh0 1 rfl ck6 (by decide) (by decide) tw_293 rfl dX7_undo_1 ?_
  refine x_geti hF sh6 1 rfl ck0 (by decide) (by decide) tw_156 rfl dX7_undo_4 ?_
  refine x_if_ne (tgt := 20) hF dX7_undo_7 (by decide) (fun hc => ?_) (fun hc => ?_)
  · have h := oi_neg hc h
    refine x_aload_n hF dX7_undo_20 rfl rfl ?_
    refine x_getr hF sh0 1 rfl ck6 (by decide) (by decide) tw_293 rfl dX7_undo_21 ?_
    refine x_aload_n hF dX7_undo_24 rfl rfl ?_
    refine x_getr hF sh0 0 rfl ck6 (by decide) (by decide) tw_292 rfl dX7_undo_25 ?_
    obtain ⟨r1, S2, hcall, h⟩ := ob_some h
    refine x_cVv hF hN hR (ctX1_restore (by decide) hF.tr hcall) mwX1_restore miX1_restore sh6 ck0 (by decide) tw_1032 ⟨by decide, by decide⟩ rfl rfl (Nat.le_of_ble_eq_true rfl) dX7_undo_28 ?_
    refine x_aload_n hF dX7_undo_31 rfl rfl ?_
    refine x_getr hF sh0 1 rfl ck6 (by decide) (by decide) tw_293 rfl dX7_undo_32 ?_
    refine x_geti hF sh6 1 rfl ck0 (by decide) (by decide) tw_156 rfl dX7_undo_35 ?_
    obtain ⟨rfl, rfl⟩ := sm h
    exact hret _ _ _ _ _ (by decide) hk dX7_undo_38
  · have h := oi_pos hc h
    obtain ⟨rfl, rfl⟩ := sm h
    exact hthr (e := 2) (j := 15) (by decide) (by decide) (Nat.le_of_ble_eq_true rfl) hk (Or.inl ⟨tw_685, tw_85, rfl, dX7_undo_10, dX7_undo_13, dX7_undo_14, dX7_undo_16, dX7_undo_19⟩)
noncomputable def X7_checksum_20 (x1 : Int64) (x3 : Int32) (S : St) : Option (((Int64 × Int32) ⊕ Int64) × St) :=
  oi ((gi S 1 0) ≤ x3) (some (.inr x1, S)) (og (inb x3 40) (og (inb x3 40) (og (inb x3 40) (some (.inl ((((31 : Int64) * (((31 : Int64) * (((31 : Int64) * x1) + (gi S 2 (ix x3)).toInt64)) + (gi S 3 (ix x3)).toInt64)) + (gi S 4 (ix x3)).toInt64), (x3 + (1 : Int32))), S)))))
set_option maxHeartbeats 4000000 in
set_option maxRecDepth 20000 in
theorem xX7_checksum_20 {F : Cx} (hF : Ok F cX7_checksum RX7) (hN : nLF F 4) (hR : RmF F 7 0) {x1 : Int64} {x3 : Int32} {K : ((Int64 × Int32) ⊕ Int64) → St → Prop} (hag : ∀ (a : Int64 × Int32) (S : St), K (.inl a) S → X F 0 20 [(0, .ref (gA F 0)), (1, .long a.1), (3, .int a.2)] [] S) (hex88 : ∀ (q : Int64) (S : St), K (.inr q) S → X F 0 88 [(0, .ref (gA F 0)), (1, .long q)] [] S) {S : St} {r : (Int64 × Int32) ⊕ Int64} {S1 : St} (h : X7_checksum_20 x1 x3 S = some (r, S1)) (hk : K r S1) : X F 0 20 [(0, .ref (gA F 0)), (1, .long x1), (3, .int x3)] [] S := by
  unfold X7_checksum_20 at h
  refine x_iload_n hF dX7_checksum_20 rfl rfl ?_
  refine x_aload_n hF dX7_checksum_21 rfl rfl ?_
  refine x_getr hF sh0 0 rfl ck6 (by decide) (by decide) tw_292 rfl dX7_checksum_22 ?_
  refine x_geti hF sh1 0 rfl ck3 (by decide) (by decide) tw_120 rfl dX7_checksum_25 ?_
  refine x_icmp_ge (tgt := 88) hF dX7_checksum_28 (by decide) (fun hc => ?_) (fun hc => ?_)
  · have h := oi_pos hc h
    obtain ⟨rfl, rfl⟩ := sm h
    exact x_sub (hex88 _ _ hk) ⟨rfl, rfl, trivial⟩
  · have h := oi_neg hc h
    refine x_ldc2_w (v := (31 : Int64)) hF dX7_checksum_31 tw_577 ?_
    refine x_lload_n hF dX7_checksum_34 rfl rfl ?_
    refine x_lmul hF dX7_checksum_35 ?_
    refine x_aload_n hF dX7_checksum_36 rfl rfl ?_
    refine x_getr hF sh0 0 rfl ck6 (by decide) (by decide) tw_292 rfl dX7_checksum_37 ?_
    refine x_getr hF sh1 1 rfl ck3 (by decide) (by decide) tw_123 rfl dX7_checksum_40 ?_
    refine x_iload_n hF dX7_checksum_43 rfl rfl ?_
    obtain ⟨hg, h⟩ := og_some h
    refine x_iald hF sh2 (by decide) hg rfl dX7_checksum_44 ?_
    refine x_i2l hF dX7_checksum_45 ?_
    refine x_ladd hF dX7_checksum_46 ?_
    refine x_lstore_n [(1, _), (0, _), (3, _)] hF hN dX7_checksum_47 rfl (by decide) rfl ?_
    refine x_ldc2_w (v := (31 : Int64)) hF dX7_checksum_48 tw_577 ?_
    refine x_lload_n hF dX7_checksum_51 rfl rfl ?_
    refine x_lmul hF dX7_checksum_52 ?_
    refine x_aload_n hF dX7_checksum_53 rfl rfl ?_
    refine x_getr hF sh0 0 rfl ck6 (by decide) (by decide) tw_292 rfl dX7_checksum_54 ?_
    refine x_getr hF sh1 2 rfl ck3 (by decide) (by decide) tw_126 rfl dX7_checksum_57 ?_
    refine x_iload_n hF dX7_checksum_60 rfl rfl ?_
    obtain ⟨hg, h⟩ := og_some h
    refine x_iald hF sh3 (by decide) hg rfl dX7_checksum_61 ?_
    refine x_i2l hF dX7_checksum_62 ?_
    refine x_ladd hF dX7_checksum_63 ?_
    refine x_lstore_n [(1, _), (0, _), (3, _)] hF hN dX7_checksum_64 rfl (by decide) rfl ?_
    refine x_ldc2_w (v := (31 : Int64)) hF dX7_checksum_65 tw_577 ?_
    refine x_lload_n hF dX7_checksum_68 rfl rfl ?_
    refine x_lmul hF dX7_checksum_69 ?_
    refine x_aload_n hF dX7_checksum_70 rfl rfl ?_
    refine x_getr hF sh0 0 rfl ck6 (by decide) (by decide) tw_292 rfl dX7_checksum_71 ?_
    refine x_getr hF sh1 3 rfl ck3 (by decide) (by decide) tw_129 rfl dX7_checksum_74 ?_
    refine x_iload_n hF dX7_checksum_77 rfl rfl ?_
    obtain ⟨hg, h⟩ := og_some h
    refine x_iald hF sh4 (by decide) hg rfl dX7_checksum_78 ?_
    refine x_i2l hF dX7_checksum_79 ?_
    refine x_ladd hF dX7_checksum_80 ?_
    refine x_lstore_n [(1, _), (0, _), (3, _)] hF hN dX7_checksum_81 rfl (by decide) rfl ?_
    refine x_iinc [(3, _), (1, _), (0, _)] (v := (1 : Int32)) hF hN dX7_checksum_82 rfl (by decide) (by decide) rfl ?_
    refine x_goto (tgt := 20) hF dX7_checksum_85 (by decide) ?_
    obtain ⟨rfl, rfl⟩ := sm h
    exact x_sub (hag _ _ hk) ⟨rfl, rfl, rfl, trivial⟩
noncomputable def X7_checksum_20L (a : Int64 × Int32) (S : St) : Option (Int64 × St) :=
  lp (fun (a : Int64 × Int32) (S : St) => X7_checksum_20 a.1 a.2 S) a S
theorem xX7_checksum_20L {F : Cx} (hF : Ok F cX7_checksum RX7) (hN : nLF F 4) (hR : RmF F 7 0) {K : Int64 → St → Prop} (hex88 : ∀ (q : Int64) (S : St), K (q) S → X F 0 88 [(0, .ref (gA F 0)), (1, .long q)] [] S) {a : Int64 × Int32} {S : St} {b : Int64} {S1 : St} (h : X7_checksum_20L  a S = some (b, S1)) (hk : K b S1) : X F 0 20 [(0, .ref (gA F 0)), (1, .long a.1), (3, .int a.2)] [] S := by
  unfold X7_checksum_20L at h
  exact lp_rule (Xh := fun (a : Int64 × Int32) (S : St) => X F 0 20 [(0, .ref (gA F 0)), (1, .long a.1), (3, .int a.2)] [] S) (K := K) (fun a S r S1 h hk => xX7_checksum_20 hF hN hR (K := fun r S => match r with | .inl a => X F 0 20 [(0, .ref (gA F 0)), (1, .long a.1), (3, .int a.2)] [] S | .inr b => K b S) (fun _ _ h => h) (fun q S h => hex88 q S h) h (by cases r <;> exact hk)) h hk
noncomputable def X7_checksum_90 (x1 : Int64) (x3 : Int32) (S : St) : Option (((Int64 × Int32) ⊕ Int64) × St) :=
  oi ((14 : Int32) ≤ x3) (some (.inr x1, S)) (og (inb x3 14) (some (.inl ((((31 : Int64) * x1) + (gi S 5 (ix x3)).toInt64), (x3 + (1 : Int32))), S)))
set_option maxHeartbeats 4000000 in
set_option maxRecDepth 20000 in
theorem xX7_checksum_90 {F : Cx} (hF : Ok F cX7_checksum RX7) (hN : nLF F 4) (hR : RmF F 7 0) {x1 : Int64} {x3 : Int32} {K : ((Int64 × Int32) ⊕ Int64) → St → Prop} (hag : ∀ (a : Int64 × Int32) (S : St), K (.inl a) S → X F 0 90 [(0, .ref (gA F 0)), (1, .long a.1), (3, .int a.2)] [] S) (hex119 : ∀ (q : Int64) (S : St), K (.inr q) S → X F 0 119 [(0, .ref (gA F 0)), (1, .long q)] [] S) {S : St} {r : (Int64 × Int32) ⊕ Int64} {S1 : St} (h : X7_checksum_90 x1 x3 S = some (r, S1)) (hk : K r S1) : X F 0 90 [(0, .ref (gA F 0)), (1, .long x1), (3, .int x3)] [] S := by
  unfold X7_checksum_90 at h
  refine x_iload_n hF dX7_checksum_90 rfl rfl ?_
  refine x_bipush (v := (14 : Int32)) hF dX7_checksum_91 (by decide) ?_
  refine x_icmp_ge (tgt := 119) hF dX7_checksum_93 (by decide) (fun hc => ?_) (fun hc => ?_)
  · have h := oi_pos hc h
    obtain ⟨rfl, rfl⟩ := sm h
    exact x_sub (hex119 _ _ hk) ⟨rfl, rfl, trivial⟩
  · have h := oi_neg hc h
    refine x_ldc2_w (v := (31 : Int64)) hF dX7_checksum_96 tw_577 ?_
    refine x_lload_n hF dX7_checksum_99 rfl rfl ?_
    refine x_lmul hF dX7_checksum_100 ?_
    refine x_aload_n hF dX7_checksum_101 rfl rfl ?_
    refine x_getr hF sh0 0 rfl ck6 (by decide) (by decide) tw_292 rfl dX7_checksum_102 ?_
    refine x_getr hF sh1 4 rfl ck3 (by decide) (by decide) tw_132 rfl dX7_checksum_105 ?_
    refine x_iload_n hF dX7_checksum_108 rfl rfl ?_
    obtain ⟨hg, h⟩ := og_some h
    refine x_iald hF sh5 (by decide) hg rfl dX7_checksum_109 ?_
    refine x_i2l hF dX7_checksum_110 ?_
    refine x_ladd hF dX7_checksum_111 ?_
    refine x_lstore_n [(1, _), (0, _), (3, _)] hF hN dX7_checksum_112 rfl (by decide) rfl ?_
    refine x_iinc [(3, _), (1, _), (0, _)] (v := (1 : Int32)) hF hN dX7_checksum_113 rfl (by decide) (by decide) rfl ?_
    refine x_goto (tgt := 90) hF dX7_checksum_116 (by decide) ?_
    obtain ⟨rfl, rfl⟩ := sm h
    exact x_sub (hag _ _ hk) ⟨rfl, rfl, rfl, trivial⟩
noncomputable def X7_checksum_90L (a : Int64 × Int32) (S : St) : Option (Int64 × St) :=
  lp (fun (a : Int64 × Int32) (S : St) => X7_checksum_90 a.1 a.2 S) a S
theorem xX7_checksum_90L {F : Cx} (hF : Ok F cX7_checksum RX7) (hN : nLF F 4) (hR : RmF F 7 0) {K : Int64 → St → Prop} (hex119 : ∀ (q : Int64) (S : St), K (q) S → X F 0 119 [(0, .ref (gA F 0)), (1, .long q)] [] S) {a : Int64 × Int32} {S : St} {b : Int64} {S1 : St} (h : X7_checksum_90L  a S = some (b, S1)) (hk : K b S1) : X F 0 90 [(0, .ref (gA F 0)), (1, .long a.1), (3, .int a.2)] [] S := by
  unfold X7_checksum_90L at h
  exact lp_rule (Xh := fun (a : Int64 × Int32) (S : St) => X F 0 90 [(0, .ref (gA F 0)), (1, .long a.1), (3, .int a.2)] [] S) (K := K) (fun a S r S1 h hk => xX7_checksum_90 hF hN hR (K := fun r S => match r with | .inl a => X F 0 90 [(0, .ref (gA F 0)), (1, .long a.1), (3, .int a.2)] [] S | .inr b => K b S) (fun _ _ h => h) (fun q S h => hex119 q S h) h (by cases r <;> exact hk)) h hk
noncomputable def X7_checksum_121 (x1 : Int64) (x3 : Int32) (S : St) : Option (((Int64 × Int32) ⊕ Int64) × St) :=
  oi ((64 : Int32) ≤ x3) (some (.inr x1, S)) (og (inb x3 64) (some (.inl ((((31 : Int64) * x1) + (gi S 72 (ix x3)).toInt64), (x3 + (1 : Int32))), S)))
set_option maxHeartbeats 4000000 in
set_option maxRecDepth 20000 in
theorem xX7_checksum_121 {F : Cx} (hF : Ok F cX7_checksum RX7) (hN : nLF F 4) (hR : RmF F 7 0) {x1 : Int64} {x3 : Int32} {K : ((Int64 × Int32) ⊕ Int64) → St → Prop} (hag : ∀ (a : Int64 × Int32) (S : St), K (.inl a) S → X F 0 121 [(0, .ref (gA F 0)), (1, .long a.1), (3, .int a.2)] [] S) (hex147 : ∀ (q : Int64) (S : St), K (.inr q) S → X F 0 147 [(0, .ref (gA F 0)), (1, .long q)] [] S) {S : St} {r : (Int64 × Int32) ⊕ Int64} {S1 : St} (h : X7_checksum_121 x1 x3 S = some (r, S1)) (hk : K r S1) : X F 0 121 [(0, .ref (gA F 0)), (1, .long x1), (3, .int x3)] [] S := by
  unfold X7_checksum_121 at h
  refine x_iload_n hF dX7_checksum_121 rfl rfl ?_
  refine x_bipush (v := (64 : Int32)) hF dX7_checksum_122 (by decide) ?_
  refine x_icmp_ge (tgt := 147) hF dX7_checksum_124 (by decide) (fun hc => ?_) (fun hc => ?_)
  · have h := oi_pos hc h
    obtain ⟨rfl, rfl⟩ := sm h
    exact x_sub (hex147 _ _ hk) ⟨rfl, rfl, trivial⟩
  · have h := oi_neg hc h
    refine x_ldc2_w (v := (31 : Int64)) hF dX7_checksum_127 tw_577 ?_
    refine x_lload_n hF dX7_checksum_130 rfl rfl ?_
    refine x_lmul hF dX7_checksum_131 ?_
    refine x_aload_n hF dX7_checksum_132 rfl rfl ?_
    refine x_getr hF sh0 5 rfl ck6 (by decide) (by decide) tw_297 rfl dX7_checksum_133 ?_
    refine x_iload_n hF dX7_checksum_136 rfl rfl ?_
    obtain ⟨hg, h⟩ := og_some h
    refine x_iald hF sh72 (by decide) hg rfl dX7_checksum_137 ?_
    refine x_i2l hF dX7_checksum_138 ?_
    refine x_ladd hF dX7_checksum_139 ?_
    refine x_lstore_n [(1, _), (0, _), (3, _)] hF hN dX7_checksum_140 rfl (by decide) rfl ?_
    refine x_iinc [(3, _), (1, _), (0, _)] (v := (1 : Int32)) hF hN dX7_checksum_141 rfl (by decide) (by decide) rfl ?_
    refine x_goto (tgt := 121) hF dX7_checksum_144 (by decide) ?_
    obtain ⟨rfl, rfl⟩ := sm h
    exact x_sub (hag _ _ hk) ⟨rfl, rfl, rfl, trivial⟩
noncomputable def X7_checksum_121L (a : Int64 × Int32) (S : St) : Option (Int64 × St) :=
  lp (fun (a : Int64 × Int32) (S : St) => X7_checksum_121 a.1 a.2 S) a S
theorem xX7_checksum_121L {F : Cx} (hF : Ok F cX7_checksum RX7) (hN : nLF F 4) (hR : RmF F 7 0) {K : Int64 → St → Prop} (hex147 : ∀ (q : Int64) (S : St), K (q) S → X F 0 147 [(0, .ref (gA F 0)), (1, .long q)] [] S) {a : Int64 × Int32} {S : St} {b : Int64} {S1 : St} (h : X7_checksum_121L  a S = some (b, S1)) (hk : K b S1) : X F 0 121 [(0, .ref (gA F 0)), (1, .long a.1), (3, .int a.2)] [] S := by
  unfold X7_checksum_121L at h
  exact lp_rule (Xh := fun (a : Int64 × Int32) (S : St) => X F 0 121 [(0, .ref (gA F 0)), (1, .long a.1), (3, .int a.2)] [] S) (K := K) (fun a S r S1 h hk => xX7_checksum_121 hF hN hR (K := fun r S => match r with | .inl a => X F 0 121 [(0, .ref (gA F 0)), (1, .long a.1), (3, .int a.2)] [] S | .inr b => K b S) (fun _ _ h => h) (fun q S h => hex147 q S h) h (by cases r <;> exact hk)) h hk
noncomputable def X7_checksum (S : St) : Option (Int64 × St) :=
  ob (X7_fillWorths (-1 : Int32) S) (fun r1 S2 => ob (X7_checksum_20L (((573655 : Int64) + (gi S2 1 0).toInt64), (0 : Int32)) S2) (fun b3 S4 => ob (X7_checksum_90L (b3, (0 : Int32)) S4) (fun b5 S6 => ob (X7_checksum_121L (b5, (0 : Int32)) S6) (fun b7 S8 => some ((((31 : Int64) * (((31 : Int64) * b7) + (gi S8 68 1).toInt64)) + (gi S8 6 1).toInt64), S8)))))
set_option maxHeartbeats 4000000 in
set_option maxRecDepth 20000 in
theorem ctX7_checksum {l : Launch} {G : Ga} (hl : l.stackTraces = false) {S : St} {r : Int64} {S1 : St} (h : X7_checksum  S = some (r, S1)) : CT l G 7 yX7_checksum cX7_checksum 4 (some .long) [.ref (G.1 0)] S (some (.long r)) S1 := by
  refine ct_of hl (by decide) (Nat.le_of_ble_eq_true rfl) (fun F hFl hFG hF hN hR hret => ?_)
  subst hFl hFG
  show X F 0 0 [(0, .ref (gA F 0))] [] S
  have hret : ∀ (v : Int64) (S : St) (pc : Nat) (ls : List (Nat × Value)), (v = r ∧ S = S1) → decode cX7_checksum pc = .ok (.lreturn, 1) → X F 0 pc ls [.long v] S := fun v S2 pc ls hq hd => by obtain ⟨rfl, rfl⟩ := hq; exact hret.2.2.1 pc ls v rfl rfl hd
  have hk : r = r ∧ S1 = S1 := ⟨rfl, rfl⟩
  unfold X7_checksum at h
  refine x_aload_n hF dX7_checksum_0 rfl rfl ?_
  refine x_iconst (v := (-1 : Int32)) hF dX7_checksum_1 (by decide) ?_
  obtain ⟨r1, S2, hcall, h⟩ := ob_some h
  refine x_cVv hF hN hR (ctX7_fillWorths hF.tr hcall) mwX7_fillWorths miX7_fillWorths sh0 ck6 (by decide) tw_564 ⟨by decide, by decide⟩ rfl rfl (Nat.le_of_ble_eq_true rfl) dX7_checksum_2 ?_
  refine x_ldc2_w (v := (573655 : Int64)) hF dX7_checksum_5 tw_576 ?_
  refine x_aload_n hF dX7_checksum_8 rfl rfl ?_
  refine x_getr hF sh0 0 rfl ck6 (by decide) (by decide) tw_292 rfl dX7_checksum_9 ?_
  refine x_geti hF sh1 0 rfl ck3 (by decide) (by decide) tw_120 rfl dX7_checksum_12 ?_
  refine x_i2l hF dX7_checksum_15 ?_
  refine x_ladd hF dX7_checksum_16 ?_
  refine x_lstore_n [(1, _), (0, _)] hF hN dX7_checksum_17 rfl (by decide) rfl ?_
  refine x_iconst (v := (0 : Int32)) hF dX7_checksum_18 (by decide) ?_
  refine x_istore_n [(3, _), (1, _), (0, _)] hF hN dX7_checksum_19 rfl (by decide) rfl ?_
  obtain ⟨b3, S4, hlb3, h⟩ := ob_some h
  refine x_sub (xX7_checksum_20L hF hN hR (K := fun bb SS => bb = b3 ∧ SS = S4) ?_ hlb3 ⟨rfl, rfl⟩) ⟨rfl, rfl, rfl, trivial⟩
  rintro _ _ ⟨rfl, rfl⟩
  refine x_iconst (v := (0 : Int32)) hF dX7_checksum_88 (by decide) ?_
  refine x_istore_n [(3, _), (0, _), (1, _)] hF hN dX7_checksum_89 rfl (by decide) rfl ?_
  obtain ⟨b5, S6, hlb5, h⟩ := ob_some h
  refine x_sub (xX7_checksum_90L hF hN hR (K := fun bb SS => bb = b5 ∧ SS = S6) ?_ hlb5 ⟨rfl, rfl⟩) ⟨rfl, rfl, rfl, trivial⟩
  rintro _ _ ⟨rfl, rfl⟩
  refine x_iconst (v := (0 : Int32)) hF dX7_checksum_119 (by decide) ?_
  refine x_istore_n [(3, _), (0, _), (1, _)] hF hN dX7_checksum_120 rfl (by decide) rfl ?_
  obtain ⟨b7, S8, hlb7, h⟩ := ob_some h
  refine x_sub (xX7_checksum_121L hF hN hR (K := fun bb SS => bb = b7 ∧ SS = S8) ?_ hlb7 ⟨rfl, rfl⟩) ⟨rfl, rfl, rfl, trivial⟩
  rintro _ _ ⟨rfl, rfl⟩
  refine x_ldc2_w (v := (31 : Int64)) hF dX7_checksum_147 tw_577 ?_
  refine x_lload_n hF dX7_checksum_150 rfl rfl ?_
  refine x_lmul hF dX7_checksum_151 ?_
  refine x_aload_n hF dX7_checksum_152 rfl rfl ?_
  refine x_getr hF sh0 4 rfl ck6 (by decide) (by decide) tw_296 rfl dX7_checksum_153 ?_
  refine x_geti hF sh68 1 rfl ck5 (by decide) (by decide) tw_274 rfl dX7_checksum_156 ?_
  refine x_i2l hF dX7_checksum_159 ?_
  refine x_ladd hF dX7_checksum_160 ?_
  refine x_lstore_n [(1, _), (0, _)] hF hN dX7_checksum_161 rfl (by decide) rfl ?_
  refine x_ldc2_w (v := (31 : Int64)) hF dX7_checksum_162 tw_577 ?_
  refine x_lload_n hF dX7_checksum_165 rfl rfl ?_
  refine x_lmul hF dX7_checksum_166 ?_
  refine x_aload_n hF dX7_checksum_167 rfl rfl ?_
  refine x_getr hF sh0 1 rfl ck6 (by decide) (by decide) tw_293 rfl dX7_checksum_168 ?_
  refine x_geti hF sh6 1 rfl ck0 (by decide) (by decide) tw_156 rfl dX7_checksum_171 ?_
  refine x_i2l hF dX7_checksum_174 ?_
  refine x_ladd hF dX7_checksum_175 ?_
  obtain ⟨rfl, rfl⟩ := sm h
  exact hret _ _ _ _ hk dX7_checksum_176
