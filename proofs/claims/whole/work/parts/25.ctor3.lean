def RrX4_init (G : Ga) (e0 : va_E) (nw : va_W) : Prop := ∃ q : Nat → Nat, e0 = .inr (3, [.int 0, .ref (q 1), .ref (q 2), .ref (q 3), .ref (q 4)]) ∧ nw = [((q 1), .inl (G.2.2.1 0, 40, .inl (fun _ => 0))), ((q 2), .inl (G.2.2.1 0, 40, .inl (fun _ => 0))), ((q 3), .inl (G.2.2.1 0, 40, .inl (fun _ => 0))), ((q 4), .inl (G.2.2.1 0, 14, .inl (iniF)))]
set_option maxHeartbeats 16000000 in
set_option maxRecDepth 100000 in
theorem ciX4_init {l : Launch} {G : Ga} {h0 : Nat} (hl : l.stackTraces = false) : CI l G 1 4 134 yX4_init cX4_init 1 [] h0 3 [.int 0, .null, .null, .null, .null] (RrX4_init G) := by
  refine ci_of hl (by decide) rfl (Nat.le_of_ble_eq_true rfl) (fun F hFl hFG hF hI hN hR hret => ?_)
  subst hFl hFG
  show Y F 0 0 0 [(0, .ref h0)] [] [(h0, .inr (3, [.int 0, .null, .null, .null, .null]))]
  refine y_aload_n hF dX4_init_0 rfl rfl ?_
  refine y_objInit hF hR tw_108 (by decide) (Nat.le_of_ble_eq_true rfl) dX4_init_1 ?_
  refine y_aload_n hF dX4_init_4 rfl rfl ?_
  refine y_bipush (v := (40 : Int32)) hF dX4_init_5 (by decide) ?_
  refine y_newi (N := 40) hF hR (by decide) (by decide) (by decide) (by decide) (by decide) dX4_init_7 (fun p1 => ?_)
  show Y F _ _ _ _ _ [(_, .inr (_, [_, _, _, _, _])), _]
  refine y_putF (q0 := 0) (tj := .array .int) hF hI rfl 1 ck3 (by decide) tw_121 rfl rfl rfl rfl rfl rfl (Nat.le_of_ble_eq_true rfl) dX4_init_9 ?_
  show Y F _ _ _ _ _ [(_, .inr (_, [_, _, _, _, _])), _]
  refine y_aload_n hF dX4_init_12 rfl rfl ?_
  refine y_bipush (v := (40 : Int32)) hF dX4_init_13 (by decide) ?_
  refine y_newi (N := 40) hF hR (by decide) (by decide) (by decide) (by decide) (by decide) dX4_init_15 (fun p2 => ?_)
  show Y F _ _ _ _ _ [(_, .inr (_, [_, _, _, _, _])), _, _]
  refine y_putF (q0 := 0) (tj := .array .int) hF hI rfl 2 ck3 (by decide) tw_124 rfl rfl rfl rfl rfl rfl (Nat.le_of_ble_eq_true rfl) dX4_init_17 ?_
  show Y F _ _ _ _ _ [(_, .inr (_, [_, _, _, _, _])), _, _]
  refine y_aload_n hF dX4_init_20 rfl rfl ?_
  refine y_bipush (v := (40 : Int32)) hF dX4_init_21 (by decide) ?_
  refine y_newi (N := 40) hF hR (by decide) (by decide) (by decide) (by decide) (by decide) dX4_init_23 (fun p3 => ?_)
  show Y F _ _ _ _ _ [(_, .inr (_, [_, _, _, _, _])), _, _, _]
  refine y_putF (q0 := 0) (tj := .array .int) hF hI rfl 3 ck3 (by decide) tw_127 rfl rfl rfl rfl rfl rfl (Nat.le_of_ble_eq_true rfl) dX4_init_25 ?_
  show Y F _ _ _ _ _ [(_, .inr (_, [_, _, _, _, _])), _, _, _]
  refine y_aload_n hF dX4_init_28 rfl rfl ?_
  refine y_gets (v := .ref (gS F 3)) hF (List.mem_of_getElem? (i := 3) rfl) (List.mem_of_getElem? (i := 0) rfl) dX4_init_29 ?_
  refine y_clone hF hR tw_111 (by decide) (Nat.le_of_ble_eq_true rfl) (by decide) (by decide) dX4_init_32 (fun p4 => ?_)
  show Y F _ _ _ _ _ [(_, .inr (_, [_, _, _, _, _])), _, _, _, _]
  refine y_cast (q0 := 4) hF rfl tw_117 dX4_init_35 ?_
  refine y_putF (q0 := 0) (tj := .array .int) hF hI rfl 4 ck3 (by decide) tw_130 rfl rfl rfl rfl rfl rfl (Nat.le_of_ble_eq_true rfl) dX4_init_38 ?_
  show Y F _ _ _ _ _ [(_, .inr (_, [_, _, _, _, _])), _, _, _, _]
  exact hret _ _ _ _ _ _ (by decide) (by decide) ⟨fun k => [p1, p2, p3, p4].getD (k - 1) 0, rfl, rfl⟩ dX4_init_41
def RrX3_init (G : Ga) (e0 : va_E) (nw : va_W) : Prop := ∃ q : Nat → Nat, e0 = .inr (2, [.int 0, .int 0, .ref (q 1), .int 0, .ref (q 2), .int 0, .int 0, .ref (q 3), .ref (q 4)]) ∧ nw = [((q 1), .inl (G.2.2.1 0, 40, .inl (fun _ => 0))), ((q 2), .inl (G.2.2.1 0, 40, .inl (fun _ => 0))), ((q 3), .inl (G.2.2.1 0, 40, .inl (fun _ => 0))), ((q 4), .inl (G.2.2.1 0, 40, .inl (fun _ => 0)))]
set_option maxHeartbeats 16000000 in
set_option maxRecDepth 100000 in
theorem ciX3_init {l : Launch} {G : Ga} {h0 : Nat} (hl : l.stackTraces = false) : CI l G 1 4 160 yX3_init cX3_init 1 [] h0 2 [.int 0, .int 0, .null, .int 0, .null, .int 0, .int 0, .null, .null] (RrX3_init G) := by
  refine ci_of hl (by decide) rfl (Nat.le_of_ble_eq_true rfl) (fun F hFl hFG hF hI hN hR hret => ?_)
  subst hFl hFG
  show Y F 0 0 0 [(0, .ref h0)] [] [(h0, .inr (2, [.int 0, .int 0, .null, .int 0, .null, .int 0, .int 0, .null, .null]))]
  refine y_aload_n hF dX3_init_0 rfl rfl ?_
  refine y_objInit hF hR tw_176 (by decide) (Nat.le_of_ble_eq_true rfl) dX3_init_1 ?_
  refine y_aload_n hF dX3_init_4 rfl rfl ?_
  refine y_bipush (v := (40 : Int32)) hF dX3_init_5 (by decide) ?_
  refine y_newi (N := 40) hF hR (by decide) (by decide) (by decide) (by decide) (by decide) dX3_init_7 (fun p1 => ?_)
  show Y F _ _ _ _ _ [(_, .inr (_, [_, _, _, _, _, _, _, _, _])), _]
  refine y_putF (q0 := 0) (tj := .array .int) hF hI rfl 2 ck2 (by decide) tw_179 rfl rfl rfl rfl rfl rfl (Nat.le_of_ble_eq_true rfl) dX3_init_9 ?_
  show Y F _ _ _ _ _ [(_, .inr (_, [_, _, _, _, _, _, _, _, _])), _]
  refine y_aload_n hF dX3_init_12 rfl rfl ?_
  refine y_bipush (v := (40 : Int32)) hF dX3_init_13 (by decide) ?_
  refine y_newi (N := 40) hF hR (by decide) (by decide) (by decide) (by decide) (by decide) dX3_init_15 (fun p2 => ?_)
  show Y F _ _ _ _ _ [(_, .inr (_, [_, _, _, _, _, _, _, _, _])), _, _]
  refine y_putF (q0 := 0) (tj := .array .int) hF hI rfl 4 ck2 (by decide) tw_183 rfl rfl rfl rfl rfl rfl (Nat.le_of_ble_eq_true rfl) dX3_init_17 ?_
  show Y F _ _ _ _ _ [(_, .inr (_, [_, _, _, _, _, _, _, _, _])), _, _]
  refine y_aload_n hF dX3_init_20 rfl rfl ?_
  refine y_bipush (v := (40 : Int32)) hF dX3_init_21 (by decide) ?_
  refine y_newi (N := 40) hF hR (by decide) (by decide) (by decide) (by decide) (by decide) dX3_init_23 (fun p3 => ?_)
  show Y F _ _ _ _ _ [(_, .inr (_, [_, _, _, _, _, _, _, _, _])), _, _, _]
  refine y_putF (q0 := 0) (tj := .array .int) hF hI rfl 7 ck2 (by decide) tw_186 rfl rfl rfl rfl rfl rfl (Nat.le_of_ble_eq_true rfl) dX3_init_25 ?_
  show Y F _ _ _ _ _ [(_, .inr (_, [_, _, _, _, _, _, _, _, _])), _, _, _]
  refine y_aload_n hF dX3_init_28 rfl rfl ?_
  refine y_bipush (v := (40 : Int32)) hF dX3_init_29 (by decide) ?_
  refine y_newi (N := 40) hF hR (by decide) (by decide) (by decide) (by decide) (by decide) dX3_init_31 (fun p4 => ?_)
  show Y F _ _ _ _ _ [(_, .inr (_, [_, _, _, _, _, _, _, _, _])), _, _, _, _]
  refine y_putF (q0 := 0) (tj := .array .int) hF hI rfl 8 ck2 (by decide) tw_187 rfl rfl rfl rfl rfl rfl (Nat.le_of_ble_eq_true rfl) dX3_init_33 ?_
  show Y F _ _ _ _ _ [(_, .inr (_, [_, _, _, _, _, _, _, _, _])), _, _, _, _]
  exact hret _ _ _ _ _ _ (by decide) (by decide) ⟨fun k => [p1, p2, p3, p4].getD (k - 1) 0, rfl, rfl⟩ dX3_init_36
def RrX2_init (G : Ga) (e0 : va_E) (nw : va_W) : Prop := ∃ q : Nat → Nat, e0 = .inr (1, [.int 0, .ref (q 1), .ref (q 2), .int 0, .int 0]) ∧ nw = [((q 1), .inl (G.2.2.1 0, 40, .inl (fun _ => 0))), ((q 2), .inl (G.2.2.1 0, 40, .inl (fun _ => 0)))]
set_option maxHeartbeats 16000000 in
set_option maxRecDepth 100000 in
theorem ciX2_init {l : Launch} {G : Ga} {h0 : Nat} (hl : l.stackTraces = false) : CI l G 1 2 80 yX2_init cX2_init 1 [] h0 1 [.int 0, .null, .null, .int 0, .int 0] (RrX2_init G) := by
  refine ci_of hl (by decide) rfl (Nat.le_of_ble_eq_true rfl) (fun F hFl hFG hF hI hN hR hret => ?_)
  subst hFl hFG
  show Y F 0 0 0 [(0, .ref h0)] [] [(h0, .inr (1, [.int 0, .null, .null, .int 0, .int 0]))]
  refine y_aload_n hF dX2_init_0 rfl rfl ?_
  refine y_objInit hF hR tw_212 (by decide) (Nat.le_of_ble_eq_true rfl) dX2_init_1 ?_
  refine y_aload_n hF dX2_init_4 rfl rfl ?_
  refine y_bipush (v := (40 : Int32)) hF dX2_init_5 (by decide) ?_
  refine y_newi (N := 40) hF hR (by decide) (by decide) (by decide) (by decide) (by decide) dX2_init_7 (fun p1 => ?_)
  show Y F _ _ _ _ _ [(_, .inr (_, [_, _, _, _, _])), _]
  refine y_putF (q0 := 0) (tj := .array .int) hF hI rfl 1 ck1 (by decide) tw_215 rfl rfl rfl rfl rfl rfl (Nat.le_of_ble_eq_true rfl) dX2_init_9 ?_
  show Y F _ _ _ _ _ [(_, .inr (_, [_, _, _, _, _])), _]
  refine y_aload_n hF dX2_init_12 rfl rfl ?_
  refine y_bipush (v := (40 : Int32)) hF dX2_init_13 (by decide) ?_
  refine y_newi (N := 40) hF hR (by decide) (by decide) (by decide) (by decide) (by decide) dX2_init_15 (fun p2 => ?_)
  show Y F _ _ _ _ _ [(_, .inr (_, [_, _, _, _, _])), _, _]
  refine y_putF (q0 := 0) (tj := .array .int) hF hI rfl 2 ck1 (by decide) tw_217 rfl rfl rfl rfl rfl rfl (Nat.le_of_ble_eq_true rfl) dX2_init_17 ?_
  show Y F _ _ _ _ _ [(_, .inr (_, [_, _, _, _, _])), _, _]
  exact hret _ _ _ _ _ _ (by decide) (by decide) ⟨fun k => [p1, p2].getD (k - 1) 0, rfl, rfl⟩ dX2_init_20
def RrX6_init (G : Ga) (e0 : va_E) (nw : va_W) : Prop := ∃ q : Nat → Nat, e0 = .inr (5, [.ref (q 69), .int 0, .ref (q 70), .ref (q 71), .int 0]) ∧ nw = [((q 69), .inl (G.2.2.1 0, 120, .inl (fun _ => 0))), ((q 70), .inl (G.2.2.1 3, 120, .inr (.inr (.inr (.inr (fun _ => none)))))), ((q 71), .inl (G.2.2.1 0, 360, .inl (fun _ => 0)))]
set_option maxHeartbeats 16000000 in
set_option maxRecDepth 100000 in
theorem ciX6_init {l : Launch} {G : Ga} {h0 : Nat} (hl : l.stackTraces = false) : CI l G 1 3 600 yX6_init cX6_init 1 [] h0 5 [.null, .int 0, .null, .null, .int 0] (RrX6_init G) := by
  refine ci_of hl (by decide) rfl (Nat.le_of_ble_eq_true rfl) (fun F hFl hFG hF hI hN hR hret => ?_)
  subst hFl hFG
  show Y F 0 0 0 [(0, .ref h0)] [] [(h0, .inr (5, [.null, .int 0, .null, .null, .int 0]))]
  refine y_aload_n hF dX6_init_0 rfl rfl ?_
  refine y_objInit hF hR tw_269 (by decide) (Nat.le_of_ble_eq_true rfl) dX6_init_1 ?_
  refine y_aload_n hF dX6_init_4 rfl rfl ?_
  refine y_bipush (v := (120 : Int32)) hF dX6_init_5 (by decide) ?_
  refine y_newi (N := 120) hF hR (by decide) (by decide) (by decide) (by decide) (by decide) dX6_init_7 (fun p1 => ?_)
  show Y F _ _ _ _ _ [(_, .inr (_, [_, _, _, _, _])), _]
  refine y_putF (q0 := 0) (tj := .array .int) hF hI rfl 0 ck5 (by decide) tw_272 rfl rfl rfl rfl rfl rfl (Nat.le_of_ble_eq_true rfl) dX6_init_9 ?_
  show Y F _ _ _ _ _ [(_, .inr (_, [_, _, _, _, _])), _]
  refine y_aload_n hF dX6_init_12 rfl rfl ?_
  refine y_bipush (v := (120 : Int32)) hF dX6_init_13 (by decide) ?_
  refine y_newq (t := 3) (N := 120) hF hR (Or.inr ⟨rfl, rfl⟩) tw_270 (by decide) (by decide) (by decide) (by decide) (by decide) dX6_init_15 (fun p2 => ?_)
  show Y F _ _ _ _ _ [(_, .inr (_, [_, _, _, _, _])), _, _]
  refine y_putF (q0 := 0) (tj := .array (.object "QueueBlame$Command")) hF hI rfl 2 ck5 (by decide) tw_275 rfl rfl rfl rfl rfl rfl (Nat.le_of_ble_eq_true rfl) dX6_init_18 ?_
  show Y F _ _ _ _ _ [(_, .inr (_, [_, _, _, _, _])), _, _]
  refine y_aload_n hF dX6_init_21 rfl rfl ?_
  refine y_sipush (v := (360 : Int32)) hF dX6_init_22 (by decide) ?_
  refine y_newi (N := 360) hF hR (by decide) (by decide) (by decide) (by decide) (by decide) dX6_init_25 (fun p3 => ?_)
  show Y F _ _ _ _ _ [(_, .inr (_, [_, _, _, _, _])), _, _, _]
  refine y_putF (q0 := 0) (tj := .array .int) hF hI rfl 3 ck5 (by decide) tw_277 rfl rfl rfl rfl rfl rfl (Nat.le_of_ble_eq_true rfl) dX6_init_27 ?_
  show Y F _ _ _ _ _ [(_, .inr (_, [_, _, _, _, _])), _, _, _]
  exact hret _ _ _ _ _ _ (by decide) (by decide) ⟨fun k => [p1, p2, p3].getD (k - 69) 0, rfl, rfl⟩ dX6_init_30
def RrX5_init (G : Ga) (o1 : Nat) (e0 : va_E) (nw : va_W) : Prop := ∃ q : Nat → Nat, e0 = .inr (4, [.ref o1, .ref (q 1), .ref (q 6), .ref (q 9), .int 0, .int 0, .int 0, .int 0, .int 0]) ∧ nw = [((q 1), .inr (2, [.int 0, .int 0, .ref (q 2), .int 0, .ref (q 3), .int 0, .int 0, .ref (q 4), .ref (q 5)])), ((q 2), .inl (G.2.2.1 0, 40, .inl (fun _ => 0))), ((q 3), .inl (G.2.2.1 0, 40, .inl (fun _ => 0))), ((q 4), .inl (G.2.2.1 0, 40, .inl (fun _ => 0))), ((q 5), .inl (G.2.2.1 0, 40, .inl (fun _ => 0))), ((q 6), .inr (1, [.int 0, .ref (q 7), .ref (q 8), .int 0, .int 0])), ((q 7), .inl (G.2.2.1 0, 40, .inl (fun _ => 0))), ((q 8), .inl (G.2.2.1 0, 40, .inl (fun _ => 0))), ((q 9), .inl (G.2.2.1 0, 6, .inl (fun _ => 0)))]
set_option maxHeartbeats 16000000 in
set_option maxRecDepth 100000 in
theorem ciX5_init {l : Launch} {G : Ga} {h0 o1 : Nat} (hl : l.stackTraces = false) : CI l G 2 9 260 yX5_init cX5_init 2 [.ref o1] h0 4 [.null, .null, .null, .null, .int 0, .int 0, .int 0, .int 0, .int 0] (RrX5_init G o1) := by
  refine ci_of hl (by decide) rfl (Nat.le_of_ble_eq_true rfl) (fun F hFl hFG hF hI hN hR hret => ?_)
  subst hFl hFG
  show Y F 0 0 0 [(0, .ref h0), (1, .ref o1)] [] [(h0, .inr (4, [.null, .null, .null, .null, .int 0, .int 0, .int 0, .int 0, .int 0]))]
  refine y_aload_n hF dX5_init_0 rfl rfl ?_
  refine y_objInit hF hR tw_170 (by decide) (Nat.le_of_ble_eq_true rfl) dX5_init_1 ?_
  refine y_aload_n hF dX5_init_4 rfl rfl ?_
  refine y_new [.int 0, .int 0, .null, .int 0, .null, .int 0, .int 0, .null, .null] hF hR ck2 tw_171 tw_172 tw_76 (fun j hj => by rcases (show j = 0 ∨ j = 1 ∨ j = 2 ∨ j = 3 ∨ j = 4 ∨ j = 5 ∨ j = 6 ∨ j = 7 ∨ j = 8 by omega) with rfl | rfl | rfl | rfl | rfl | rfl | rfl | rfl | rfl <;> rfl) (by decide) (by decide) dX5_init_5 (fun p1 => ?_)
  show Y F _ _ _ _ _ [(_, .inr (_, [_, _, _, _, _, _, _, _, _])), _]
  refine y_dup hF dX5_init_8 rfl ?_
  refine y_call (k0 := 1) hF hN hR (ciX3_init hF.1.tr) mwX3_init tw_174 rfl (Or.inr (List.mem_of_getElem? (i := 2) rfl)) rfl (by decide) (by decide) (by decide) rfl rfl (Nat.le_of_ble_eq_true rfl) dX5_init_9 (fun e0 nw hr => ?_)
  obtain ⟨f2, rfl, rfl⟩ := hr
  show Y F _ _ _ _ _ [(_, .inr (_, [_, _, _, _, _, _, _, _, _])), _, _, _, _, _]
  refine y_putF (q0 := 0) (tj := .object "QueueBlame$Outcome") hF hI rfl 1 ck4 (by decide) tw_235 rfl rfl rfl rfl rfl rfl (Nat.le_of_ble_eq_true rfl) dX5_init_12 ?_
  show Y F _ _ _ _ _ [(_, .inr (_, [_, _, _, _, _, _, _, _, _])), _, _, _, _, _]
  refine y_aload_n hF dX5_init_15 rfl rfl ?_
  refine y_new [.int 0, .null, .null, .int 0, .int 0] hF hR ck1 tw_207 tw_208 tw_77 (fun j hj => by rcases (show j = 0 ∨ j = 1 ∨ j = 2 ∨ j = 3 ∨ j = 4 by omega) with rfl | rfl | rfl | rfl | rfl <;> rfl) (by decide) (by decide) dX5_init_16 (fun p6 => ?_)
  show Y F _ _ _ _ _ [(_, .inr (_, [_, _, _, _, _, _, _, _, _])), _, _, _, _, _, _]
  refine y_dup hF dX5_init_19 rfl ?_
  refine y_call (k0 := 6) hF hN hR (ciX2_init hF.1.tr) mwX2_init tw_210 rfl (Or.inr (List.mem_of_getElem? (i := 3) rfl)) rfl (by decide) (by decide) (by decide) rfl rfl (Nat.le_of_ble_eq_true rfl) dX5_init_20 (fun e0 nw hr => ?_)
  obtain ⟨f7, rfl, rfl⟩ := hr
  show Y F _ _ _ _ _ [(_, .inr (_, [_, _, _, _, _, _, _, _, _])), _, _, _, _, _, _, _, _]
  refine y_putF (q0 := 0) (tj := .object "QueueBlame$Line") hF hI rfl 2 ck4 (by decide) tw_237 rfl rfl rfl rfl rfl rfl (Nat.le_of_ble_eq_true rfl) dX5_init_23 ?_
  show Y F _ _ _ _ _ [(_, .inr (_, [_, _, _, _, _, _, _, _, _])), _, _, _, _, _, _, _, _]
  refine y_aload_n hF dX5_init_26 rfl rfl ?_
  refine y_bipush (v := (6 : Int32)) hF dX5_init_27 (by decide) ?_
  refine y_newi (N := 6) hF hR (by decide) (by decide) (by decide) (by decide) (by decide) dX5_init_29 (fun p9 => ?_)
  show Y F _ _ _ _ _ [(_, .inr (_, [_, _, _, _, _, _, _, _, _])), _, _, _, _, _, _, _, _, _]
  refine y_putF (q0 := 0) (tj := .array .int) hF hI rfl 3 ck4 (by decide) tw_238 rfl rfl rfl rfl rfl rfl (Nat.le_of_ble_eq_true rfl) dX5_init_31 ?_
  show Y F _ _ _ _ _ [(_, .inr (_, [_, _, _, _, _, _, _, _, _])), _, _, _, _, _, _, _, _, _]
  refine y_aload_n hF dX5_init_34 rfl rfl ?_
  refine y_aload_n hF dX5_init_35 rfl rfl ?_
  refine y_putF (q0 := 0) (tj := .object "QueueBlame$Recording") hF hI rfl 0 ck4 (by decide) tw_234 rfl rfl rfl rfl rfl rfl (Nat.le_of_ble_eq_true rfl) dX5_init_36 ?_
  show Y F _ _ _ _ _ [(_, .inr (_, [_, _, _, _, _, _, _, _, _])), _, _, _, _, _, _, _, _, _]
  exact hret _ _ _ _ _ _ (by decide) (by decide) ⟨fun k => [p1, (f2 1), (f2 2), (f2 3), (f2 4), p6, (f7 1), (f7 2), p9].getD (k - 1) 0, rfl, rfl⟩ dX5_init_39
