def RrX1_init (G : Ga) (e0 : va_E) (nw : va_W) : Prop := ∃ q : Nat → Nat, e0 = .inr (0, [.ref (q 7), .int 0, .int 0]) ∧ nw = [((q 7), .inl (G.2.2.1 2, 8, .inr (.inr (.inr (.inr (va_up (va_up (va_up (va_up (va_up (va_up (va_up (va_up (fun _ => none) (ix (0 : Int32)) (some (q 8))) (ix (1 : Int32)) (some (q 13))) (ix (2 : Int32)) (some (q 18))) (ix (3 : Int32)) (some (q 23))) (ix (4 : Int32)) (some (q 28))) (ix (5 : Int32)) (some (q 33))) (ix (6 : Int32)) (some (q 38))) (ix (7 : Int32)) (some (q 43)))))))), ((q 8), .inr (3, [.int 0, .ref (q 9), .ref (q 10), .ref (q 11), .ref (q 12)])), ((q 9), .inl (G.2.2.1 0, 40, .inl (fun _ => 0))), ((q 10), .inl (G.2.2.1 0, 40, .inl (fun _ => 0))), ((q 11), .inl (G.2.2.1 0, 40, .inl (fun _ => 0))), ((q 12), .inl (G.2.2.1 0, 14, .inl (iniF))), ((q 13), .inr (3, [.int 0, .ref (q 14), .ref (q 15), .ref (q 16), .ref (q 17)])), ((q 14), .inl (G.2.2.1 0, 40, .inl (fun _ => 0))), ((q 15), .inl (G.2.2.1 0, 40, .inl (fun _ => 0))), ((q 16), .inl (G.2.2.1 0, 40, .inl (fun _ => 0))), ((q 17), .inl (G.2.2.1 0, 14, .inl (iniF))), ((q 18), .inr (3, [.int 0, .ref (q 19), .ref (q 20), .ref (q 21), .ref (q 22)])), ((q 19), .inl (G.2.2.1 0, 40, .inl (fun _ => 0))), ((q 20), .inl (G.2.2.1 0, 40, .inl (fun _ => 0))), ((q 21), .inl (G.2.2.1 0, 40, .inl (fun _ => 0))), ((q 22), .inl (G.2.2.1 0, 14, .inl (iniF))), ((q 23), .inr (3, [.int 0, .ref (q 24), .ref (q 25), .ref (q 26), .ref (q 27)])), ((q 24), .inl (G.2.2.1 0, 40, .inl (fun _ => 0))), ((q 25), .inl (G.2.2.1 0, 40, .inl (fun _ => 0))), ((q 26), .inl (G.2.2.1 0, 40, .inl (fun _ => 0))), ((q 27), .inl (G.2.2.1 0, 14, .inl (iniF))), ((q 28), .inr (3, [.int 0, .ref (q 29), .ref (q 30), .ref (q 31), .ref (q 32)])), ((q 29), .inl (G.2.2.1 0, 40, .inl (fun _ => 0))), ((q 30), .inl (G.2.2.1 0, 40, .inl (fun _ => 0))), ((q 31), .inl (G.2.2.1 0, 40, .inl (fun _ => 0))), ((q 32), .inl (G.2.2.1 0, 14, .inl (iniF))), ((q 33), .inr (3, [.int 0, .ref (q 34), .ref (q 35), .ref (q 36), .ref (q 37)])), ((q 34), .inl (G.2.2.1 0, 40, .inl (fun _ => 0))), ((q 35), .inl (G.2.2.1 0, 40, .inl (fun _ => 0))), ((q 36), .inl (G.2.2.1 0, 40, .inl (fun _ => 0))), ((q 37), .inl (G.2.2.1 0, 14, .inl (iniF))), ((q 38), .inr (3, [.int 0, .ref (q 39), .ref (q 40), .ref (q 41), .ref (q 42)])), ((q 39), .inl (G.2.2.1 0, 40, .inl (fun _ => 0))), ((q 40), .inl (G.2.2.1 0, 40, .inl (fun _ => 0))), ((q 41), .inl (G.2.2.1 0, 40, .inl (fun _ => 0))), ((q 42), .inl (G.2.2.1 0, 14, .inl (iniF))), ((q 43), .inr (3, [.int 0, .ref (q 44), .ref (q 45), .ref (q 46), .ref (q 47)])), ((q 44), .inl (G.2.2.1 0, 40, .inl (fun _ => 0))), ((q 45), .inl (G.2.2.1 0, 40, .inl (fun _ => 0))), ((q 46), .inl (G.2.2.1 0, 40, .inl (fun _ => 0))), ((q 47), .inl (G.2.2.1 0, 14, .inl (iniF)))]
set_option maxHeartbeats 16000000 in
set_option maxRecDepth 100000 in
theorem ciX1_init {l : Launch} {G : Ga} {h0 : Nat} (hl : l.stackTraces = false) : CI l G 2 41 1120 yX1_init cX1_init 2 [] h0 0 [.null, .int 0, .int 0] (RrX1_init G) := by
  refine ci_of hl (by decide) rfl (Nat.le_of_ble_eq_true rfl) (fun F hFl hFG hF hI hN hR hret => ?_)
  subst hFl hFG
  show Y F 0 0 0 [(0, .ref h0)] [] [(h0, .inr (0, [.null, .int 0, .int 0]))]
  refine y_aload_n hF dX1_init_0 rfl rfl ?_
  refine y_objInit hF hR tw_150 (by decide) (Nat.le_of_ble_eq_true rfl) dX1_init_1 ?_
  refine y_aload_n hF dX1_init_4 rfl rfl ?_
  refine y_bipush (v := (8 : Int32)) hF dX1_init_5 (by decide) ?_
  refine y_newq (t := 2) (N := 8) hF hR (Or.inl ⟨rfl, rfl⟩) tw_151 (by decide) (by decide) (by decide) (by decide) (by decide) dX1_init_7 (fun p1 => ?_)
  show Y F _ _ _ _ _ [(_, .inr (_, [_, _, _])), _]
  refine y_putF (q0 := 0) (tj := .array (.object "QueueBlame$Recording")) hF hI rfl 0 ck0 (by decide) tw_154 rfl rfl rfl rfl rfl rfl (Nat.le_of_ble_eq_true rfl) dX1_init_10 ?_
  show Y F _ _ _ _ _ [(_, .inr (_, [_, _, _])), _]
  refine y_iconst (v := (0 : Int32)) hF dX1_init_13 (by decide) ?_
  refine y_istore_n [(1, _), (0, _)] hF hN dX1_init_14 rfl (by decide) rfl ?_
  refine y_iload_n hF dX1_init_15 rfl rfl ?_
  refine y_bipush (v := (8 : Int32)) hF dX1_init_16 (by decide) ?_
  refine y_icmp_ge (tgt := 40) hF dX1_init_18 (by decide) (fun hc => absurd hc (by decide)) (fun _ => ?_)
  refine y_aload_n hF dX1_init_21 rfl rfl ?_
  refine y_get (q0 := 0) hF rfl 0 ck0 (by decide) tw_154 rfl rfl dX1_init_22 ?_
  refine y_iload_n hF dX1_init_25 rfl rfl ?_
  refine y_new [.int 0, .null, .null, .null, .null] hF hR ck3 tw_151 tw_104 tw_73 (fun j hj => by rcases (show j = 0 ∨ j = 1 ∨ j = 2 ∨ j = 3 ∨ j = 4 by omega) with rfl | rfl | rfl | rfl | rfl <;> rfl) (by decide) (by decide) dX1_init_26 (fun p2 => ?_)
  show Y F _ _ _ _ _ [(_, .inr (_, [_, _, _])), _, _]
  refine y_dup hF dX1_init_29 rfl ?_
  refine y_call (k0 := 2) hF hN hR (ciX4_init hF.1.tr) mwX4_init tw_106 rfl (Or.inr (List.mem_of_getElem? (i := 1) rfl)) rfl (by decide) (by decide) (by decide) rfl rfl (Nat.le_of_ble_eq_true rfl) dX1_init_30 (fun e0 nw hr => ?_)
  obtain ⟨f3, rfl, rfl⟩ := hr
  show Y F _ _ _ _ _ [(_, .inr (_, [_, _, _])), _, _, _, _, _, _]
  refine y_aast (q0 := 1) (qk := 2) hF rfl rfl (by decide) dX1_init_33 ?_
  show Y F _ _ _ _ _ [(_, .inr (_, [_, _, _])), _, _, _, _, _, _]
  refine y_iinc [(1, _), (0, _)] (v := (1 : Int32)) hF hN dX1_init_34 rfl (by decide) (by decide) rfl ?_
  refine y_goto (tgt := 15) hF dX1_init_37 (by decide) ?_
  refine y_iload_n hF dX1_init_15 rfl rfl ?_
  refine y_bipush (v := (8 : Int32)) hF dX1_init_16 (by decide) ?_
  refine y_icmp_ge (tgt := 40) hF dX1_init_18 (by decide) (fun hc => absurd hc (by decide)) (fun _ => ?_)
  refine y_aload_n hF dX1_init_21 rfl rfl ?_
  refine y_get (q0 := 0) hF rfl 0 ck0 (by decide) tw_154 rfl rfl dX1_init_22 ?_
  refine y_iload_n hF dX1_init_25 rfl rfl ?_
  refine y_new [.int 0, .null, .null, .null, .null] hF hR ck3 tw_151 tw_104 tw_73 (fun j hj => by rcases (show j = 0 ∨ j = 1 ∨ j = 2 ∨ j = 3 ∨ j = 4 by omega) with rfl | rfl | rfl | rfl | rfl <;> rfl) (by decide) (by decide) dX1_init_26 (fun p7 => ?_)
  show Y F _ _ _ _ _ [(_, .inr (_, [_, _, _])), _, _, _, _, _, _, _]
  refine y_dup hF dX1_init_29 rfl ?_
  refine y_call (k0 := 7) hF hN hR (ciX4_init hF.1.tr) mwX4_init tw_106 rfl (Or.inr (List.mem_of_getElem? (i := 1) rfl)) rfl (by decide) (by decide) (by decide) rfl rfl (Nat.le_of_ble_eq_true rfl) dX1_init_30 (fun e0 nw hr => ?_)
  obtain ⟨f8, rfl, rfl⟩ := hr
  show Y F _ _ _ _ _ [(_, .inr (_, [_, _, _])), _, _, _, _, _, _, _, _, _, _, _]
  refine y_aast (q0 := 1) (qk := 7) hF rfl rfl (by decide) dX1_init_33 ?_
  show Y F _ _ _ _ _ [(_, .inr (_, [_, _, _])), _, _, _, _, _, _, _, _, _, _, _]
  refine y_iinc [(1, _), (0, _)] (v := (2 : Int32)) hF hN dX1_init_34 rfl (by decide) (by decide) rfl ?_
  refine y_goto (tgt := 15) hF dX1_init_37 (by decide) ?_
  refine y_iload_n hF dX1_init_15 rfl rfl ?_
  refine y_bipush (v := (8 : Int32)) hF dX1_init_16 (by decide) ?_
  refine y_icmp_ge (tgt := 40) hF dX1_init_18 (by decide) (fun hc => absurd hc (by decide)) (fun _ => ?_)
  refine y_aload_n hF dX1_init_21 rfl rfl ?_
  refine y_get (q0 := 0) hF rfl 0 ck0 (by decide) tw_154 rfl rfl dX1_init_22 ?_
  refine y_iload_n hF dX1_init_25 rfl rfl ?_
  refine y_new [.int 0, .null, .null, .null, .null] hF hR ck3 tw_151 tw_104 tw_73 (fun j hj => by rcases (show j = 0 ∨ j = 1 ∨ j = 2 ∨ j = 3 ∨ j = 4 by omega) with rfl | rfl | rfl | rfl | rfl <;> rfl) (by decide) (by decide) dX1_init_26 (fun p12 => ?_)
  show Y F _ _ _ _ _ [(_, .inr (_, [_, _, _])), _, _, _, _, _, _, _, _, _, _, _, _]
  refine y_dup hF dX1_init_29 rfl ?_
  refine y_call (k0 := 12) hF hN hR (ciX4_init hF.1.tr) mwX4_init tw_106 rfl (Or.inr (List.mem_of_getElem? (i := 1) rfl)) rfl (by decide) (by decide) (by decide) rfl rfl (Nat.le_of_ble_eq_true rfl) dX1_init_30 (fun e0 nw hr => ?_)
  obtain ⟨f13, rfl, rfl⟩ := hr
  show Y F _ _ _ _ _ [(_, .inr (_, [_, _, _])), _, _, _, _, _, _, _, _, _, _, _, _, _, _, _, _]
  refine y_aast (q0 := 1) (qk := 12) hF rfl rfl (by decide) dX1_init_33 ?_
  show Y F _ _ _ _ _ [(_, .inr (_, [_, _, _])), _, _, _, _, _, _, _, _, _, _, _, _, _, _, _, _]
  refine y_iinc [(1, _), (0, _)] (v := (3 : Int32)) hF hN dX1_init_34 rfl (by decide) (by decide) rfl ?_
  refine y_goto (tgt := 15) hF dX1_init_37 (by decide) ?_
  refine y_iload_n hF dX1_init_15 rfl rfl ?_
  refine y_bipush (v := (8 : Int32)) hF dX1_init_16 (by decide) ?_
  refine y_icmp_ge (tgt := 40) hF dX1_init_18 (by decide) (fun hc => absurd hc (by decide)) (fun _ => ?_)
  refine y_aload_n hF dX1_init_21 rfl rfl ?_
  refine y_get (q0 := 0) hF rfl 0 ck0 (by decide) tw_154 rfl rfl dX1_init_22 ?_
  refine y_iload_n hF dX1_init_25 rfl rfl ?_
  refine y_new [.int 0, .null, .null, .null, .null] hF hR ck3 tw_151 tw_104 tw_73 (fun j hj => by rcases (show j = 0 ∨ j = 1 ∨ j = 2 ∨ j = 3 ∨ j = 4 by omega) with rfl | rfl | rfl | rfl | rfl <;> rfl) (by decide) (by decide) dX1_init_26 (fun p17 => ?_)
  show Y F _ _ _ _ _ [(_, .inr (_, [_, _, _])), _, _, _, _, _, _, _, _, _, _, _, _, _, _, _, _, _]
  refine y_dup hF dX1_init_29 rfl ?_
  refine y_call (k0 := 17) hF hN hR (ciX4_init hF.1.tr) mwX4_init tw_106 rfl (Or.inr (List.mem_of_getElem? (i := 1) rfl)) rfl (by decide) (by decide) (by decide) rfl rfl (Nat.le_of_ble_eq_true rfl) dX1_init_30 (fun e0 nw hr => ?_)
  obtain ⟨f18, rfl, rfl⟩ := hr
  show Y F _ _ _ _ _ [(_, .inr (_, [_, _, _])), _, _, _, _, _, _, _, _, _, _, _, _, _, _, _, _, _, _, _, _, _]
  refine y_aast (q0 := 1) (qk := 17) hF rfl rfl (by decide) dX1_init_33 ?_
  show Y F _ _ _ _ _ [(_, .inr (_, [_, _, _])), _, _, _, _, _, _, _, _, _, _, _, _, _, _, _, _, _, _, _, _, _]
  refine y_iinc [(1, _), (0, _)] (v := (4 : Int32)) hF hN dX1_init_34 rfl (by decide) (by decide) rfl ?_
  refine y_goto (tgt := 15) hF dX1_init_37 (by decide) ?_
  refine y_iload_n hF dX1_init_15 rfl rfl ?_
  refine y_bipush (v := (8 : Int32)) hF dX1_init_16 (by decide) ?_
  refine y_icmp_ge (tgt := 40) hF dX1_init_18 (by decide) (fun hc => absurd hc (by decide)) (fun _ => ?_)
  refine y_aload_n hF dX1_init_21 rfl rfl ?_
  refine y_get (q0 := 0) hF rfl 0 ck0 (by decide) tw_154 rfl rfl dX1_init_22 ?_
  refine y_iload_n hF dX1_init_25 rfl rfl ?_
  refine y_new [.int 0, .null, .null, .null, .null] hF hR ck3 tw_151 tw_104 tw_73 (fun j hj => by rcases (show j = 0 ∨ j = 1 ∨ j = 2 ∨ j = 3 ∨ j = 4 by omega) with rfl | rfl | rfl | rfl | rfl <;> rfl) (by decide) (by decide) dX1_init_26 (fun p22 => ?_)
  show Y F _ _ _ _ _ [(_, .inr (_, [_, _, _])), _, _, _, _, _, _, _, _, _, _, _, _, _, _, _, _, _, _, _, _, _, _]
  refine y_dup hF dX1_init_29 rfl ?_
  refine y_call (k0 := 22) hF hN hR (ciX4_init hF.1.tr) mwX4_init tw_106 rfl (Or.inr (List.mem_of_getElem? (i := 1) rfl)) rfl (by decide) (by decide) (by decide) rfl rfl (Nat.le_of_ble_eq_true rfl) dX1_init_30 (fun e0 nw hr => ?_)
  obtain ⟨f23, rfl, rfl⟩ := hr
  show Y F _ _ _ _ _ [(_, .inr (_, [_, _, _])), _, _, _, _, _, _, _, _, _, _, _, _, _, _, _, _, _, _, _, _, _, _, _, _, _, _]
  refine y_aast (q0 := 1) (qk := 22) hF rfl rfl (by decide) dX1_init_33 ?_
  show Y F _ _ _ _ _ [(_, .inr (_, [_, _, _])), _, _, _, _, _, _, _, _, _, _, _, _, _, _, _, _, _, _, _, _, _, _, _, _, _, _]
  refine y_iinc [(1, _), (0, _)] (v := (5 : Int32)) hF hN dX1_init_34 rfl (by decide) (by decide) rfl ?_
  refine y_goto (tgt := 15) hF dX1_init_37 (by decide) ?_
  refine y_iload_n hF dX1_init_15 rfl rfl ?_
  refine y_bipush (v := (8 : Int32)) hF dX1_init_16 (by decide) ?_
  refine y_icmp_ge (tgt := 40) hF dX1_init_18 (by decide) (fun hc => absurd hc (by decide)) (fun _ => ?_)
  refine y_aload_n hF dX1_init_21 rfl rfl ?_
  refine y_get (q0 := 0) hF rfl 0 ck0 (by decide) tw_154 rfl rfl dX1_init_22 ?_
  refine y_iload_n hF dX1_init_25 rfl rfl ?_
  refine y_new [.int 0, .null, .null, .null, .null] hF hR ck3 tw_151 tw_104 tw_73 (fun j hj => by rcases (show j = 0 ∨ j = 1 ∨ j = 2 ∨ j = 3 ∨ j = 4 by omega) with rfl | rfl | rfl | rfl | rfl <;> rfl) (by decide) (by decide) dX1_init_26 (fun p27 => ?_)
  show Y F _ _ _ _ _ [(_, .inr (_, [_, _, _])), _, _, _, _, _, _, _, _, _, _, _, _, _, _, _, _, _, _, _, _, _, _, _, _, _, _, _]
  refine y_dup hF dX1_init_29 rfl ?_
  refine y_call (k0 := 27) hF hN hR (ciX4_init hF.1.tr) mwX4_init tw_106 rfl (Or.inr (List.mem_of_getElem? (i := 1) rfl)) rfl (by decide) (by decide) (by decide) rfl rfl (Nat.le_of_ble_eq_true rfl) dX1_init_30 (fun e0 nw hr => ?_)
  obtain ⟨f28, rfl, rfl⟩ := hr
  show Y F _ _ _ _ _ [(_, .inr (_, [_, _, _])), _, _, _, _, _, _, _, _, _, _, _, _, _, _, _, _, _, _, _, _, _, _, _, _, _, _, _, _, _, _, _]
  refine y_aast (q0 := 1) (qk := 27) hF rfl rfl (by decide) dX1_init_33 ?_
  show Y F _ _ _ _ _ [(_, .inr (_, [_, _, _])), _, _, _, _, _, _, _, _, _, _, _, _, _, _, _, _, _, _, _, _, _, _, _, _, _, _, _, _, _, _, _]
  refine y_iinc [(1, _), (0, _)] (v := (6 : Int32)) hF hN dX1_init_34 rfl (by decide) (by decide) rfl ?_
  refine y_goto (tgt := 15) hF dX1_init_37 (by decide) ?_
  refine y_iload_n hF dX1_init_15 rfl rfl ?_
  refine y_bipush (v := (8 : Int32)) hF dX1_init_16 (by decide) ?_
  refine y_icmp_ge (tgt := 40) hF dX1_init_18 (by decide) (fun hc => absurd hc (by decide)) (fun _ => ?_)
  refine y_aload_n hF dX1_init_21 rfl rfl ?_
  refine y_get (q0 := 0) hF rfl 0 ck0 (by decide) tw_154 rfl rfl dX1_init_22 ?_
  refine y_iload_n hF dX1_init_25 rfl rfl ?_
  refine y_new [.int 0, .null, .null, .null, .null] hF hR ck3 tw_151 tw_104 tw_73 (fun j hj => by rcases (show j = 0 ∨ j = 1 ∨ j = 2 ∨ j = 3 ∨ j = 4 by omega) with rfl | rfl | rfl | rfl | rfl <;> rfl) (by decide) (by decide) dX1_init_26 (fun p32 => ?_)
  show Y F _ _ _ _ _ [(_, .inr (_, [_, _, _])), _, _, _, _, _, _, _, _, _, _, _, _, _, _, _, _, _, _, _, _, _, _, _, _, _, _, _, _, _, _, _, _]
  refine y_dup hF dX1_init_29 rfl ?_
  refine y_call (k0 := 32) hF hN hR (ciX4_init hF.1.tr) mwX4_init tw_106 rfl (Or.inr (List.mem_of_getElem? (i := 1) rfl)) rfl (by decide) (by decide) (by decide) rfl rfl (Nat.le_of_ble_eq_true rfl) dX1_init_30 (fun e0 nw hr => ?_)
  obtain ⟨f33, rfl, rfl⟩ := hr
  show Y F _ _ _ _ _ [(_, .inr (_, [_, _, _])), _, _, _, _, _, _, _, _, _, _, _, _, _, _, _, _, _, _, _, _, _, _, _, _, _, _, _, _, _, _, _, _, _, _, _, _]
  refine y_aast (q0 := 1) (qk := 32) hF rfl rfl (by decide) dX1_init_33 ?_
  show Y F _ _ _ _ _ [(_, .inr (_, [_, _, _])), _, _, _, _, _, _, _, _, _, _, _, _, _, _, _, _, _, _, _, _, _, _, _, _, _, _, _, _, _, _, _, _, _, _, _, _]
  refine y_iinc [(1, _), (0, _)] (v := (7 : Int32)) hF hN dX1_init_34 rfl (by decide) (by decide) rfl ?_
  refine y_goto (tgt := 15) hF dX1_init_37 (by decide) ?_
  refine y_iload_n hF dX1_init_15 rfl rfl ?_
  refine y_bipush (v := (8 : Int32)) hF dX1_init_16 (by decide) ?_
  refine y_icmp_ge (tgt := 40) hF dX1_init_18 (by decide) (fun hc => absurd hc (by decide)) (fun _ => ?_)
  refine y_aload_n hF dX1_init_21 rfl rfl ?_
  refine y_get (q0 := 0) hF rfl 0 ck0 (by decide) tw_154 rfl rfl dX1_init_22 ?_
  refine y_iload_n hF dX1_init_25 rfl rfl ?_
  refine y_new [.int 0, .null, .null, .null, .null] hF hR ck3 tw_151 tw_104 tw_73 (fun j hj => by rcases (show j = 0 ∨ j = 1 ∨ j = 2 ∨ j = 3 ∨ j = 4 by omega) with rfl | rfl | rfl | rfl | rfl <;> rfl) (by decide) (by decide) dX1_init_26 (fun p37 => ?_)
  show Y F _ _ _ _ _ [(_, .inr (_, [_, _, _])), _, _, _, _, _, _, _, _, _, _, _, _, _, _, _, _, _, _, _, _, _, _, _, _, _, _, _, _, _, _, _, _, _, _, _, _, _]
  refine y_dup hF dX1_init_29 rfl ?_
  refine y_call (k0 := 37) hF hN hR (ciX4_init hF.1.tr) mwX4_init tw_106 rfl (Or.inr (List.mem_of_getElem? (i := 1) rfl)) rfl (by decide) (by decide) (by decide) rfl rfl (Nat.le_of_ble_eq_true rfl) dX1_init_30 (fun e0 nw hr => ?_)
  obtain ⟨f38, rfl, rfl⟩ := hr
  show Y F _ _ _ _ _ [(_, .inr (_, [_, _, _])), _, _, _, _, _, _, _, _, _, _, _, _, _, _, _, _, _, _, _, _, _, _, _, _, _, _, _, _, _, _, _, _, _, _, _, _, _, _, _, _, _]
  refine y_aast (q0 := 1) (qk := 37) hF rfl rfl (by decide) dX1_init_33 ?_
  show Y F _ _ _ _ _ [(_, .inr (_, [_, _, _])), _, _, _, _, _, _, _, _, _, _, _, _, _, _, _, _, _, _, _, _, _, _, _, _, _, _, _, _, _, _, _, _, _, _, _, _, _, _, _, _, _]
  refine y_iinc [(1, _), (0, _)] (v := (8 : Int32)) hF hN dX1_init_34 rfl (by decide) (by decide) rfl ?_
  refine y_goto (tgt := 15) hF dX1_init_37 (by decide) ?_
  refine y_iload_n hF dX1_init_15 rfl rfl ?_
  refine y_bipush (v := (8 : Int32)) hF dX1_init_16 (by decide) ?_
  refine y_icmp_ge (tgt := 40) hF dX1_init_18 (by decide) (fun _ => ?_) (fun hc => absurd (by decide) hc)
  exact hret _ _ _ _ _ _ (by decide) (by decide) ⟨fun k => [p1, p2, (f3 1), (f3 2), (f3 3), (f3 4), p7, (f8 1), (f8 2), (f8 3), (f8 4), p12, (f13 1), (f13 2), (f13 3), (f13 4), p17, (f18 1), (f18 2), (f18 3), (f18 4), p22, (f23 1), (f23 2), (f23 3), (f23 4), p27, (f28 1), (f28 2), (f28 3), (f28 4), p32, (f33 1), (f33 2), (f33 3), (f33 4), p37, (f38 1), (f38 2), (f38 3), (f38 4)].getD (k - 7) 0, rfl, rfl⟩ dX1_init_40
