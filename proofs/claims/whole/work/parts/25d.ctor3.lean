def RrX8_init (G : Ga) (e0 : va_E) (nw : va_W) : Prop := ∃ q : Nat → Nat, e0 = .inr (7, [.ref (q 76), .ref (q 77), .int 0, .int 0, .ref (q 78), .ref (q 79), .int 0, .ref (q 80), .int 0, .ref (q 81), .int 0, .ref (q 82), .int 0, .int 0, .int 0, .int 0, .int 0, .ref (q 83), .int 0, .ref (q 84), .int 0, .ref (q 85), .ref (q 86), .ref (q 87), .long 0, .int 0, .ref (q 88), .int 0, .int 0, .int 0, .ref (q 89)]) ∧ nw = [((q 76), .inl (G.2.2.1 0, 135, .inl (upd (upd (upd (upd (upd (upd (upd (upd (upd (upd (upd (fun _ => 0) (ix (121 : Int32)) (100 : Int32)) (ix (122 : Int32)) (10 : Int32)) (ix (125 : Int32)) (4 : Int32)) (ix (126 : Int32)) (50 : Int32)) (ix (127 : Int32)) (3 : Int32)) (ix ((129 : Int32) + (0 : Int32))) (5 : Int32)) (ix ((129 : Int32) + (1 : Int32))) (5 : Int32)) (ix ((129 : Int32) + (2 : Int32))) (5 : Int32)) (ix ((129 : Int32) + (3 : Int32))) (5 : Int32)) (ix ((129 : Int32) + (4 : Int32))) (5 : Int32)) (ix ((129 : Int32) + (5 : Int32))) (5 : Int32)))), ((q 77), .inl (G.2.2.1 0, 1080, .inl (fun _ => 0))), ((q 78), .inl (G.2.2.1 0, 40, .inl (fun _ => 0))), ((q 79), .inl (G.2.2.1 0, 40, .inl (fun _ => 0))), ((q 80), .inl (G.2.2.1 0, 4700, .inl (fun _ => 0))), ((q 81), .inl (G.2.2.1 0, 41, .inl (fun _ => 0))), ((q 82), .inl (G.2.2.1 0, 40, .inl (fun _ => 0))), ((q 83), .inl (G.2.2.1 0, 40, .inl (fun _ => 0))), ((q 84), .inl (G.2.2.1 0, 40, .inl (fun _ => 0))), ((q 85), .inl (G.2.2.1 0, 4700, .inl (fun _ => 0))), ((q 86), .inl (G.2.2.1 0, 64, .inl (fun _ => 0))), ((q 87), .inl (G.2.2.1 0, 6, .inl (fun _ => 0))), ((q 88), .inl (G.2.2.1 0, 120, .inl (fun _ => 0))), ((q 89), .inl (G.2.2.1 0, 240, .inl (fun _ => 0)))]
set_option maxHeartbeats 16000000 in
set_option maxRecDepth 100000 in
theorem ciX8_init {l : Launch} {G : Ga} {h0 : Nat} (hl : l.stackTraces = false) : CI l G 1 14 11286 yX8_init cX8_init 2 [] h0 7 [.null, .null, .int 0, .int 0, .null, .null, .int 0, .null, .int 0, .null, .int 0, .null, .int 0, .int 0, .int 0, .int 0, .int 0, .null, .int 0, .null, .int 0, .null, .null, .null, .long 0, .int 0, .null, .int 0, .int 0, .int 0, .null] (RrX8_init G) := by
  refine ci_of hl (by decide) rfl (Nat.le_of_ble_eq_true rfl) (fun F hFl hFG hF hI hN hR hret => ?_)
  subst hFl hFG
  show Y F 0 0 0 [(0, .ref h0)] [] [(h0, .inr (7, [.null, .null, .int 0, .int 0, .null, .null, .int 0, .null, .int 0, .null, .int 0, .null, .int 0, .int 0, .int 0, .int 0, .int 0, .null, .int 0, .null, .int 0, .null, .null, .null, .long 0, .int 0, .null, .int 0, .int 0, .int 0, .null]))]
  refine y_aload_n hF dX8_init_0 rfl rfl ?_
  refine y_objInit hF hR tw_1041 (by decide) (Nat.le_of_ble_eq_true rfl) dX8_init_1 ?_
  refine y_aload_n hF dX8_init_4 rfl rfl ?_
  refine y_sipush (v := (135 : Int32)) hF dX8_init_5 (by decide) ?_
  refine y_newi (N := 135) hF hR (by decide) (by decide) (by decide) (by decide) (by decide) dX8_init_8 (fun p1 => ?_)
  show Y F _ _ _ _ _ [(_, .inr (_, [_, _, _, _, _, _, _, _, _, _, _, _, _, _, _, _, _, _, _, _, _, _, _, _, _, _, _, _, _, _, _])), _]
  refine y_putF (q0 := 0) (tj := .array .int) hF hI rfl 0 ck7 (by decide) tw_1042 rfl rfl rfl rfl rfl rfl (Nat.le_of_ble_eq_true rfl) dX8_init_10 ?_
  show Y F _ _ _ _ _ [(_, .inr (_, [_, _, _, _, _, _, _, _, _, _, _, _, _, _, _, _, _, _, _, _, _, _, _, _, _, _, _, _, _, _, _])), _]
  refine y_aload_n hF dX8_init_13 rfl rfl ?_
  refine y_sipush (v := (1080 : Int32)) hF dX8_init_14 (by decide) ?_
  refine y_newi (N := 1080) hF hR (by decide) (by decide) (by decide) (by decide) (by decide) dX8_init_17 (fun p2 => ?_)
  show Y F _ _ _ _ _ [(_, .inr (_, [_, _, _, _, _, _, _, _, _, _, _, _, _, _, _, _, _, _, _, _, _, _, _, _, _, _, _, _, _, _, _])), _, _]
  refine y_putF (q0 := 0) (tj := .array .int) hF hI rfl 1 ck7 (by decide) tw_1043 rfl rfl rfl rfl rfl rfl (Nat.le_of_ble_eq_true rfl) dX8_init_19 ?_
  show Y F _ _ _ _ _ [(_, .inr (_, [_, _, _, _, _, _, _, _, _, _, _, _, _, _, _, _, _, _, _, _, _, _, _, _, _, _, _, _, _, _, _])), _, _]
  refine y_aload_n hF dX8_init_22 rfl rfl ?_
  refine y_bipush (v := (40 : Int32)) hF dX8_init_23 (by decide) ?_
  refine y_newi (N := 40) hF hR (by decide) (by decide) (by decide) (by decide) (by decide) dX8_init_25 (fun p3 => ?_)
  show Y F _ _ _ _ _ [(_, .inr (_, [_, _, _, _, _, _, _, _, _, _, _, _, _, _, _, _, _, _, _, _, _, _, _, _, _, _, _, _, _, _, _])), _, _, _]
  refine y_putF (q0 := 0) (tj := .array .int) hF hI rfl 4 ck7 (by decide) tw_1046 rfl rfl rfl rfl rfl rfl (Nat.le_of_ble_eq_true rfl) dX8_init_27 ?_
  show Y F _ _ _ _ _ [(_, .inr (_, [_, _, _, _, _, _, _, _, _, _, _, _, _, _, _, _, _, _, _, _, _, _, _, _, _, _, _, _, _, _, _])), _, _, _]
  refine y_aload_n hF dX8_init_30 rfl rfl ?_
  refine y_bipush (v := (40 : Int32)) hF dX8_init_31 (by decide) ?_
  refine y_newi (N := 40) hF hR (by decide) (by decide) (by decide) (by decide) (by decide) dX8_init_33 (fun p4 => ?_)
  show Y F _ _ _ _ _ [(_, .inr (_, [_, _, _, _, _, _, _, _, _, _, _, _, _, _, _, _, _, _, _, _, _, _, _, _, _, _, _, _, _, _, _])), _, _, _, _]
  refine y_putF (q0 := 0) (tj := .array .int) hF hI rfl 5 ck7 (by decide) tw_1047 rfl rfl rfl rfl rfl rfl (Nat.le_of_ble_eq_true rfl) dX8_init_35 ?_
  show Y F _ _ _ _ _ [(_, .inr (_, [_, _, _, _, _, _, _, _, _, _, _, _, _, _, _, _, _, _, _, _, _, _, _, _, _, _, _, _, _, _, _])), _, _, _, _]
  refine y_aload_n hF dX8_init_38 rfl rfl ?_
  refine y_sipush (v := (4700 : Int32)) hF dX8_init_39 (by decide) ?_
  refine y_newi (N := 4700) hF hR (by decide) (by decide) (by decide) (by decide) (by decide) dX8_init_42 (fun p5 => ?_)
  show Y F _ _ _ _ _ [(_, .inr (_, [_, _, _, _, _, _, _, _, _, _, _, _, _, _, _, _, _, _, _, _, _, _, _, _, _, _, _, _, _, _, _])), _, _, _, _, _]
  refine y_putF (q0 := 0) (tj := .array .int) hF hI rfl 7 ck7 (by decide) tw_1049 rfl rfl rfl rfl rfl rfl (Nat.le_of_ble_eq_true rfl) dX8_init_44 ?_
  show Y F _ _ _ _ _ [(_, .inr (_, [_, _, _, _, _, _, _, _, _, _, _, _, _, _, _, _, _, _, _, _, _, _, _, _, _, _, _, _, _, _, _])), _, _, _, _, _]
  refine y_aload_n hF dX8_init_47 rfl rfl ?_
  refine y_bipush (v := (41 : Int32)) hF dX8_init_48 (by decide) ?_
  refine y_newi (N := 41) hF hR (by decide) (by decide) (by decide) (by decide) (by decide) dX8_init_50 (fun p6 => ?_)
  show Y F _ _ _ _ _ [(_, .inr (_, [_, _, _, _, _, _, _, _, _, _, _, _, _, _, _, _, _, _, _, _, _, _, _, _, _, _, _, _, _, _, _])), _, _, _, _, _, _]
  refine y_putF (q0 := 0) (tj := .array .int) hF hI rfl 9 ck7 (by decide) tw_1051 rfl rfl rfl rfl rfl rfl (Nat.le_of_ble_eq_true rfl) dX8_init_52 ?_
  show Y F _ _ _ _ _ [(_, .inr (_, [_, _, _, _, _, _, _, _, _, _, _, _, _, _, _, _, _, _, _, _, _, _, _, _, _, _, _, _, _, _, _])), _, _, _, _, _, _]
  refine y_aload_n hF dX8_init_55 rfl rfl ?_
  refine y_bipush (v := (40 : Int32)) hF dX8_init_56 (by decide) ?_
  refine y_newi (N := 40) hF hR (by decide) (by decide) (by decide) (by decide) (by decide) dX8_init_58 (fun p7 => ?_)
  show Y F _ _ _ _ _ [(_, .inr (_, [_, _, _, _, _, _, _, _, _, _, _, _, _, _, _, _, _, _, _, _, _, _, _, _, _, _, _, _, _, _, _])), _, _, _, _, _, _, _]
  refine y_putF (q0 := 0) (tj := .array .int) hF hI rfl 11 ck7 (by decide) tw_1053 rfl rfl rfl rfl rfl rfl (Nat.le_of_ble_eq_true rfl) dX8_init_60 ?_
  show Y F _ _ _ _ _ [(_, .inr (_, [_, _, _, _, _, _, _, _, _, _, _, _, _, _, _, _, _, _, _, _, _, _, _, _, _, _, _, _, _, _, _])), _, _, _, _, _, _, _]
  refine y_aload_n hF dX8_init_63 rfl rfl ?_
  refine y_bipush (v := (40 : Int32)) hF dX8_init_64 (by decide) ?_
  refine y_newi (N := 40) hF hR (by decide) (by decide) (by decide) (by decide) (by decide) dX8_init_66 (fun p8 => ?_)
  show Y F _ _ _ _ _ [(_, .inr (_, [_, _, _, _, _, _, _, _, _, _, _, _, _, _, _, _, _, _, _, _, _, _, _, _, _, _, _, _, _, _, _])), _, _, _, _, _, _, _, _]
  refine y_putF (q0 := 0) (tj := .array .int) hF hI rfl 17 ck7 (by decide) tw_1059 rfl rfl rfl rfl rfl rfl (Nat.le_of_ble_eq_true rfl) dX8_init_68 ?_
  show Y F _ _ _ _ _ [(_, .inr (_, [_, _, _, _, _, _, _, _, _, _, _, _, _, _, _, _, _, _, _, _, _, _, _, _, _, _, _, _, _, _, _])), _, _, _, _, _, _, _, _]
  refine y_aload_n hF dX8_init_71 rfl rfl ?_
  refine y_bipush (v := (40 : Int32)) hF dX8_init_72 (by decide) ?_
  refine y_newi (N := 40) hF hR (by decide) (by decide) (by decide) (by decide) (by decide) dX8_init_74 (fun p9 => ?_)
  show Y F _ _ _ _ _ [(_, .inr (_, [_, _, _, _, _, _, _, _, _, _, _, _, _, _, _, _, _, _, _, _, _, _, _, _, _, _, _, _, _, _, _])), _, _, _, _, _, _, _, _, _]
  refine y_putF (q0 := 0) (tj := .array .int) hF hI rfl 19 ck7 (by decide) tw_1061 rfl rfl rfl rfl rfl rfl (Nat.le_of_ble_eq_true rfl) dX8_init_76 ?_
  show Y F _ _ _ _ _ [(_, .inr (_, [_, _, _, _, _, _, _, _, _, _, _, _, _, _, _, _, _, _, _, _, _, _, _, _, _, _, _, _, _, _, _])), _, _, _, _, _, _, _, _, _]
  refine y_aload_n hF dX8_init_79 rfl rfl ?_
  refine y_sipush (v := (4700 : Int32)) hF dX8_init_80 (by decide) ?_
  refine y_newi (N := 4700) hF hR (by decide) (by decide) (by decide) (by decide) (by decide) dX8_init_83 (fun p10 => ?_)
  show Y F _ _ _ _ _ [(_, .inr (_, [_, _, _, _, _, _, _, _, _, _, _, _, _, _, _, _, _, _, _, _, _, _, _, _, _, _, _, _, _, _, _])), _, _, _, _, _, _, _, _, _, _]
  refine y_putF (q0 := 0) (tj := .array .int) hF hI rfl 21 ck7 (by decide) tw_1063 rfl rfl rfl rfl rfl rfl (Nat.le_of_ble_eq_true rfl) dX8_init_85 ?_
  show Y F _ _ _ _ _ [(_, .inr (_, [_, _, _, _, _, _, _, _, _, _, _, _, _, _, _, _, _, _, _, _, _, _, _, _, _, _, _, _, _, _, _])), _, _, _, _, _, _, _, _, _, _]
  refine y_aload_n hF dX8_init_88 rfl rfl ?_
  refine y_bipush (v := (64 : Int32)) hF dX8_init_89 (by decide) ?_
  refine y_newi (N := 64) hF hR (by decide) (by decide) (by decide) (by decide) (by decide) dX8_init_91 (fun p11 => ?_)
  show Y F _ _ _ _ _ [(_, .inr (_, [_, _, _, _, _, _, _, _, _, _, _, _, _, _, _, _, _, _, _, _, _, _, _, _, _, _, _, _, _, _, _])), _, _, _, _, _, _, _, _, _, _, _]
  refine y_putF (q0 := 0) (tj := .array .int) hF hI rfl 22 ck7 (by decide) tw_1064 rfl rfl rfl rfl rfl rfl (Nat.le_of_ble_eq_true rfl) dX8_init_93 ?_
  show Y F _ _ _ _ _ [(_, .inr (_, [_, _, _, _, _, _, _, _, _, _, _, _, _, _, _, _, _, _, _, _, _, _, _, _, _, _, _, _, _, _, _])), _, _, _, _, _, _, _, _, _, _, _]
  refine y_aload_n hF dX8_init_96 rfl rfl ?_
  refine y_bipush (v := (6 : Int32)) hF dX8_init_97 (by decide) ?_
  refine y_newi (N := 6) hF hR (by decide) (by decide) (by decide) (by decide) (by decide) dX8_init_99 (fun p12 => ?_)
  show Y F _ _ _ _ _ [(_, .inr (_, [_, _, _, _, _, _, _, _, _, _, _, _, _, _, _, _, _, _, _, _, _, _, _, _, _, _, _, _, _, _, _])), _, _, _, _, _, _, _, _, _, _, _, _]
  refine y_putF (q0 := 0) (tj := .array .int) hF hI rfl 23 ck7 (by decide) tw_1065 rfl rfl rfl rfl rfl rfl (Nat.le_of_ble_eq_true rfl) dX8_init_101 ?_
  show Y F _ _ _ _ _ [(_, .inr (_, [_, _, _, _, _, _, _, _, _, _, _, _, _, _, _, _, _, _, _, _, _, _, _, _, _, _, _, _, _, _, _])), _, _, _, _, _, _, _, _, _, _, _, _]
  refine y_aload_n hF dX8_init_104 rfl rfl ?_
  refine y_bipush (v := (120 : Int32)) hF dX8_init_105 (by decide) ?_
  refine y_newi (N := 120) hF hR (by decide) (by decide) (by decide) (by decide) (by decide) dX8_init_107 (fun p13 => ?_)
  show Y F _ _ _ _ _ [(_, .inr (_, [_, _, _, _, _, _, _, _, _, _, _, _, _, _, _, _, _, _, _, _, _, _, _, _, _, _, _, _, _, _, _])), _, _, _, _, _, _, _, _, _, _, _, _, _]
  refine y_putF (q0 := 0) (tj := .array .int) hF hI rfl 26 ck7 (by decide) tw_1068 rfl rfl rfl rfl rfl rfl (Nat.le_of_ble_eq_true rfl) dX8_init_109 ?_
  show Y F _ _ _ _ _ [(_, .inr (_, [_, _, _, _, _, _, _, _, _, _, _, _, _, _, _, _, _, _, _, _, _, _, _, _, _, _, _, _, _, _, _])), _, _, _, _, _, _, _, _, _, _, _, _, _]
  refine y_aload_n hF dX8_init_112 rfl rfl ?_
  refine y_sipush (v := (240 : Int32)) hF dX8_init_113 (by decide) ?_
  refine y_newi (N := 240) hF hR (by decide) (by decide) (by decide) (by decide) (by decide) dX8_init_116 (fun p14 => ?_)
  show Y F _ _ _ _ _ [(_, .inr (_, [_, _, _, _, _, _, _, _, _, _, _, _, _, _, _, _, _, _, _, _, _, _, _, _, _, _, _, _, _, _, _])), _, _, _, _, _, _, _, _, _, _, _, _, _, _]
  refine y_putF (q0 := 0) (tj := .array .int) hF hI rfl 30 ck7 (by decide) tw_1072 rfl rfl rfl rfl rfl rfl (Nat.le_of_ble_eq_true rfl) dX8_init_118 ?_
  show Y F _ _ _ _ _ [(_, .inr (_, [_, _, _, _, _, _, _, _, _, _, _, _, _, _, _, _, _, _, _, _, _, _, _, _, _, _, _, _, _, _, _])), _, _, _, _, _, _, _, _, _, _, _, _, _, _]
  refine y_aload_n hF dX8_init_121 rfl rfl ?_
  refine y_get (q0 := 0) hF rfl 0 ck7 (by decide) tw_1042 rfl rfl dX8_init_122 ?_
  refine y_bipush (v := (121 : Int32)) hF dX8_init_125 (by decide) ?_
  refine y_bipush (v := (100 : Int32)) hF dX8_init_127 (by decide) ?_
  refine y_iast (q0 := 1) hF rfl (by decide) dX8_init_129 ?_
  show Y F _ _ _ _ _ [(_, .inr (_, [_, _, _, _, _, _, _, _, _, _, _, _, _, _, _, _, _, _, _, _, _, _, _, _, _, _, _, _, _, _, _])), _, _, _, _, _, _, _, _, _, _, _, _, _, _]
  refine y_aload_n hF dX8_init_130 rfl rfl ?_
  refine y_get (q0 := 0) hF rfl 0 ck7 (by decide) tw_1042 rfl rfl dX8_init_131 ?_
  refine y_bipush (v := (122 : Int32)) hF dX8_init_134 (by decide) ?_
  refine y_bipush (v := (10 : Int32)) hF dX8_init_136 (by decide) ?_
  refine y_iast (q0 := 1) hF rfl (by decide) dX8_init_138 ?_
  show Y F _ _ _ _ _ [(_, .inr (_, [_, _, _, _, _, _, _, _, _, _, _, _, _, _, _, _, _, _, _, _, _, _, _, _, _, _, _, _, _, _, _])), _, _, _, _, _, _, _, _, _, _, _, _, _, _]
  refine y_aload_n hF dX8_init_139 rfl rfl ?_
  refine y_get (q0 := 0) hF rfl 0 ck7 (by decide) tw_1042 rfl rfl dX8_init_140 ?_
  refine y_bipush (v := (125 : Int32)) hF dX8_init_143 (by decide) ?_
  refine y_iconst (v := (4 : Int32)) hF dX8_init_145 (by decide) ?_
  refine y_iast (q0 := 1) hF rfl (by decide) dX8_init_146 ?_
  show Y F _ _ _ _ _ [(_, .inr (_, [_, _, _, _, _, _, _, _, _, _, _, _, _, _, _, _, _, _, _, _, _, _, _, _, _, _, _, _, _, _, _])), _, _, _, _, _, _, _, _, _, _, _, _, _, _]
  refine y_aload_n hF dX8_init_147 rfl rfl ?_
  refine y_get (q0 := 0) hF rfl 0 ck7 (by decide) tw_1042 rfl rfl dX8_init_148 ?_
  refine y_bipush (v := (126 : Int32)) hF dX8_init_151 (by decide) ?_
  refine y_bipush (v := (50 : Int32)) hF dX8_init_153 (by decide) ?_
  refine y_iast (q0 := 1) hF rfl (by decide) dX8_init_155 ?_
  show Y F _ _ _ _ _ [(_, .inr (_, [_, _, _, _, _, _, _, _, _, _, _, _, _, _, _, _, _, _, _, _, _, _, _, _, _, _, _, _, _, _, _])), _, _, _, _, _, _, _, _, _, _, _, _, _, _]
  refine y_aload_n hF dX8_init_156 rfl rfl ?_
  refine y_get (q0 := 0) hF rfl 0 ck7 (by decide) tw_1042 rfl rfl dX8_init_157 ?_
  refine y_bipush (v := (127 : Int32)) hF dX8_init_160 (by decide) ?_
  refine y_iconst (v := (3 : Int32)) hF dX8_init_162 (by decide) ?_
  refine y_iast (q0 := 1) hF rfl (by decide) dX8_init_163 ?_
  show Y F _ _ _ _ _ [(_, .inr (_, [_, _, _, _, _, _, _, _, _, _, _, _, _, _, _, _, _, _, _, _, _, _, _, _, _, _, _, _, _, _, _])), _, _, _, _, _, _, _, _, _, _, _, _, _, _]
  refine y_iconst (v := (0 : Int32)) hF dX8_init_164 (by decide) ?_
  refine y_istore_n [(1, _), (0, _)] hF hN dX8_init_165 rfl (by decide) rfl ?_
  refine y_iload_n hF dX8_init_166 rfl rfl ?_
  refine y_bipush (v := (6 : Int32)) hF dX8_init_167 (by decide) ?_
  refine y_icmp_ge (tgt := 189) hF dX8_init_169 (by decide) (fun hc => absurd hc (by decide)) (fun _ => ?_)
  refine y_aload_n hF dX8_init_172 rfl rfl ?_
  refine y_get (q0 := 0) hF rfl 0 ck7 (by decide) tw_1042 rfl rfl dX8_init_173 ?_
  refine y_sipush (v := (129 : Int32)) hF dX8_init_176 (by decide) ?_
  refine y_iload_n hF dX8_init_179 rfl rfl ?_
  refine y_iadd hF dX8_init_180 ?_
  refine y_iconst (v := (5 : Int32)) hF dX8_init_181 (by decide) ?_
  refine y_iast (q0 := 1) hF rfl (by decide) dX8_init_182 ?_
  show Y F _ _ _ _ _ [(_, .inr (_, [_, _, _, _, _, _, _, _, _, _, _, _, _, _, _, _, _, _, _, _, _, _, _, _, _, _, _, _, _, _, _])), _, _, _, _, _, _, _, _, _, _, _, _, _, _]
  refine y_iinc [(1, _), (0, _)] (v := (1 : Int32)) hF hN dX8_init_183 rfl (by decide) (by decide) rfl ?_
  refine y_goto (tgt := 166) hF dX8_init_186 (by decide) ?_
  refine y_iload_n hF dX8_init_166 rfl rfl ?_
  refine y_bipush (v := (6 : Int32)) hF dX8_init_167 (by decide) ?_
  refine y_icmp_ge (tgt := 189) hF dX8_init_169 (by decide) (fun hc => absurd hc (by decide)) (fun _ => ?_)
  refine y_aload_n hF dX8_init_172 rfl rfl ?_
  refine y_get (q0 := 0) hF rfl 0 ck7 (by decide) tw_1042 rfl rfl dX8_init_173 ?_
  refine y_sipush (v := (129 : Int32)) hF dX8_init_176 (by decide) ?_
  refine y_iload_n hF dX8_init_179 rfl rfl ?_
  refine y_iadd hF dX8_init_180 ?_
  refine y_iconst (v := (5 : Int32)) hF dX8_init_181 (by decide) ?_
  refine y_iast (q0 := 1) hF rfl (by decide) dX8_init_182 ?_
  show Y F _ _ _ _ _ [(_, .inr (_, [_, _, _, _, _, _, _, _, _, _, _, _, _, _, _, _, _, _, _, _, _, _, _, _, _, _, _, _, _, _, _])), _, _, _, _, _, _, _, _, _, _, _, _, _, _]
  refine y_iinc [(1, _), (0, _)] (v := (2 : Int32)) hF hN dX8_init_183 rfl (by decide) (by decide) rfl ?_
  refine y_goto (tgt := 166) hF dX8_init_186 (by decide) ?_
  refine y_iload_n hF dX8_init_166 rfl rfl ?_
  refine y_bipush (v := (6 : Int32)) hF dX8_init_167 (by decide) ?_
  refine y_icmp_ge (tgt := 189) hF dX8_init_169 (by decide) (fun hc => absurd hc (by decide)) (fun _ => ?_)
  refine y_aload_n hF dX8_init_172 rfl rfl ?_
  refine y_get (q0 := 0) hF rfl 0 ck7 (by decide) tw_1042 rfl rfl dX8_init_173 ?_
  refine y_sipush (v := (129 : Int32)) hF dX8_init_176 (by decide) ?_
  refine y_iload_n hF dX8_init_179 rfl rfl ?_
  refine y_iadd hF dX8_init_180 ?_
  refine y_iconst (v := (5 : Int32)) hF dX8_init_181 (by decide) ?_
  refine y_iast (q0 := 1) hF rfl (by decide) dX8_init_182 ?_
  show Y F _ _ _ _ _ [(_, .inr (_, [_, _, _, _, _, _, _, _, _, _, _, _, _, _, _, _, _, _, _, _, _, _, _, _, _, _, _, _, _, _, _])), _, _, _, _, _, _, _, _, _, _, _, _, _, _]
  refine y_iinc [(1, _), (0, _)] (v := (3 : Int32)) hF hN dX8_init_183 rfl (by decide) (by decide) rfl ?_
  refine y_goto (tgt := 166) hF dX8_init_186 (by decide) ?_
  refine y_iload_n hF dX8_init_166 rfl rfl ?_
  refine y_bipush (v := (6 : Int32)) hF dX8_init_167 (by decide) ?_
  refine y_icmp_ge (tgt := 189) hF dX8_init_169 (by decide) (fun hc => absurd hc (by decide)) (fun _ => ?_)
  refine y_aload_n hF dX8_init_172 rfl rfl ?_
  refine y_get (q0 := 0) hF rfl 0 ck7 (by decide) tw_1042 rfl rfl dX8_init_173 ?_
  refine y_sipush (v := (129 : Int32)) hF dX8_init_176 (by decide) ?_
  refine y_iload_n hF dX8_init_179 rfl rfl ?_
  refine y_iadd hF dX8_init_180 ?_
  refine y_iconst (v := (5 : Int32)) hF dX8_init_181 (by decide) ?_
  refine y_iast (q0 := 1) hF rfl (by decide) dX8_init_182 ?_
  show Y F _ _ _ _ _ [(_, .inr (_, [_, _, _, _, _, _, _, _, _, _, _, _, _, _, _, _, _, _, _, _, _, _, _, _, _, _, _, _, _, _, _])), _, _, _, _, _, _, _, _, _, _, _, _, _, _]
  refine y_iinc [(1, _), (0, _)] (v := (4 : Int32)) hF hN dX8_init_183 rfl (by decide) (by decide) rfl ?_
  refine y_goto (tgt := 166) hF dX8_init_186 (by decide) ?_
  refine y_iload_n hF dX8_init_166 rfl rfl ?_
  refine y_bipush (v := (6 : Int32)) hF dX8_init_167 (by decide) ?_
  refine y_icmp_ge (tgt := 189) hF dX8_init_169 (by decide) (fun hc => absurd hc (by decide)) (fun _ => ?_)
  refine y_aload_n hF dX8_init_172 rfl rfl ?_
  refine y_get (q0 := 0) hF rfl 0 ck7 (by decide) tw_1042 rfl rfl dX8_init_173 ?_
  refine y_sipush (v := (129 : Int32)) hF dX8_init_176 (by decide) ?_
  refine y_iload_n hF dX8_init_179 rfl rfl ?_
  refine y_iadd hF dX8_init_180 ?_
  refine y_iconst (v := (5 : Int32)) hF dX8_init_181 (by decide) ?_
  refine y_iast (q0 := 1) hF rfl (by decide) dX8_init_182 ?_
  show Y F _ _ _ _ _ [(_, .inr (_, [_, _, _, _, _, _, _, _, _, _, _, _, _, _, _, _, _, _, _, _, _, _, _, _, _, _, _, _, _, _, _])), _, _, _, _, _, _, _, _, _, _, _, _, _, _]
  refine y_iinc [(1, _), (0, _)] (v := (5 : Int32)) hF hN dX8_init_183 rfl (by decide) (by decide) rfl ?_
  refine y_goto (tgt := 166) hF dX8_init_186 (by decide) ?_
  refine y_iload_n hF dX8_init_166 rfl rfl ?_
  refine y_bipush (v := (6 : Int32)) hF dX8_init_167 (by decide) ?_
  refine y_icmp_ge (tgt := 189) hF dX8_init_169 (by decide) (fun hc => absurd hc (by decide)) (fun _ => ?_)
  refine y_aload_n hF dX8_init_172 rfl rfl ?_
  refine y_get (q0 := 0) hF rfl 0 ck7 (by decide) tw_1042 rfl rfl dX8_init_173 ?_
  refine y_sipush (v := (129 : Int32)) hF dX8_init_176 (by decide) ?_
  refine y_iload_n hF dX8_init_179 rfl rfl ?_
  refine y_iadd hF dX8_init_180 ?_
  refine y_iconst (v := (5 : Int32)) hF dX8_init_181 (by decide) ?_
  refine y_iast (q0 := 1) hF rfl (by decide) dX8_init_182 ?_
  show Y F _ _ _ _ _ [(_, .inr (_, [_, _, _, _, _, _, _, _, _, _, _, _, _, _, _, _, _, _, _, _, _, _, _, _, _, _, _, _, _, _, _])), _, _, _, _, _, _, _, _, _, _, _, _, _, _]
  refine y_iinc [(1, _), (0, _)] (v := (6 : Int32)) hF hN dX8_init_183 rfl (by decide) (by decide) rfl ?_
  refine y_goto (tgt := 166) hF dX8_init_186 (by decide) ?_
  refine y_iload_n hF dX8_init_166 rfl rfl ?_
  refine y_bipush (v := (6 : Int32)) hF dX8_init_167 (by decide) ?_
  refine y_icmp_ge (tgt := 189) hF dX8_init_169 (by decide) (fun _ => ?_) (fun hc => absurd (by decide) hc)
  exact hret _ _ _ _ _ _ (by decide) (by decide) ⟨fun k => [p1, p2, p3, p4, p5, p6, p7, p8, p9, p10, p11, p12, p13, p14].getD (k - 76) 0, rfl, rfl⟩ dX8_init_189
