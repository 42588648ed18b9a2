/-! ===== String.length and charAt over the words ===== -/
theorem x_getOF {F : Cx} {u pc a : Nat} {ls : List (Nat × Value)} {rest : List Value} {S : St} {cc : ByteArray} {own : String} {index : Nat} {o n d : String} {v : Value} (hF : Ok F cc own) (hO : va_OF o n d v a F.2.2.2.2.2.2.2.2.2.2.1 F.2.2.2.2.1 F.2.2.2.2.1.heap) (hw : Cond.fieldLink own index o n d ∈ tbG) (hd : decode cc pc = .ok (.getfield index, 3)) (kk : X F u (pc + 3) ls (v :: rest) S) : X F u pc ls (.ref a :: rest) S := by
  obtain ⟨p, l, e, R, s, m, args, below, meth, c, A, G, Q⟩ := F
  obtain ⟨hx, hb, hown, hts, hE, hA, -⟩ := hF
  intro H locs la hP hD hS hl
  exact vk_getf hx hb hO hS hown (hts _ hw) (fun _ h => h) hd (kk H locs la hP hD hS hl)
theorem x_tlenT {F : Cx} {u pc a N : Nat} {f : Nat → Value} {ty : FieldType} {ls : List (Nat × Value)} {rest : List Value} {S : St} {cc : ByteArray} {own : String} {v : Int32} (hF : Ok F cc own) (hT : va_T ty a N f F.2.2.2.2.2.2.2.2.2.2.1 F.2.2.2.2.1 F.2.2.2.2.1.heap) (hv : Int32.ofNat N = v) (hd : decode cc pc = .ok (.arraylength, 1)) (kk : X F u (pc + 1) ls (.int v :: rest) S) : X F u pc ls (.ref a :: rest) S := by
  obtain ⟨p, l, e, R, s, m, args, below, meth, c, A, G, Q⟩ := F
  obtain ⟨hx, hb, hown, hts, hE, hA, -⟩ := hF
  intro H locs la hP hD hS hl
  exact va_tlen hx hb hT hS hv hd (kk H locs la hP hD hS hl)
theorem x_baldT {F : Cx} {u pc a N : Nat} {f : Nat → Value} {ls : List (Nat × Value)} {rest : List Value} {S : St} {cc : ByteArray} {own : String} {i : Int32} {v : Value} (hF : Ok F cc own) (hT : va_T .byte a N f F.2.2.2.2.2.2.2.2.2.2.1 F.2.2.2.2.1 F.2.2.2.2.1.heap) (hi : inb i N) (hv : f (ix i) = v) (hd : decode cc pc = .ok (.baload, 1)) (kk : X F u (pc + 1) ls (v :: rest) S) : X F u pc ls (.int i :: .ref a :: rest) S := by
  obtain ⟨p, l, e, R, s, m, args, below, meth, c, A, G, Q⟩ := F
  obtain ⟨hx, hb, hown, hts, hE, hA, -⟩ := hF
  intro H locs la hP hD hS hl
  exact va_tb hx hb hT hS hi hv hd (kk H locs la hP hD hS hl)
theorem x_getsq {F : Cx} {u pc : Nat} {ls : List (Nat × Value)} {rest : List Value} {S : St} {cc : ByteArray} {own : String} {index : Nat} {C n d : String} (hF : Ok F cc own) (hZ : va_Zq C n d F.2.2.2.2.2.2.2.2.2.2.1 F.2.2.2.2.1 F.2.2.2.2.1.heap) (hw : Cond.fieldLink own index C n d ∈ tbG) (hd : decode cc pc = .ok (.getstatic index, 3)) (kk : ∀ v : Value, v.category = 1 → X F u (pc + 3) ls (v :: rest) S) : X F u pc ls rest S := by
  obtain ⟨p, l, e, R, s, m, args, below, meth, c, A, G, Q⟩ := F
  obtain ⟨hx, hb, hown, hts, hE, hA, -⟩ := hF
  intro H locs la hP hD hS hl
  rcases hZ with hZ | ⟨t, hZ⟩
  · exact va_gets hx hb hZ hS hown (hts _ hw) (fun _ h => h) hd (kk _ rfl H locs la hP hD hS hl)
  · exact va_gets hx hb hZ hS hown (hts _ hw) (fun _ h => h) hd (kk _ rfl H locs la hP hD hS hl)
theorem Ok.e6 {F : Cx} {cc : ByteArray} {own : String} (hF : Ok F cc own) : En6 (gG F) F.2.2.2.2.2.2.2.2.2.2.1 F.2.2.2.2.1 F.2.2.2.2.1.heap := by
  obtain ⟨p, l, e, R, s, m, args, below, meth, c, A, G, Q⟩ := F
  exact hF.2.2.2.2.1.2.2.2.2.2.2.2.2.2.2
set_option maxHeartbeats 4000000 in
set_option maxRecDepth 20000 in
theorem ctJ0_coder {l : Launch} {G : Ga} {i : Nat} (hi : i < 7) (hl : l.stackTraces = false) {S : St} : CT l G 0 yJ0_coder_7d493 cJ0_coder_7d493 1 (some .byte) [.ref (G.2.2.2.2 (10 + i))] S (some (.int 0)) S := by
  refine ct_of hl (by decide) (Nat.le_of_ble_eq_true rfl) (fun F hFl hFG hF hN hR hret => ?_)
  subst hFl hFG
  show X F 0 0 [(0, .ref (gS F (10 + i)))] [] S
  refine x_gets (v := .int 1) hF (List.mem_of_getElem? (i := 7) rfl) tw_515 dJ0_coder_7d493_0 ?_
  refine x_if_eq (tgt := 13) hF dJ0_coder_7d493_3 (by decide) (fun hc => absurd hc (by decide)) (fun _ => ?_)
  refine x_aload_n hF dJ0_coder_7d493_6 rfl rfl ?_
  refine x_getOF hF (hF.e6.2.2.1.1 i hi).2.1 tw_1487 dJ0_coder_7d493_7 ?_
  refine x_goto (tgt := 14) hF dJ0_coder_7d493_10 (by decide) ?_
  exact hret.2.2.2.2.2 _ _ _ .byte rfl rfl rfl dJ0_coder_7d493_14
set_option maxHeartbeats 4000000 in
set_option maxRecDepth 20000 in
theorem ctJ0_isLatin1 {l : Launch} {G : Ga} {i : Nat} (hi : i < 7) (hl : l.stackTraces = false) {S : St} : CT l G 0 yJ0_isLatin1_aae02 cJ0_isLatin1_aae02 1 (some .boolean) [.ref (G.2.2.2.2 (10 + i))] S (some (.int 1)) S := by
  refine ct_of hl (by decide) (Nat.le_of_ble_eq_true rfl) (fun F hFl hFG hF hN hR hret => ?_)
  subst hFl hFG
  show X F 0 0 [(0, .ref (gS F (10 + i)))] [] S
  refine x_gets (v := .int 1) hF (List.mem_of_getElem? (i := 7) rfl) tw_515 dJ0_isLatin1_aae02_0 ?_
  refine x_if_eq (tgt := 17) hF dJ0_isLatin1_aae02_3 (by decide) (fun hc => absurd hc (by decide)) (fun _ => ?_)
  refine x_aload_n hF dJ0_isLatin1_aae02_6 rfl rfl ?_
  refine x_getOF hF (hF.e6.2.2.1.1 i hi).2.1 tw_1487 dJ0_isLatin1_aae02_7 ?_
  refine x_if_ne (tgt := 17) hF dJ0_isLatin1_aae02_10 (by decide) (fun hc => absurd rfl hc) (fun _ => ?_)
  refine x_iconst (v := 1) hF dJ0_isLatin1_aae02_13 (by decide) ?_
  refine x_goto (tgt := 18) hF dJ0_isLatin1_aae02_14 (by decide) ?_
  exact hret.2.1 _ _ _ rfl (by decide) rfl dJ0_isLatin1_aae02_18
theorem wLen_lt : ∀ i, i < 7 → (wLen.getD i 0) < 10 := by decide
theorem shr0z (x : Int32) : x >>> ((0 : Int32) &&& 31) = x := sb_shr0 x
set_option maxHeartbeats 4000000 in
set_option maxRecDepth 20000 in
theorem ctJ0_length {l : Launch} {G : Ga} {i : Nat} (hi : i < 7) (hl : l.stackTraces = false) {S : St} : CT l G 1 yJ0_length_8abf5 cJ0_length_8abf5 1 (some .int) [.ref (G.2.2.2.2 (10 + i))] S (some (.int (nI (wLn i)))) S := by
  refine ct_of hl (by decide) (Nat.le_of_ble_eq_true rfl) (fun F hFl hFG hF hN hR hret => ?_)
  subst hFl hFG
  show X F 0 0 [(0, .ref (gS F (10 + i)))] [] S
  have hs := hF.e6.2.2.1.1 i hi
  refine x_aload_n hF dJ0_length_8abf5_0 rfl rfl ?_
  refine x_getOF hF hs.2.2.1 tw_1486 dJ0_length_8abf5_1 ?_
  refine x_tlenT (v := nI (wLn i)) hF hs.2.2.2 rfl dJ0_length_8abf5_4 ?_
  refine x_aload_n hF dJ0_length_8abf5_5 rfl rfl ?_
  refine x_cVO hF hN hR hs.1 (ctJ0_coder hi hF.tr) mwJ0_coder_7d493 miJ0_coder_7d493 tw_511 ⟨by decide, by decide⟩ rfl rfl (Nat.le_of_ble_eq_true rfl) dJ0_length_8abf5_6 ?_
  refine x_ishr hF dJ0_length_8abf5_9 ?_
  rw [shr0z]
  exact hret.1 _ _ _ rfl rfl dJ0_length_8abf5_10
set_option maxHeartbeats 4000000 in
set_option maxRecDepth 20000 in
theorem ctJ3_check {l : Launch} {G : Ga} {x0 x1 : Int32} {v : Value} (hv : v.category = 1) (h0 : ¬ x0 < 0) (h1 : x0 < x1) (hl : l.stackTraces = false) {S : St} : CT l G 0 yJ3_checkIndex_8e157 cJ3_checkIndex_8e157 3 (some .int) [.int x0, .int x1, v] S (some (.int x0)) S := by
  have hn : (lg_sl [Value.int x0, .int x1, v]).length ≤ 3 := by cases v <;> first | exact Nat.le_of_ble_eq_true rfl | cases hv
  refine ct_of hl (by decide) hn (fun F hFl hFG hF hN hR hret => ?_)
  subst hFl hFG
  refine x_sub (ls' := [(0, .int x0), (1, .int x1)]) ?_ ⟨rfl, rfl, trivial⟩
  refine x_iload_n hF dJ3_checkIndex_8e157_0 rfl rfl ?_
  refine x_if_lt (tgt := 9) hF dJ3_checkIndex_8e157_1 (by decide) (fun hc => absurd hc h0) (fun _ => ?_)
  refine x_iload_n hF dJ3_checkIndex_8e157_4 rfl rfl ?_
  refine x_iload_n hF dJ3_checkIndex_8e157_5 rfl rfl ?_
  refine x_icmp_lt (tgt := 16) hF dJ3_checkIndex_8e157_6 (by decide) (fun _ => ?_) (fun hc => absurd h1 hc)
  refine x_iload_n hF dJ3_checkIndex_8e157_16 rfl rfl ?_
  exact hret.1 _ _ _ rfl rfl dJ3_checkIndex_8e157_17
set_option maxHeartbeats 4000000 in
set_option maxRecDepth 20000 in
theorem ctJ0_check {l : Launch} {G : Ga} {x0 x1 : Int32} (h0 : ¬ x0 < 0) (h1 : x0 < x1) (hl : l.stackTraces = false) {S : St} : CT l G 1 yJ0_checkIndex_df160 cJ0_checkIndex_df160 2 none [.int x0, .int x1] S none S := by
  refine ct_of hl (by decide) (Nat.le_of_ble_eq_true rfl) (fun F hFl hFG hF hN hR hret => ?_)
  subst hFl hFG
  show X F 0 0 [(0, .int x0), (1, .int x1)] [] S
  refine x_iload_n hF dJ0_checkIndex_df160_0 rfl rfl ?_
  refine x_iload_n hF dJ0_checkIndex_df160_1 rfl rfl ?_
  refine x_getsq hF hF.e6.2.2.2.1 tw_531 dJ0_checkIndex_df160_2 (fun v hv => ?_)
  refine x_cSi hF hN hR (ctJ3_check hv h0 h1 hF.tr) mwJ3_checkIndex_8e157 tw_534 tw_533 ⟨by decide, by decide⟩ rfl rfl (Nat.le_of_ble_eq_true rfl) dJ0_checkIndex_df160_5 ?_
  refine x_pop hF dJ0_checkIndex_df160_8 rfl ?_
  exact hret.2.2.2.2.1 _ _ rfl rfl dJ0_checkIndex_df160_9
theorem wCh_ok : ∀ i, i < 7 → ∀ k, k < wLen.getD i 0 → (((wByt.getD i []).getD k 0 &&& 255).toUInt32 % 65536).toInt32 = wCh i k := by decide +kernel
theorem wCh_nar : ∀ i, i < 7 → ∀ k, k < wLen.getD i 0 → narrow .char (.int (wCh i k)) = .int (wCh i k) := by decide +kernel
set_option maxHeartbeats 4000000 in
set_option maxRecDepth 20000 in
theorem ctJ1_charAt {l : Launch} {G : Ga} {i : Nat} {x1 : Int32} (hi : i < 7) (hx : inb x1 (wLn i)) (hl : l.stackTraces = false) {S : St} : CT l G 2 yJ1_charAt_3b067 cJ1_charAt_3b067 2 (some .char) [.ref (G.2.2.2.2 (20 + i)), .int x1] S (some (.int (wCh i (ix x1)))) S := by
  refine ct_of hl (by decide) (Nat.le_of_ble_eq_true rfl) (fun F hFl hFG hF hN hR hret => ?_)
  subst hFl hFG
  show X F 0 0 [(0, .ref (gS F (20 + i))), (1, .int x1)] [] S
  have hs := hF.e6.2.2.1.1 i hi
  have h0 : ¬ x1 < 0 := fun q => hx (Or.inl q)
  have hw : wLn i < 10 := wLen_lt i hi
  have h1 : x1 < nI (wLn i) := by
    obtain ⟨j, hj, e⟩ := vp_in_of (x := x1) (n := wLn i) hx (by omega)
    rw [e]
    exact nI_lt hj (by omega)
  refine x_iload_n hF dJ1_charAt_3b067_0 rfl rfl ?_
  refine x_aload_n hF dJ1_charAt_3b067_1 rfl rfl ?_
  refine x_tlenT (v := nI (wLn i)) hF hs.2.2.2 rfl dJ1_charAt_3b067_2 ?_
  refine x_cSv hF hN hR (ctJ0_check h0 h1 hF.tr) mwJ0_checkIndex_df160 tw_529 tw_528 ⟨by decide, by decide⟩ rfl rfl (Nat.le_of_ble_eq_true rfl) dJ1_charAt_3b067_3 ?_
  refine x_aload_n hF dJ1_charAt_3b067_6 rfl rfl ?_
  refine x_iload_n hF dJ1_charAt_3b067_7 rfl rfl ?_
  refine x_baldT hF hs.2.2.2 hx rfl dJ1_charAt_3b067_8 ?_
  refine x_sipush (v := 255) hF dJ1_charAt_3b067_9 (by decide) ?_
  refine x_iand hF dJ1_charAt_3b067_12 ?_
  refine x_i2c hF dJ1_charAt_3b067_13 ?_
  rw [wCh_ok i hi (ix x1) (ix_lt hx)]
  exact hret.2.2.2.2.2 _ _ _ .char rfl (wCh_nar i hi _ (ix_lt hx)) rfl dJ1_charAt_3b067_14
set_option maxHeartbeats 4000000 in
set_option maxRecDepth 20000 in
theorem ctJ0_charAt {l : Launch} {G : Ga} {i : Nat} {x1 : Int32} (hi : i < 7) (hx : inb x1 (wLn i)) (hl : l.stackTraces = false) {S : St} : CT l G 3 yJ0_charAt_5068e cJ0_charAt_5068e 2 (some .char) [.ref (G.2.2.2.2 (10 + i)), .int x1] S (some (.int (wCh i (ix x1)))) S := by
  refine ct_of hl (by decide) (Nat.le_of_ble_eq_true rfl) (fun F hFl hFG hF hN hR hret => ?_)
  subst hFl hFG
  show X F 0 0 [(0, .ref (gS F (10 + i))), (1, .int x1)] [] S
  have hs := hF.e6.2.2.1.1 i hi
  refine x_aload_n hF dJ0_charAt_5068e_0 rfl rfl ?_
  refine x_cVO hF hN hR hs.1 (ctJ0_isLatin1 hi hF.tr) mwJ0_isLatin1_aae02 miJ0_isLatin1_aae02 tw_521 ⟨by decide, by decide⟩ rfl rfl (Nat.le_of_ble_eq_true rfl) dJ0_charAt_5068e_1 ?_
  refine x_if_eq (tgt := 16) hF dJ0_charAt_5068e_4 (by decide) (fun hc => absurd hc (by decide)) (fun _ => ?_)
  refine x_aload_n hF dJ0_charAt_5068e_7 rfl rfl ?_
  refine x_getOF hF hs.2.2.1 tw_1486 dJ0_charAt_5068e_8 ?_
  refine x_iload_n hF dJ0_charAt_5068e_11 rfl rfl ?_
  refine x_cSi hF hN hR (ctJ1_charAt hi hx hF.tr) mwJ1_charAt_3b067 tw_526 tw_525 ⟨by decide, by decide⟩ rfl rfl (Nat.le_of_ble_eq_true rfl) dJ0_charAt_5068e_12 ?_
  exact hret.2.2.2.2.2 _ _ _ .char rfl (wCh_nar i hi _ (ix_lt hx)) rfl dJ0_charAt_5068e_15
