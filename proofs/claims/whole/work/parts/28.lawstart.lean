/-! ===== the law from its entry, where the start is as it should be and the pure law holds ===== -/
set_option maxHeartbeats 16000000 in
set_option maxRecDepth 100000 in
theorem law_start {p : Program} {l : Launch} {e : Env} {s : State} {m : MethodId} {below : List Frame} {meth : Method} {c : Code} {G : Ga} {b L : Nat} {xs : Nat → Int32} (hL : L ≤ 2048) (hx : p.tables.exec = Jvm.exec) (hb : c.code = code) (hr : meth.sig.returnType = ret) (hml : c.maxLocals = 7) (hown : s.vm.findClass RL = some m.cls) (hts : ∀ w ∈ tbG, w.before #[Value.ref b] s = true) (hEc : Ec G (fun q => s.heap.size ≤ q) s s.heap) (hX : va_X b L xs s s.heap) (hbl : b < s.heap.size) (hlocks : meth.locks = false) (hlt : l.stackTraces = false) (hpure : ∃ S9, lawIt xs (L / 4) 0 S0 = some S9) : W p l e room_1 s m #[Value.ref b] below meth c s.heap [] 0 0 (lw_Z below #[Value.ref b] s) (entryFrame m ([Value.ref b] : List Value).toArray 7) := by
  obtain ⟨S9, hpure⟩ := hpure
  have hl9 := lv_entry ([.ref b]) (n := 7) (Nat.le_of_ble_eq_true rfl)
  rw [lg_entry_eq]
  have hA : ∀ q : Nat, s.heap.size ≤ q → (fun q : Nat => s.heap.size ≤ q) q := fun _ h => h
  have hD0 : va_D (fun q : Nat => s.heap.size ≤ q) [] := ⟨fun i j p q h => by simp at h, fun k q h => by simp at h⟩
  have hP0 : va_P G.D vwCl [] s.heap := fun k q h => by simp at h
  obtain ⟨F, hFe⟩ : ∃ F : Cx, F = (p, l, e, room_1, s, m, #[Value.ref b], below, meth, c, (fun q => s.heap.size ≤ q), G, lw_Z below #[Value.ref b] s) := ⟨_, rfl⟩
  have hF : OkC F cL_law RL := by
    subst hFe
    exact ⟨⟨hx, hb, hown, hts, hEc.1, hA, hlocks, hlt⟩, hEc⟩
  have hN : nLF F 7 := by subst hFe; exact hml
  have hR : RmC F 11 3000 24000 := by subst hFe; exact ⟨Nat.le_of_ble_eq_true rfl, Nat.le_of_ble_eq_true rfl, Nat.le_of_ble_eq_true rfl, Nat.le_of_ble_eq_true rfl⟩
  have hlF : F.2.1.stackTraces = false := by subst hFe; exact hlt
  have key : Y F 0 0 0 [(0, .ref b)] [] [] := by
    refine y_new [.null, .null, .null, .null, .null, .null, .null, .null] hF hR ck6 tw_95 tw_96 tw_72 (fun j hj => by rcases (show j = 0 ∨ j = 1 ∨ j = 2 ∨ j = 3 ∨ j = 4 ∨ j = 5 ∨ j = 6 ∨ j = 7 by omega) with rfl | rfl | rfl | rfl | rfl | rfl | rfl | rfl <;> rfl) (by decide) (by decide) dL_law_0 (fun h0 => ?_)
    show Y F _ _ _ _ _ [_]
    refine y_dup hF dL_law_3 rfl ?_
    refine y_call (k0 := 0) hF hN hR (ciX7_init hlF) mwX7_init tw_98 rfl (Or.inl tw_97) rfl (by decide) (by decide) (by decide) rfl rfl (Nat.le_of_ble_eq_true rfl) dL_law_4 (fun e0 nw hr => ?_)
    obtain ⟨f, rfl, rfl⟩ := hr
    show Y F _ _ _ _ _ [_, _, _, _, _, _, _, _, _, _, _, _, _, _, _, _, _, _, _, _, _, _, _, _, _, _, _, _, _, _, _, _, _, _, _, _, _, _, _, _, _, _, _, _, _, _, _, _, _, _, _, _, _, _, _, _, _, _, _, _, _, _, _, _, _, _, _, _, _, _, _, _, _, _, _]
    refine y_astore_n [(1, _), (0, _)] hF hN dL_law_7 rfl (by decide) rfl ?_
    refine y_new [.null, .null, .int 0, .int 0, .null, .null, .int 0, .null, .int 0, .null, .int 0, .null, .int 0, .int 0, .int 0, .int 0, .int 0, .null, .int 0, .null, .int 0, .null, .null, .null, .long 0, .int 0, .null, .int 0, .int 0, .int 0, .null] hF hR ck7 tw_1036 tw_1037 tw_79 (fun j hj => by rcases (show j = 0 ∨ j = 1 ∨ j = 2 ∨ j = 3 ∨ j = 4 ∨ j = 5 ∨ j = 6 ∨ j = 7 ∨ j = 8 ∨ j = 9 ∨ j = 10 ∨ j = 11 ∨ j = 12 ∨ j = 13 ∨ j = 14 ∨ j = 15 ∨ j = 16 ∨ j = 17 ∨ j = 18 ∨ j = 19 ∨ j = 20 ∨ j = 21 ∨ j = 22 ∨ j = 23 ∨ j = 24 ∨ j = 25 ∨ j = 26 ∨ j = 27 ∨ j = 28 ∨ j = 29 ∨ j = 30 by omega) with rfl | rfl | rfl | rfl | rfl | rfl | rfl | rfl | rfl | rfl | rfl | rfl | rfl | rfl | rfl | rfl | rfl | rfl | rfl | rfl | rfl | rfl | rfl | rfl | rfl | rfl | rfl | rfl | rfl | rfl | rfl <;> rfl) (by decide) (by decide) dL_law_8 (fun m0 => ?_)
    show Y F _ _ _ _ _ [_, _, _, _, _, _, _, _, _, _, _, _, _, _, _, _, _, _, _, _, _, _, _, _, _, _, _, _, _, _, _, _, _, _, _, _, _, _, _, _, _, _, _, _, _, _, _, _, _, _, _, _, _, _, _, _, _, _, _, _, _, _, _, _, _, _, _, _, _, _, _, _, _, _, _, _]
    refine y_dup hF dL_law_11 rfl ?_
    refine y_call (k0 := 75) hF hN hR (ciX8_init hlF) mwX8_init tw_1039 rfl (Or.inl tw_1038) rfl (by decide) (by decide) (by decide) rfl rfl (Nat.le_of_ble_eq_true rfl) dL_law_12 (fun e0 nw hr => ?_)
    obtain ⟨g, rfl, rfl⟩ := hr
    show Y F _ _ _ _ _ [_, _, _, _, _, _, _, _, _, _, _, _, _, _, _, _, _, _, _, _, _, _, _, _, _, _, _, _, _, _, _, _, _, _, _, _, _, _, _, _, _, _, _, _, _, _, _, _, _, _, _, _, _, _, _, _, _, _, _, _, _, _, _, _, _, _, _, _, _, _, _, _, _, _, _, _, _, _, _, _, _, _, _, _, _, _, _, _, _, _]
    refine y_astore_n [(2, _), (1, _), (0, _)] hF hN dL_law_15 rfl (by decide) rfl ?_
    refine y_iconst (v := (1 : Int32)) hF dL_law_16 (by decide) ?_
    refine y_newl (N := 1) hF hR (by decide) (by decide) (by decide) (by decide) (by decide) dL_law_17 (fun o0 => ?_)
    show Y F _ _ _ _ _ [_, _, _, _, _, _, _, _, _, _, _, _, _, _, _, _, _, _, _, _, _, _, _, _, _, _, _, _, _, _, _, _, _, _, _, _, _, _, _, _, _, _, _, _, _, _, _, _, _, _, _, _, _, _, _, _, _, _, _, _, _, _, _, _, _, _, _, _, _, _, _, _, _, _, _, _, _, _, _, _, _, _, _, _, _, _, _, _, _, _, _]
    refine y_astore_n [(3, _), (2, _), (1, _), (0, _)] hF hN dL_law_19 rfl (by decide) rfl ?_
    refine y_iconst (v := (0 : Int32)) hF dL_law_20 (by decide) ?_
    refine y_istore [(4, _), (3, _), (2, _), (1, _), (0, _)] hF hN dL_law_21 (by decide) rfl ?_
    show Y F _ _ _ _ _ (w91 (gG F) h0 m0 o0 f g)
    subst hFe
    intro H locs la hP hD hS hl
    have hF2 : Ok (p, l, e, room_1, s, m, #[Value.ref b], below, meth, c, (fun q => s.heap.size ≤ q), (ad0 h0 m0 o0 f g, G.2), lw_Z below #[Value.ref b] s) cL_law RL := ⟨hx, hb, hown, hts, hEc.1, hA, hlocks, hlt⟩
    have hloop := xL_loop (U := 600000) (bb := b) (L := L) (xs := xs) hF2 hml ⟨Nat.le_of_ble_eq_true rfl, Nat.le_of_ble_eq_true rfl, Nat.le_of_ble_eq_true rfl, Nat.le_of_ble_eq_true rfl⟩ ⟨hX, hbl, Nat.not_le.mpr hbl⟩ hL (fun u pc ls S hu hd H locs la hP hD hS hl => va_forget (fun q hq => hS.2.2 q hq) (W.widen (k := 601024) (n := 7293034) (by omega) (by omega) (lw_ret hx hb hr hlocks hd))) (L / 4) 0 2000 S0 S9 (by omega) (by omega) (by omega) hpure
    refine W.widen (k := 2000) (n := 8 * 2000) (Nat.le_of_ble_eq_true rfl) (Nat.le_of_ble_eq_true rfl) ?_
    exact hloop H locs la (w91_P hP) (w91_D hD) hS (lsb_has ⟨rfl, rfl, rfl, rfl, rfl, trivial⟩ hl)
  subst hFe
  exact key s.heap [] _ hP0 hD0 va_S.rf (by rw [hml]; exact hl9)
