/-! ===== constructors: the clone of INITIAL, calls, contracts ===== -/
theorem y_clone {F : Cx} {c n pc : Nat} {ls : List (Nat × Value)} {rest : List Value} {w : va_W} {cc : ByteArray} {own : String} {index d mc ms : Nat} (hF : OkC F cc own) (hR : RmC F d mc ms) (hw : Cond.methodLink own index ⟨"[I", "clone", "()Ljava/lang/Object;"⟩ ∈ tbG) (hd1 : 1 ≤ d) (hW : (rest.map fun v => v.category).sum ≤ 8) (hc : c + 1 ≤ mc) (hs : n + 14 ≤ ms) (hd : decode cc pc = .ok (.invokevirtual index, 3)) (k : ∀ q : Nat, Y F (c + 1) (n + 14) (pc + 3) ls (.ref q :: rest) (w ++ [(q, .inl ((gG F).2.2.1 0, 14, .inl iniF))])) : Y F c n pc ls (.ref (gS F 3) :: rest) w := by
  obtain ⟨p, l, e, R, s, m, args, below, meth, co, A, G, Q⟩ := F
  obtain ⟨⟨hx, hb, hown, hts, hE, hA, -⟩, ⟨-, -, -, hcl, scr, g1, g2, g3, g4, g5, g6⟩⟩ := hF
  obtain ⟨r1, r2, r3, r4⟩ := hR
  dsimp only at r1 r2 r3 r4
  intro H locs la hP hD hS hl
  intro T hT X
  have hlt : G.sa 3 < s.heap.size := (Array.getElem?_eq_some_iff.mp g1).1
  have hcellT : T.heap[G.sa 3]? = some scr := by rw [hT, hS.2.1 _ hlt g6]; exact g1
  obtain ⟨c0, t0, f1, f2, f3⟩ := Cond.castable_spec (va_Nw.use (A := args) rfl hcl)
  have hnm : s.vm.findClass "[I" = some (G.ca 0) := (hE.1.2 0 _ rfl).2
  cases hnm.symm.trans f1
  obtain ⟨-, kA, hkA, comp, hkind⟩ := State.isArrayOf_alike X.warmed.alike ((hE.1.2 0 _ rfl).1 0 (fun _ => .null))
  obtain ⟨-, kS, hkS, compS, hkindS⟩ := (hE.1.2 0 _ rfl).1 0 (fun _ => .null)
  have hsz : scr.slots.size = 14 := by rw [g5, arrV_size]
  have hce : ({ cls := scr.cls, slots := scr.slots } : Cell) = vp_cell (G.ca 0) (14, .inl iniF) := by rw [g2, g5]; rfl
  have hfit : ∀ (i : Nat) (v : Value), scr.slots[i]? = some v → fits .int v = true := by
    intro i v hv
    rw [g5] at hv
    by_cases hi : i < 14
    · rw [arrV_read _ _ hi] at hv
      cases hv
      rfl
    · rw [Array.getElem?_eq_none (by rw [arrV_size]; omega)] at hv
      cases hv
  obtain ⟨vm', X', st⟩ := X.cloneArray hx hown (hts _ hw) (hts _ cw_same) (hts _ tw_113) (hts _ tw_114) (hts _ tw_115) (a := G.sa 3) (cell := scr) hcellT g4 g3 (by rw [g2]; exact hnm) f2 (by rw [g2]; exact f3)
    (fun i v hv => by
      rw [g2]
      have hk' : T.vm.classes[G.ca 0]? = some kA := hkA
      simpa [State.fitsSlot, State.slotType?, hk', hkind] using hfit i v hv)
    (g := F0 m pc la (.ref (G.sa 3) :: rest)) rfl (by exact hl.1) rfl (by rw [hb]; exact hd) (by omega) (by show 2 * 0 + _ + 14 ≤ _; omega) (by omega) (by rw [hsz]; omega) (hloader := by rw [g2]; exact Vm.clonesLoader_of_array hkS hkindS)
  rw [hce, hsz] at X'
  generalize hH1 : H.push (vp_cell (G.ca 0) (14, .inl iniF)) = H1
  have z1 : H1.size = H.size + 1 := by rw [← hH1, Array.size_push]
  have e1 : H1[H.size]? = some (vp_cell (G.ca 0) (14, .inl iniF)) := by rw [← hH1, Array.getElem?_push_size]
  have o1 : ∀ q : Nat, q < H.size → H1[q]? = H[q]? := fun q hq => by rw [← hH1, Array.getElem?_push, if_neg (Nat.ne_of_lt hq)]
  have hk : ∀ (k : Nat) (y : Nat × va_E), w[k]? = some y → H1[y.1]? = H[y.1]? := fun k y hy => o1 y.1 ((hP k y hy).lt)
  obtain ⟨t, b1, b2⟩ := k H.size H1 locs la ((hP.kept hk).app (fun k y hy => by
      have hz : k < 1 := (List.getElem?_eq_some_iff.mp hy).1
      rw [show k = 0 by omega] at hy
      cases hy
      exact e1)) (hD.push hP rfl (hA _ hS.1)) ⟨Nat.le_trans hS.1 (by omega), fun x h1 h2 => (o1 x (Nat.lt_of_lt_of_le h1 hS.1)).trans (hS.2.1 x h1 h2), hS.2.2⟩ hl _ (by show T.heap.push _ = H1; rw [hT]; exact hH1) X'
  refine ⟨t, st t ?_, b2⟩
  rw [hT, hce]
  exact b1
theorem y_cast {F : Cx} {c n pc : Nat} {ls : List (Nat × Value)} {rest : List Value} {w : va_W} {cc : ByteArray} {own : String} {index a q0 : Nat} {x : vp_A} (hF : OkC F cc own) (ha : w[q0]? = some (a, .inl ((gG F).2.2.1 0, x))) (hw : Cond.classLink own index "[I" ∈ tbG) (hd : decode cc pc = .ok (.checkcast index, 3)) (k : Y F c n (pc + 3) ls (.ref a :: rest) w) : Y F c n pc ls (.ref a :: rest) w := by
  obtain ⟨p, l, e, R, s, m, args, below, meth, co, A, G, Q⟩ := F
  obtain ⟨⟨hx, hb, hown, hts, hE, hA, -⟩, hEc⟩ := hF
  intro H locs la hP hD hS hl
  exact va_castA hx hb hown (hts _ hw) hP q0 ha (hE.1.2 0 _ rfl).2 hd (k H locs la hP hD hS hl)
theorem y_gets {F : Cx} {c n pc : Nat} {ls : List (Nat × Value)} {rest : List Value} {w : va_W} {cc : ByteArray} {own : String} {index : Nat} {C f d : String} {v : Value} (hF : OkC F cc own) (hz : (C, f, d, v) ∈ statZ (gG F)) (hw : (own, index, C, f, d, "QueueBlame") ∈ nestF) (hd : decode cc pc = .ok (.getstatic index, 3)) (k : Y F c n (pc + 3) ls (v :: rest) w) : Y F c n pc ls rest w := by
  obtain ⟨p, l, e, R, s, m, args, below, meth, co, A, G, Q⟩ := F
  obtain ⟨⟨hx, hb, hown, hts, hE, hA, -⟩, hEc⟩ := hF
  intro H locs la hP hD hS hl
  exact va_getsN hx hb (hE.2.2.2.1 _ hz) hS hown (va_Nw.use rfl (hE.2.2.1 _ hw)) (fun _ h => h) hd (k H locs la hP hD hS hl)
def PcI (G : Ga) (as : List Value) (h0 ci : Nat) (bl : List Value) (sz : Nat) : Array Value → State → Prop := va_Pc (.ref h0 :: as) (fun U => U.heap.size = sz ∧ va_P G.D vwCl [(h0, .inr (ci, bl))] U.heap ∧ Ec G (va_A [(h0, .inr (ci, bl))] sz) U U.heap)
def QcI (G : Ga) (h0 ci : Nat) (bl : List Value) (Rr : va_E → va_W → Prop) (sz : Nat) : Array Value → State → Outcome → State → Prop := fun _ st oc t => (∃ e0 nw, oc = .returned none ∧ Rr e0 nw ∧ va_P G.D vwCl ((h0, e0) :: nw) t.heap ∧ va_D (va_A [(h0, .inr (ci, bl))] sz) ((h0, e0) :: nw)) ∧ va_F (va_A [(h0, .inr (ci, bl))] sz) st t
def CI (l : Launch) (G : Ga) (d mc ms : Nat) (y : MethodName) (cc : ByteArray) (nL : Nat) (as : List Value) (h0 ci : Nat) (bl : List Value) (Rr : va_E → va_W → Prop) : Prop :=
  ∀ sz : Nat, Met l y (Cond.code y cc nL none :: tbG) { frames := d, cells := mc, slots := ms, locals := 40 * d } (PcI G as h0 ci bl sz) (QcI G h0 ci bl Rr sz) mc ms (va_A [(h0, .inr (ci, bl))] sz)
theorem blind_i {G : Ga} {as : List Value} {h0 ci : Nat} {bl : List Value} {sz : Nat} : FrameBlind (PcI G as h0 ci bl sz) := by
  intro a U g mk h
  obtain ⟨h0, h1, h2, h3⟩ := h
  exact ⟨h0, h1, h2, Ec.blind (U := U) rfl h3⟩
theorem va_A1 {h0 q sz : Nat} {e : va_E} (h : va_A [(h0, e)] sz q) : q = h0 ∨ sz ≤ q := by
  rcases h with ⟨k, e', h⟩ | h
  · have hz : k < 1 := (List.getElem?_eq_some_iff.mp h).1
    rw [show k = 0 by omega] at h
    cases h
    exact Or.inl rfl
  · exact Or.inr h
theorem y_call {F : Cx} {c n pc : Nat} {ls : List (Nat × Value)} {rest st : List Value} {w : va_W} {cc : ByteArray} {own : String} {d mc ms d' mc' ms' nL' n9 index h0 ci k0 nL : Nat} {bl : List Value} {y : MethodName} {cc' : ByteArray} {as : List Value} {Rr : va_E → va_W → Prop} (hF : OkC F cc own) (hN : nLF F nL) (hR : RmC F d mc ms) (hM : CI F.2.1 (gG F) d' mc' ms' y cc' nL' as h0 ci bl Rr) (hm : Mw y cc' nL' none n9) (hin : Cond.instanceMethod y ∈ tbG) (hnm : y.name = "<init>") (hlk : Cond.methodLink own index y ∈ tbG ∨ (own, index, y, "QueueBlame") ∈ nestM) (he : w[k0]? = some (h0, .inr (ci, bl))) (hc : c + mc' ≤ mc) (hs : n + ms' ≤ ms) (hdd : d' + 1 ≤ d) (hn : as.length = n9) (hst : st = as.reverse ++ .ref h0 :: rest) (hW : (rest.map fun v => v.category).sum ≤ 8) (hd : decode cc pc = .ok (.invokespecial index, 3)) (k : ∀ e0 nw, Rr e0 nw → Y F (c + mc') (n + ms') (pc + 3) ls rest (w.set k0 (h0, e0) ++ nw)) : Y F c n pc ls st w := by
  obtain ⟨p, l, e, R, s, m, args, below, meth, co, A, G, Q⟩ := F
  obtain ⟨⟨hx, hb, hown, hts, hE, hA, -⟩, hEc⟩ := hF
  obtain ⟨r1, r2, r3, r4⟩ := hR
  dsimp only at r1 r2 r3 r4
  have hml : co.maxLocals = nL := hN
  intro H locs la hP hD hS hl
  have hA0 : A h0 := hD.2 k0 _ he
  have hf : ∀ q, va_A [(h0, .inr (ci, bl))] H.size q → A q := by
    intro q h
    rcases va_A1 h with rfl | h
    · exact hA0
    · exact hA q (Nat.le_trans hS.1 h)
  have hpre : ∀ U : State, U.heap = H → s.WarmedH U.vm → PcI G as h0 ci bl H.size (.ref h0 :: as).toArray U := fun U hU hW => ⟨rfl, by rw [hU], by
      rw [hU]
      intro j q hq
      have hz : j < 1 := (List.getElem?_eq_some_iff.mp hq).1
      rw [show j = 0 by omega] at hq
      cases hq
      exact hP k0 _ he, by rw [hU]; exact Ec.moved hW (Ec.sub hf (Ec.kept hS.1 (fun q h1 h2 => hS.2.1 q h1 h2) hEc))⟩
  have hG := gi_in hm.1
  have hfr : ({ frames := d', cells := mc', slots := ms', locals := 40 * d' } : Room).frames + 1 ≤ R.frames := by show d' + 1 ≤ R.frames; omega
  have hlo : 8 + (nL' + 11) + ({ frames := d', cells := mc', slots := ms', locals := 40 * d' } : Room).locals ≤ R.locals := by show 8 + (nL' + 11) + 40 * d' ≤ R.locals; have := hm.2.2.2; omega
  have hrun : va_Run p l e R s m args below meth co H locs c n mc' ms' (F0 m pc la st) rest (QcI G h0 ci bl Rr H.size (Value.ref h0 :: as).toArray) (va_A [(h0, .inr (ci, bl))] H.size) := by
    rcases hlk with hlk | hlk
    · exact va_runI (Ts := tbG) (own := own) (n := n9) (index := index) (bytes := cc') (maxL := nL') (nL := nL) (As := as) (rest := rest) ⟨hx, hb, hml, hown, hts⟩ (hM H.size) ⟨callB_of n9 hts hG rfl rfl rfl (hts _ hm.2.1) (hts _ hlk) hm.2.2.1 ⟨hfr, hlo⟩, hnm, hts _ hin⟩ ⟨blind_i, hpre⟩ rfl hn (by rw [← hml]; exact hl.1) hst (lv_room hW) hd ⟨by omega, by omega⟩
    · exact va_runIN (Ts := tbG) (own := own) (n := n9) (index := index) (bytes := cc') (maxL := nL') (nL := nL) (host := "QueueBlame") (As := as) (rest := rest) ⟨hx, hb, hml, hown, hts⟩ (hM H.size) ⟨va_cnB n9 hts hG rfl rfl rfl (hE.2.1 _ hlk) (hts _ hm.2.1) hm.2.2.1 ⟨hfr, hlo⟩, hnm, hts _ hin⟩ ⟨blind_i, hpre⟩ rfl hn (by rw [← hml]; exact hl.1) hst (lv_room hW) hd ⟨by omega, by omega⟩
  intro T hT X
  obtain ⟨v1, st₀, t, T', L, h0', X', hL, e1, e2, ⟨⟨e0, nw, hv, hRr, hP1, hD1⟩, hz, hk⟩, stt⟩ := hrun T hT X
  cases hv
  rw [h0'] at hz hk
  have hk0 : k0 < w.length := (List.getElem?_eq_some_iff.mp he).1
  have hout : ∀ (j : Nat) (q : Nat × va_E), w[j]? = some q → j ≠ k0 → q.1 < H.size ∧ ¬ va_A [(h0, .inr (ci, bl))] H.size q.1 := by
    intro j q hq hj
    have hlq := (hP j q hq).lt
    refine ⟨hlq, fun h => ?_⟩
    rcases va_A1 h with h | h
    · exact hj (hD.1 j k0 q _ hq he h)
    · omega
  have hnew : ∀ (j : Nat) (q : Nat × va_E), nw[j]? = some q → H.size ≤ q.1 := by
    intro j q hq
    rcases va_A1 (hD1.2 (j + 1) q hq) with h | h
    · have := hD1.1 (j + 1) 0 q _ hq rfl h
      omega
    · exact h
  have hset : ∀ (j : Nat) (q : Nat × va_E), (w.set k0 (h0, e0))[j]? = some q → (j = k0 ∧ q = (h0, e0)) ∨ (j ≠ k0 ∧ w[j]? = some q) := by
    intro j q hq
    by_cases hj : j = k0
    · subst hj
      rw [List.getElem?_set_self hk0] at hq
      exact Or.inl ⟨rfl, (Option.some.inj hq).symm⟩
    · rw [List.getElem?_set_ne (fun e => hj e.symm)] at hq
      exact Or.inr ⟨hj, hq⟩
  have hP2 : va_P G.D vwCl (w.set k0 (h0, e0) ++ nw) t.heap := by
    refine va_P.app (fun j q hq => ?_) (fun j q hq => hP1 (j + 1) q hq)
    rcases hset j q hq with ⟨-, rfl⟩ | ⟨hj, hq⟩
    · exact hP1 0 _ rfl
    · obtain ⟨a1, a2⟩ := hout j q hq hj
      exact (hP j q hq).kept (hk q.1 a1 a2)
  have hD2 : va_D A (w.set k0 (h0, e0) ++ nw) := by
    refine va_D.app (hD.set he) ⟨fun i j x y hx hy e => by have := hD1.1 (i + 1) (j + 1) x y hx hy e; omega, fun j q hq => hf _ (hD1.2 (j + 1) q hq)⟩ (fun i j x y hx hy hxy => ?_)
    have h2 := hnew j y hy
    rcases hset i x hx with ⟨-, rfl⟩ | ⟨hj, hx⟩
    · have := (hP k0 _ he).lt
      dsimp only at hxy this
      omega
    · have := (hout i x hx hj).1
      omega
  obtain ⟨t2, a1, b1⟩ := k e0 nw hRr T'.heap (locs ++ L) la (by rw [e1]; exact hP2) hD2
    ⟨Nat.le_trans hS.1 (by rw [e1]; exact hz), fun q h1 h2 => by rw [e1, hk q (Nat.lt_of_lt_of_le h1 hS.1) (fun z => h2 (hf q z))]; exact hS.2.1 q h1 h2, fun q hq => by
      rcases List.mem_append.mp hq with h | h
      · exact hS.2.2 q h
      · exact hf _ (hL q h)⟩ hl T' rfl X'
  exact ⟨t2, stt t2 a1, b1⟩
theorem ci_of {l : Launch} {G : Ga} {d mc ms : Nat} {y : MethodName} {cc : ByteArray} {nL : Nat} {as : List Value} {h0 ci : Nat} {bl : List Value} {Rr : va_E → va_W → Prop} (hlt : l.stackTraces = false) (hy : plainName y.cls = true) (hnm : y.name = "<init>") (hn : (lg_sl (.ref h0 :: as)).length ≤ nL)
    (body : ∀ F : Cx, F.2.1 = l → gG F = G → OkC F cc y.cls → InF F → nLF F nL → RmC F d mc ms →
      (∀ (c n pc : Nat) (ls : List (Nat × Value)) (e0 : va_E) (nw : va_W), c ≤ mc → n ≤ ms → Rr e0 nw → decode cc pc = .ok (.return_, 1) → Y F c n pc ls [] ((h0, e0) :: nw)) → Y F 0 0 0 (lv_args 0 (.ref h0 :: as)) [] [(h0, .inr (ci, bl))]) : CI l G d mc ms y cc nL as h0 ci bl Rr := by
  intro sz
  refine Met.ofW (cc := cc) (maxL := nL) (ret := none) hy rfl ?_
  intro p e s m args below meth c s₁ B hml hv
  obtain ⟨rfl, hsz, hP, hE⟩ := hv
  have hx := B.exec
  have hb := B.bytes
  have hr := B.returns
  have hts := atoms_spec (ws := Cond.code y cc nL none :: tbG) B.pre
  have hown : s.vm.findClass y.cls = some m.cls := findClass_of_methodNamed B.named
  have hlocks := B.notSynchronized
  have hname : meth.name = "<init>" := (name_of_methodNamed B.named B.method).1.trans hnm
  subst hsz
  have hD : va_D (va_A [(h0, .inr (ci, bl))] s.heap.size) [(h0, .inr (ci, bl))] := ⟨fun i j x y hx hy e => by
      have h1 : i < 1 := (List.getElem?_eq_some_iff.mp hx).1
      have h2 : j < 1 := (List.getElem?_eq_some_iff.mp hy).1
      omega, fun _ _ hk => va_A.in hk⟩
  have hA : ∀ q : Nat, s.heap.size ≤ q → va_A [(h0, .inr (ci, bl))] s.heap.size q := fun q h => Or.inr h
  have hl9 := lv_entry (.ref h0 :: as) (n := nL) hn
  rw [lg_entry_eq]
  refine body (p, l, e, { frames := d, cells := mc, slots := ms, locals := 40 * d }, s, m, (.ref h0 :: as).toArray, below, meth, c, va_A [(h0, .inr (ci, bl))] s.heap.size, G, MQ below (QcI G h0 ci bl Rr s.heap.size) (.ref h0 :: as).toArray s mc ms (va_A [(h0, .inr (ci, bl))] s.heap.size)) rfl rfl ⟨⟨hx, hb, hown, fun w hw => hts w (List.mem_cons_of_mem _ hw), hE.1, hA, hlocks, hlt⟩, hE⟩ hname hml ⟨Nat.le_refl _, Nat.le_refl _, Nat.le_refl _, Nat.le_refl _⟩ ?_ s.heap [] _ hP hD va_S.rf (by rw [hml]; exact hl9)
  intro c9 n9 pc ls e0 nw h1 h2 h3 h4 H locs la hP hD hS hl
  refine W.widen (k := mc) (n := ms) h1 h2 ?_
  exact W.vret hx hb hr (fun t ht hW => ⟨⟨e0, nw, rfl, h3, by rw [ht]; exact hP, hD⟩, hS.F ht⟩) hS.2.2 h4
