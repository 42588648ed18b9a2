/-! ===== methods with handlers (the law's own), and the law's long array ===== -/
theorem x_last {F : Cx} {u pc : Nat} {ls : List (Nat × Value)} {rest : List Value} {S : St} {cc : ByteArray} {own : String} {k n : Nat} {i : Int32} {x : Int64} (hF : Ok F cc own) (hs : shp k = .inr (1, n)) (hk : k < NC) (hi : inb i n) {j : Nat} (hj : ix i = j) {S9 : St} (hT : S9 = sl S k j x) (hd : decode cc pc = .ok (.lastore, 1)) (kk : X F u (pc + 1) ls rest S9) : X F u pc ls (.long x :: .int i :: .ref (gA F k) :: rest) S := by
  obtain ⟨p, l, e, R, s, m, args, below, meth, c, A, G, Q⟩ := F
  obtain ⟨hx, hb, hown, hts, hE, hA, -⟩ := hF
  subst hj
  subst hT
  intro H locs la hP hD hS hl
  have e1 : (wd G S).set k (G.ad k, .inl (G.ca 1, n, .inr (.inl (vp_updL (gl S k) i.toNatClampNeg x)))) = wd G (sl S k (ix i) x) := by
    have e2 : vp_updL (gl S k) i.toNatClampNeg x = gl (sl S k (ix i) x) k := by
      funext b
      rw [gl_sl]
      simp [vp_updL]
    rw [e2, show (Sum.inl (G.ca 1, n, .inr (.inl (gl (sl S k (ix i) x) k))) : va_E) = cel G (sl S k (ix i) x) k from (by rw [cel_a hs]; rfl)]
    exact wd_set hk fun i hi => cel_ne (fun b => rfl) (fun b => by rw [gl_sl, if_neg (fun q => hi q.1)]) (fun b => rfl)
  refine va_last (D := G.D) hx hb hE.1 hP hD hS k 1 (n := n) (f := gl S k) (by rw [wd_get hk, cel_a hs]; rfl) rfl hi hd (fun H1 locs1 h1 h2 h3 => ?_)
  rw [e1] at h1 h2
  exact kk H1 locs1 la h1 h2 h3 hl
theorem x_lald {F : Cx} {u pc : Nat} {ls : List (Nat × Value)} {rest : List Value} {S : St} {cc : ByteArray} {own : String} {k n : Nat} {i : Int32} (hF : Ok F cc own) (hs : shp k = .inr (1, n)) (hk : k < NC) (hi : inb i n) {j : Nat} (hj : ix i = j) (hd : decode cc pc = .ok (.laload, 1)) (kk : X F u (pc + 1) ls (.long (gl S k j) :: rest) S) : X F u pc ls (.int i :: .ref (gA F k) :: rest) S := by
  obtain ⟨p, l, e, R, s, m, args, below, meth, c, A, G, Q⟩ := F
  obtain ⟨hx, hb, hown, hts, hE, hA, -⟩ := hF
  subst hj
  intro H locs la hP hD hS hl
  exact va_lald (D := G.D) hx hb hE.1 hP k 1 (n := n) (f := gl S k) (by rw [wd_get hk, cel_a hs]; rfl) rfl hi hd (kk H locs la hP hD hS hl)
def ow {α β : Type} (a : Option ((α ⊕ Nat) × St)) (f : α → St → Option β) (g : Nat → St → Option β) : Option β := match a with
  | none => none
  | some (.inl v, S) => f v S
  | some (.inr e, S) => g e S
theorem ow_some {α β : Type} {a : Option ((α ⊕ Nat) × St)} {f : α → St → Option β} {g : Nat → St → Option β} {r : β} (h : ow a f g = some r) : (∃ v S, a = some (.inl v, S) ∧ f v S = some r) ∨ ∃ e S, a = some (.inr e, S) ∧ g e S = some r := by
  cases a with
  | none => cases h
  | some q =>
    obtain ⟨q, S⟩ := q
    cases q with
    | inl v => exact Or.inl ⟨v, S, rfl, h⟩
    | inr e => exact Or.inr ⟨e, S, rfl, h⟩
def CW (l : Launch) (G : Ga) (d U : Nat) (y : MethodName) (cc : ByteArray) (nL : Nat) (hh : List (Nat × Nat × Nat × Nat)) (as : List Value) (S : St) (v : Option Value) (S' : St) : Prop :=
  ∀ sz : Nat, Met l y (Cond.codeWith y cc nL (some .int) hh :: tbG) (rmO d U) (va_Pc as (fun U => U.heap.size = sz ∧ Wk G sz S U)) (Qg G (va_A (wd G S) sz) v S') U (8 * U) (va_A (wd G S) sz)
theorem cast_in : ∀ e, e < 3 → Cond.castable (exn e) (exn e) ∈ exW := by decide +kernel
theorem cw_of {l : Launch} {G : Ga} {d U : Nat} {y : MethodName} {cc : ByteArray} {nL : Nat} {hh : List (Nat × Nat × Nat × Nat)} {as : List Value} {S : St} {v : Option Value} {S' : St} (hlt : l.stackTraces = false) (hy : plainName y.cls = true) (hn : (lg_sl as).length ≤ nL)
    (body : ∀ F : Cx, F.2.1 = l → gG F = G → Ok F cc y.cls → nLF F nL → RmF F d U →
      ((∀ (u pc : Nat) (ls : List (Nat × Value)) (x : Int32), u ≤ U → v = some (.int x) → decode cc pc = .ok (.ireturn, 1) → X F u pc ls [.int x] S') ∧
       (∀ (u pc e a b t ct : Nat) (ls : List (Nat × Value)) (S2 : St) (pre suf : List (Nat × Nat × Nat × Nat)), hh = pre ++ (a, b, t, ct) :: suf → covers ⟨a, b, t, ct⟩ pc = true → ct ≠ 0 → Cond.classLink y.cls ct (exn e) ∈ tbG → e < 3 → (∀ z ∈ pre, z.2.2.2 ≠ 0 ∧ ∃ e', (e, e') ∈ ncL ∧ Cond.classLink y.cls z.2.2.2 (exn e') ∈ tbG) → (∀ q : Nat, X F u t ls [.ref q] S2) → XT F u pc e ls S2)) → X F 0 0 (lv_args 0 as) [] S) : CW l G d U y cc nL hh as S v S' := by
  intro sz
  refine MetFree.of_bodyS (code := cc) (maxLocals := nL) (ret := some .int) hy ?_ ?_
  · intro args s m h hn
    obtain ⟨m9, meth, c, hn9, h1, h2, h3, h4, -, h5, h6, -⟩ := Cond.codeWith_spec (atoms_spec (ws := Cond.codeWith y cc nL (some .int) hh :: tbG) h _ List.mem_cons_self)
    cases hn.symm.trans hn9
    exact ⟨meth, c, h1, h2, h3, h4, h5, h6⟩
  · intro p e s m args below meth c s₁ B hml hP0 _
    have hh0 : s₁.heap = s.heap := by rw [B.state]; rfl
    obtain ⟨rfl, hsz, hP, hD0, hE⟩ := hP0
    have hx := B.exec
    have hb := B.bytes
    have hr := B.returns
    have hts0 := atoms_spec (ws := Cond.codeWith y cc nL (some .int) hh :: tbG) B.pre
    have hts : ∀ w ∈ tbG, w.before as.toArray s = true := fun w hw => hts0 w (List.mem_cons_of_mem _ hw)
    have htab : c.exceptionTable.toList = tableOf hh := vx_table (x := y) B (hts0 _ List.mem_cons_self)
    have hown : s.vm.findClass y.cls = some m.cls := findClass_of_methodNamed B.named
    have hlocks := B.notSynchronized
    subst hsz
    have hD := hD0.self (sz := s.heap.size)
    have hA : ∀ q : Nat, s.heap.size ≤ q → va_A (wd G S) s.heap.size q := fun q h => Or.inr h
    have hl9 := lv_entry as (n := nL) hn
    have key : W p l e (rmO d U) s m as.toArray below meth c s.heap [] 0 0 (MQ below (Qg G (va_A (wd G S) s.heap.size) v S') as.toArray s U (8 * U) (va_A (wd G S) s.heap.size)) (entryFrame m as.toArray nL) := by
      rw [lg_entry_eq]
      refine body (p, l, e, rmO d U, s, m, as.toArray, below, meth, c, va_A (wd G S) s.heap.size, G, MQ below (Qg G (va_A (wd G S) s.heap.size) v S') as.toArray s U (8 * U) (va_A (wd G S) s.heap.size)) rfl rfl ⟨hx, hb, hown, hts, hE, hA, hlocks, hlt⟩ hml ⟨Nat.le_refl _, Nat.le_refl _, Nat.le_refl _, Nat.le_refl _⟩ ⟨?_, ?_⟩ s.heap [] _ hP hD va_S.rf (by rw [hml]; exact hl9)
      · intro u pc ls x hu h2 h3 H locs la hP hD hS hl
        subst h2
        refine W.widen (k := U) (n := 8 * U) hu (by omega) ?_
        exact W.iret hx hb hr (fun t ht hW => ⟨⟨rfl, by rw [ht]; exact hP⟩, hS.F ht⟩) hS.2.2 h3
      · intro u pc x a b t ct ls S2 pre suf hsp hcov hct hlk hx3 hpre kk H locs la st q ce hP hD hS hl hq hcv hcl
        refine vx_catch (own := y.cls) (name := exn x) (E := exn x) hown (tableOf pre) ⟨a, b, t, ct⟩ (tableOf suf) ?_ ?_ hcov hct (hts _ hlk) (va_Nw.use (List.all_eq_true.mp exW_ot _ (cast_in x hx3)) (hE.2.2.2.2.2.2.2.2.1 _ (cast_in x hx3))) hq hcv hcl (kk q H locs la hP hD hS hl)
        · rw [htab, hsp]
          simp [tableOf]
        · intro z hz
          obtain ⟨z', hz', rfl⟩ := List.mem_map.mp hz
          obtain ⟨h1, e', h2, h3⟩ := hpre z' hz'
          exact Or.inr ⟨h1, exn e', hts _ h3, hE.2.2.2.2.2.2.2.2.2.1 (x, e') h2⟩
    obtain ⟨t, a1, o, b1, b2, b3⟩ := key s₁ hh0 (Stand.of_body B)
    exact ⟨t, o, a1, b1, b2, ⟨b3.1, b3.2⟩⟩
theorem x_backU {p : Program} {l : Launch} {e : Env} {R : Room} {s : State} {m : MethodId} {args : Array Value} {below : List Frame} {meth : Method} {c : Code} {A : Nat → Prop} {G : Ga} {Q : State → Prop} {u U' pc : Nat} {st0 rest : List Value} {a : Array Value} {S S' : St} {H : Heap} {locs : List Loc} {la : Array Slot} {v : Option Value} (hA : ∀ q, s.heap.size ≤ q → A q)
    (hD : va_D A (wd G S)) (hS : va_S A s.heap H locs) (hr : va_Run p l e R s m args below meth c H locs u (8 * u) U' (8 * U') (F0 m pc la st0) rest (Qg G (va_A (wd G S) H.size) v S' a) (va_A (wd G S) H.size))
    (kk : ∀ (H1 : Heap) (locs1 : List Loc), va_P G.D vwCl (wd G S') H1 → va_D A (wd G S') → va_S A s.heap H1 locs1 → W p l e R s m args below meth c H1 locs1 (u + U') (8 * (u + U')) Q (F0 m (pc + 3) la (v.toList ++ rest))) : W p l e R s m args below meth c H locs u (8 * u) Q (F0 m pc la st0) := by
  have hf : ∀ q, va_A (wd G S) H.size q → A q := by
    rintro q (⟨k, e, h⟩ | h)
    · exact hD.2 k _ h
    · exact hA q (Nat.le_trans hS.1 h)
  intro T hT X
  obtain ⟨v1, st₀, t, T', L, h0, X', hL, e1, e2, ⟨⟨hv, hP⟩, hz, hk⟩, st⟩ := hr T hT X
  cases hv
  rw [h0] at hz hk
  rw [show 8 * u + 8 * U' = 8 * (u + U') by omega] at X'
  obtain ⟨t2, a1, b1⟩ := kk T'.heap (locs ++ L) (by rw [e1]; exact hP) (wd_D hD)
    ⟨Nat.le_trans hS.1 (by rw [e1]; exact hz), fun q h1 h2 => by rw [e1, hk q (Nat.lt_of_lt_of_le h1 hS.1) (fun z => h2 (hf q z))]; exact hS.2.1 q h1 h2, fun q hq => by
      rcases List.mem_append.mp hq with h | h
      · exact hS.2.2 q h
      · exact hf _ (hL q h)⟩ T' rfl X'
  exact ⟨t2, st t2 a1, b1⟩
theorem gi_inW {y : MethodName} {cc : ByteArray} {nL : Nat} {ret : Option FieldType} {hh : List (Nat × Nat × Nat × Nat)} (h : Cond.codeWith y cc nL ret hh ∈ tbG) : GoodIn tbG (Cond.codeWith y cc nL ret hh :: tbG) := by
  intro w hw
  rcases List.mem_cons.mp hw with rfl | hw
  · exact ⟨h, tb_good h⟩
  · exact ⟨hw, tb_good hw⟩
/-- a call of one of the law's own methods -/
theorem x_cW {F : Cx} {u pc : Nat} {ls : List (Nat × Value)} {rest st : List Value} {S S' : St} {cc : ByteArray} {own : String} {d U d' U' nL' n index nL : Nat} {y : MethodName} {cc' : ByteArray} {hh : List (Nat × Nat × Nat × Nat)} {as : List Value} {r : Int32} (hF : Ok F cc own) (hN : nLF F nL) (hR : RmF F d U) (hM : CW F.2.1 (gG F) d' U' y cc' nL' hh as S (some (.int r)) S') (hm : Cond.codeWith y cc' nL' (some .int) hh ∈ tbG) (hi : Cond.static y ∈ tbG) (hini : Cond.initialized y.cls ∈ tbG) (hdd : y.cls ≠ "java/lang/invoke/MethodHandle" ∧ y.cls ≠ "java/lang/invoke/VarHandle" ∧ (parseMethodDescriptor y.desc).map (fun d => d.parameters.length) = some n) (hnL : nL' ≤ 21) (hw : Cond.methodLink own index y ∈ tbG) (hu : u + U' ≤ U ∧ d' + 1 ≤ d) (hn : as.length = n) (hst : st = as.reverse ++ rest) (hW : (rest.map fun v => v.category).sum ≤ 8) (hd : decode cc pc = .ok (.invokestatic index, 3)) (kk : X F (u + U') (pc + 3) ls (.int r :: rest) S') : X F u pc ls st S := by
  obtain ⟨p, l, e, R, s, m, args, below, meth, c, A, G, Q⟩ := F
  obtain ⟨hx, hb, hown, hts, hE, hA, -⟩ := hF
  intro H locs la hP hD hS hl
  obtain ⟨r1, r2, r3, r4⟩ := hR
  dsimp only at r1 r2 r3 r4
  have hml : c.maxLocals = nL := hN
  have hG := gi_inW hm
  refine x_backU (S := S) (S' := S') (v := some (.int r)) hA hD hS (vx_runSW (Ts := tbG) (own := own) (n := n) (index := index) (bytes := cc') (maxL := nL') (ret := some .int) (hh := hh) (nL := nL) (As := as) (rest := rest) ⟨hx, hb, hml, hown, hts⟩ (hM H.size) ?_ ⟨blind_w, x_pre (l := l) hE hA hP hD hS⟩ rfl hn (by rw [← hml]; exact hl.1) hst (lv_room hW) hd ⟨by omega, by omega⟩) (fun H1 locs1 h1 h2 h3 => kk H1 locs1 la h1 h2 h3 hl)
  refine ⟨⟨rfl, rfl, by show d' + 1 ≤ R.frames; omega, by show 8 + (nL' + 11) + 40 * d' ≤ R.locals; omega, pay_in hts hG, List.mem_cons_self⟩, hts _ hm, hts _ hini, ⟨hdd.1, hdd.2.1⟩, fun sig h => ?_, hts _ hw, hts _ hi⟩
  have h2 := hdd.2.2
  rw [h] at h2
  exact (Option.some.inj h2).symm
