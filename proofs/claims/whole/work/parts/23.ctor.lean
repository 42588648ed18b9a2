/-! ===== constructors: a world that grows, as a list ===== -/
theorem cw_code : Cond.code objectInit ⟨#[0xb1]⟩ 1 none ∈ tbG := tb_in 102 (by decide +kernel) (by decide +kernel)
theorem cw_same : Cond.sameMethod "[I" "java/lang/Object" "clone" "()Ljava/lang/Object;" ∈ tbG := tb_in 112 (by decide +kernel) (by decide +kernel)
/-- what only the constructors need -/
def Ec (G : Ga) (A : Nat → Prop) (U : State) (H : Heap) : Prop := En G A U H ∧ va_AO RX4 U ∧ va_AO RX0 U ∧ va_Nw (.castable "[I" "java/lang/Cloneable") U ∧
  ∃ scr : Cell, H[G.sa 3]? = some scr ∧ scr.cls = G.ca 0 ∧ scr.vm ≠ .unknown ∧ (∀ k, scr.vm ≠ .statics k) ∧ scr.slots = (arrV (G.ca 0) 14 (fun j => .int (iniF j))).slots ∧ ¬ A (G.sa 3)
theorem Ec.moved {G : Ga} {A : Nat → Prop} {u U : State} {H : Heap} (hW : u.WarmedH U.vm) (h : Ec G A u H) : Ec G A U H := ⟨En.moved hW h.1, va_AO.moved hW.alike h.2.1, va_AO.moved hW.alike h.2.2.1, va_Nw.warmC hW h.2.2.2.1, h.2.2.2.2⟩
theorem Ec.blind {G : Ga} {A : Nat → Prop} {U U' : State} {H : Heap} (hvm : U'.vm = U.vm) (h : Ec G A U H) : Ec G A U' H := ⟨En.blind hvm h.1, va_AO.moved (by rw [hvm]; exact Vm.Alike.refl _) h.2.1, va_AO.moved (by rw [hvm]; exact Vm.Alike.refl _) h.2.2.1, va_Nw.same rfl hvm.symm h.2.2.2.1, h.2.2.2.2⟩
theorem Ec.sub {G : Ga} {A B : Nat → Prop} {U : State} {H : Heap} (hAB : ∀ q, B q → A q) (h : Ec G A U H) : Ec G B U H := by
  obtain ⟨h1, h2, h3, h4, scr, g1, g2, g3, g4, g5, g6⟩ := h
  exact ⟨En.sub hAB h1, h2, h3, h4, scr, g1, g2, g3, g4, g5, fun hb => g6 (hAB _ hb)⟩
theorem Ec.kept {G : Ga} {A : Nat → Prop} {U : State} {H H1 : Heap} (hz : H.size ≤ H1.size) (hq : ∀ q : Nat, q < H.size → ¬ A q → H1[q]? = H[q]?) (h : Ec G A U H) : Ec G A U H1 := by
  obtain ⟨h1, h2, h3, h4, scr, g1, g2, g3, g4, g5, g6⟩ := h
  exact ⟨En.kept hz hq h1, h2, h3, h4, scr, (hq _ (Array.getElem?_eq_some_iff.mp g1).1 g6).trans g1, g2, g3, g4, g5, g6⟩
def OkC (F : Cx) (cc : ByteArray) (own : String) : Prop := Ok F cc own ∧ (match F with | (_, _, _, _, s, _, _, _, _, _, A, G, _) => Ec G A s s.heap)
/-- the frame is a constructor's -/
def InF (F : Cx) : Prop := F.2.2.2.2.2.2.2.2.1.name = "<init>"
def RmC (F : Cx) (d mc ms : Nat) : Prop := d ≤ F.2.2.2.1.frames ∧ mc ≤ F.2.2.2.1.cells ∧ ms ≤ F.2.2.2.1.slots ∧ 40 * d ≤ F.2.2.2.1.locals
def Y (F : Cx) (c n pc : Nat) (ls : List (Nat × Value)) (st : List Value) (w : va_W) : Prop := match F with
  | (p, l, e, R, s, m, args, below, meth, co, A, G, Q) => ∀ (H : Heap) (locs : List Loc) (la : Array Slot), va_P G.D vwCl w H → va_D A w → va_S A s.heap H locs → lv_has la co.maxLocals ls → W p l e R s m args below meth co H locs c n Q (F0 m pc la st)
section YL
variable {F : Cx} {c n pc : Nat} {ls : List (Nat × Value)} {rest : List Value} {w : va_W} {cc : ByteArray} {own : String}
theorem y_aload_n {q : Fin 4} {i x : Nat} (hF : OkC F cc own) (hd : decode cc pc = .ok (.aload_n q, 1)) (hi : (q : Nat) = i) (hx : lgt ls i = some (.ref x)) (k : Y F c n (pc + 1) ls (.ref x :: rest) w) : Y F c n pc ls rest w := by
  obtain ⟨p, l, e, R, s, m, args, below, meth, co, A, G, Q⟩ := F
  intro H locs la hP hD hS hl
  exact lv_aload_n hF.1.1 hF.1.2.1 hd hi (lv_g hl hx) (k H locs la hP hD hS hl)
theorem y_iload_n {q : Fin 4} {i : Nat} {x : Int32} (hF : OkC F cc own) (hd : decode cc pc = .ok (.iload_n q, 1)) (hi : (q : Nat) = i) (hx : lgt ls i = some (.int x)) (k : Y F c n (pc + 1) ls (.int x :: rest) w) : Y F c n pc ls rest w := by
  obtain ⟨p, l, e, R, s, m, args, below, meth, co, A, G, Q⟩ := F
  intro H locs la hP hD hS hl
  exact lv_iload_n hF.1.1 hF.1.2.1 hd hi (lv_g hl hx) (k H locs la hP hD hS hl)
theorem y_iconst {z : Int} {v : Int32} (hF : OkC F cc own) (hd : decode cc pc = .ok (.iconst z, 1)) (hv : Int32.ofInt z = v) (k : Y F c n (pc + 1) ls (.int v :: rest) w) : Y F c n pc ls rest w := by
  obtain ⟨p, l, e, R, s, m, args, below, meth, co, A, G, Q⟩ := F
  intro H locs la hP hD hS hl
  exact lv_iconst hF.1.1 hF.1.2.1 hd hv (k H locs la hP hD hS hl)
theorem y_bipush {z : Int} {v : Int32} (hF : OkC F cc own) (hd : decode cc pc = .ok (.bipush z, 2)) (hv : (Int8.ofInt z).toInt32 = v) (k : Y F c n (pc + 2) ls (.int v :: rest) w) : Y F c n pc ls rest w := by
  obtain ⟨p, l, e, R, s, m, args, below, meth, co, A, G, Q⟩ := F
  intro H locs la hP hD hS hl
  exact lv_bipush hF.1.1 hF.1.2.1 hd hv (k H locs la hP hD hS hl)
theorem y_sipush {z : Int} {v : Int32} (hF : OkC F cc own) (hd : decode cc pc = .ok (.sipush z, 3)) (hv : (Int16.ofInt z).toInt32 = v) (k : Y F c n (pc + 3) ls (.int v :: rest) w) : Y F c n pc ls rest w := by
  obtain ⟨p, l, e, R, s, m, args, below, meth, co, A, G, Q⟩ := F
  intro H locs la hP hD hS hl
  exact lv_sipush hF.1.1 hF.1.2.1 hd hv (k H locs la hP hD hS hl)
theorem y_iadd {x y : Int32} (hF : OkC F cc own) (hd : decode cc pc = .ok (.iadd, 1)) (k : Y F c n (pc + 1) ls (.int (x + y) :: rest) w) : Y F c n pc ls (.int y :: .int x :: rest) w := by
  obtain ⟨p, l, e, R, s, m, args, below, meth, co, A, G, Q⟩ := F
  intro H locs la hP hD hS hl
  exact lv_iadd hF.1.1 hF.1.2.1 hd (k H locs la hP hD hS hl)
theorem y_dup {va : Value} (hF : OkC F cc own) (hd : decode cc pc = .ok (.dup, 1)) (hva : va.category = 1) (k : Y F c n (pc + 1) ls (va :: va :: rest) w) : Y F c n pc ls (va :: rest) w := by
  obtain ⟨p, l, e, R, s, m, args, below, meth, co, A, G, Q⟩ := F
  intro H locs la hP hD hS hl
  exact lv_dup hF.1.1 hF.1.2.1 hd hva (k H locs la hP hD hS hl)
theorem y_istore_n (ls' : List (Nat × Value)) {q : Fin 4} {i nL : Nat} {x : Int32} (hF : OkC F cc own) (hN : nLF F nL) (hd : decode cc pc = .ok (.istore_n q, 1)) (hi : (q : Nat) = i) (hn : i < nL) (hl' : ls1 ls i (.int x) = ls') (k : Y F c n (pc + 1) ls' rest w) : Y F c n pc ls (.int x :: rest) w := by
  obtain ⟨p, l, e, R, s, m, args, below, meth, co, A, G, Q⟩ := F
  intro H locs la hP hD hS hl
  exact lv_istore_n hF.1.1 hF.1.2.1 hd hi hl (by rw [show co.maxLocals = nL from hN]; exact hn) hl' (fun la hl => k H locs la hP hD hS hl)
theorem y_iinc (ls' : List (Nat × Value)) {i nL : Nat} {z : Int} {x v : Int32} (hF : OkC F cc own) (hN : nLF F nL) (hd : decode cc pc = .ok (.iinc i z, 3)) (hx : lgt ls i = some (.int x)) (hv : x + Int32.ofInt z = v) (hn : i < nL) (hl' : ls1 ls i (.int v) = ls') (k : Y F c n (pc + 3) ls' rest w) : Y F c n pc ls rest w := by
  obtain ⟨p, l, e, R, s, m, args, below, meth, co, A, G, Q⟩ := F
  intro H locs la hP hD hS hl
  obtain ⟨j, hj⟩ := List.getElem?_of_mem (lgt_mem hx)
  exact lv_iinc hF.1.1 hF.1.2.1 hd hl hj hv (by rw [show co.maxLocals = nL from hN]; exact hn) hl' (fun la hl => k H locs la hP hD hS hl)
theorem y_goto {off : Int} {tgt : Nat} (hF : OkC F cc own) (hd : decode cc pc = .ok (.goto off, 3)) (ht : (pc : Int) + off = (tgt : Int)) (k : Y F c n tgt ls rest w) : Y F c n pc ls rest w := by
  obtain ⟨p, l, e, R, s, m, args, below, meth, co, A, G, Q⟩ := F
  intro H locs la hP hD hS hl
  exact lv_goto hF.1.1 hF.1.2.1 hd ht (k H locs la hP hD hS hl)
theorem y_icmp_ge {x y : Int32} {off : Int} {tgt : Nat} (hF : OkC F cc own) (hd : decode cc pc = .ok (.if_icmp .ge off, 3)) (ht : (pc : Int) + off = (tgt : Int)) (kt : y ≤ x → Y F c n tgt ls rest w) (kf : ¬ y ≤ x → Y F c n (pc + 3) ls rest w) : Y F c n pc ls (.int y :: .int x :: rest) w := by
  obtain ⟨p, l, e, R, s, m, args, below, meth, co, A, G, Q⟩ := F
  intro H locs la hP hD hS hl
  exact lv_icmp_ge hF.1.1 hF.1.2.1 hd ht (fun h => kt h H locs la hP hD hS hl) (fun h => kf h H locs la hP hD hS hl)
theorem y_objInit {a idx d mc ms : Nat} (hF : OkC F cc own) (hR : RmC F d mc ms) (hw : Cond.methodLink own idx objectInit ∈ tbG) (hd1 : 1 ≤ d) (hW : (rest.map fun v => v.category).sum ≤ 8) (hd : decode cc pc = .ok (.invokespecial idx, 3)) (k : Y F c n (pc + 3) ls rest w) : Y F c n pc ls (.ref a :: rest) w := by
  obtain ⟨p, l, e, R, s, m, args, below, meth, co, A, G, Q⟩ := F
  obtain ⟨⟨hx, hb, hown, hts, hE, hA, -⟩, hEc⟩ := hF
  obtain ⟨r1, r2, r3, r4⟩ := hR
  dsimp only at r1 r2 r3 r4
  intro H locs la hP hD hS hl
  refine W.objInit hx hb hown (hts _ hw) (hts _ tw_101) (hts _ cw_code) rfl (by exact hl.1) rfl hd (by omega) (by have h0 : (F0 m pc la (.ref a :: rest)).monitorRoom = 0 := rfl; rw [h0]; omega) ?_
  exact W.eq (g2 := F0 m (pc + 3) la rest) rfl (k H locs la hP hD hS hl)
/-- a new array of ints, of longs -/
theorem y_newi {x : Int32} {N d mc ms : Nat} (hF : OkC F cc own) (hR : RmC F d mc ms) (hN : ix x = N) (hx0 : ¬ x < 0) (hb4 : N ≤ 100000) (hc : c + 1 ≤ mc) (hs : n + N ≤ ms) (hd : decode cc pc = .ok (.newarray .int, 2)) (k : ∀ q : Nat, Y F (c + 1) (n + N) (pc + 2) ls (.ref q :: rest) (w ++ [(q, .inl ((gG F).2.2.1 0, N, .inl fun _ => 0))])) : Y F c n pc ls (.int x :: rest) w := by
  obtain ⟨p, l, e, R, s, m, args, below, meth, co, A, G, Q⟩ := F
  obtain ⟨⟨hx, hb, hown, hts, hE, hA, -⟩, hEc⟩ := hF
  obtain ⟨r1, r2, r3, r4⟩ := hR
  dsimp only at r1 r2 r3 r4
  intro H locs la hP hD hS hl
  refine va_newa (atype := .int) (ty := .int) (a0 := (N, .inl fun _ => 0)) hx hb (hts _ tw_144) rfl hE.1 hP hD hS hA (fun _ => rfl) hx0 hN (by show N * 4 ≤ _; omega) (by omega) (by omega) hd (fun q cA H1 hK1 hP1 hD1 hS1 => ?_)
  have e1 : s.vm.findClass ("[" ++ FieldType.int.toString) = some cA := (hK1.2 4 _ rfl).2
  have e2 : s.vm.findClass ("[" ++ FieldType.int.toString) = some (G.ca 0) := (hE.1.2 0 _ rfl).2
  have e3 : cA = G.ca 0 := Option.some.inj (e1.symm.trans e2)
  subst e3
  exact k q H1 locs la hP1 hD1 hS1 hl
theorem y_newl {x : Int32} {N d mc ms : Nat} (hF : OkC F cc own) (hR : RmC F d mc ms) (hN : ix x = N) (hx0 : ¬ x < 0) (hb4 : N ≤ 100000) (hc : c + 1 ≤ mc) (hs : n + N ≤ ms) (hd : decode cc pc = .ok (.newarray .long, 2)) (k : ∀ q : Nat, Y F (c + 1) (n + N) (pc + 2) ls (.ref q :: rest) (w ++ [(q, .inl ((gG F).2.2.1 1, N, .inr (.inl fun _ => 0)))])) : Y F c n pc ls (.int x :: rest) w := by
  obtain ⟨p, l, e, R, s, m, args, below, meth, co, A, G, Q⟩ := F
  obtain ⟨⟨hx, hb, hown, hts, hE, hA, -⟩, hEc⟩ := hF
  obtain ⟨r1, r2, r3, r4⟩ := hR
  dsimp only at r1 r2 r3 r4
  intro H locs la hP hD hS hl
  refine va_newa (atype := .long) (ty := .long) (a0 := (N, .inr (.inl fun _ => 0))) hx hb (hts _ tw_1483) rfl hE.1 hP hD hS hA (fun _ => rfl) hx0 hN (by show N * 8 ≤ _; omega) (by omega) (by omega) hd (fun q cA H1 hK1 hP1 hD1 hS1 => ?_)
  have e1 : s.vm.findClass ("[" ++ FieldType.long.toString) = some cA := (hK1.2 4 _ rfl).2
  have e2 : s.vm.findClass ("[" ++ FieldType.long.toString) = some (G.ca 1) := (hE.1.2 1 _ rfl).2
  have e3 : cA = G.ca 1 := Option.some.inj (e1.symm.trans e2)
  subst e3
  exact k q H1 locs la hP1 hD1 hS1 hl
/-- a new array of references: of Recordings (t = 2), of Commands (t = 3) -/
theorem y_newq {x : Int32} {N d mc ms index t : Nat} {C : String} (hF : OkC F cc own) (hR : RmC F d mc ms) (ht : (t = 2 ∧ C = RX4) ∨ (t = 3 ∧ C = RX0)) (hw : Cond.classLink own index C ∈ tbG) (hN : ix x = N) (hx0 : ¬ x < 0) (hb4 : N ≤ 100000) (hc : c + 1 ≤ mc) (hs : n + N ≤ ms) (hd : decode cc pc = .ok (.anewarray index, 3)) (k : ∀ q : Nat, Y F (c + 1) (n + N) (pc + 3) ls (.ref q :: rest) (w ++ [(q, .inl ((gG F).2.2.1 t, N, .inr (.inr (.inr (.inr fun _ => none)))))])) : Y F c n pc ls (.int x :: rest) w := by
  obtain ⟨p, l, e, R, s, m, args, below, meth, co, A, G, Q⟩ := F
  obtain ⟨⟨hx, hb, hown, hts, hE, hA, -⟩, hEc⟩ := hF
  obtain ⟨r1, r2, r3, r4⟩ := hR
  dsimp only at r1 r2 r3 r4
  intro H locs la hP hD hS hl
  have hao : va_AO C s := by
    rcases ht with ⟨-, rfl⟩ | ⟨-, rfl⟩
    · exact hEc.2.1
    · exact hEc.2.2.1
  refine va_newq hx hb hown (hts _ hw) hao hE.1 hP hD hS hA hx0 hN (by omega) (by omega) (by omega) hd (fun q cA H1 hK1 hP1 hD1 hS1 => ?_)
  obtain ⟨-, kA, comp, -, -, -, e1⟩ := hK1.2 4 _ rfl
  have e3 : cA = G.ca t := by
    rcases ht with ⟨rfl, rfl⟩ | ⟨rfl, rfl⟩
    · obtain ⟨-, kA, comp, -, -, -, e2⟩ := hE.1.2 2 _ rfl
      exact Option.some.inj (e1.symm.trans e2)
    · obtain ⟨-, kA, comp, -, -, -, e2⟩ := hE.1.2 3 _ rfl
      exact Option.some.inj (e1.symm.trans e2)
  subst e3
  exact k q H1 locs la hP1 hD1 hS1 hl
theorem y_new {d mc ms ci N index : Nat} {C : String} {T : u_T} {ty : Nat → FieldType} (fs : List Value) (hF : OkC F cc own) (hR : RmC F d mc ms) (hC : CkO ci C T N ty) (hw : Cond.classLink own index C ∈ tbG) (hwi : Cond.instantiable C N ∈ tbG) (hwn : Cond.initialized C ∈ tbG) (hfs : ∀ j, j < N → defaultValue (ty j) = vp_V fs j) (hc : c + 1 ≤ mc) (hs : n + N ≤ ms) (hd : decode cc pc = .ok (.new index, 3)) (k : ∀ q : Nat, Y F (c + 1) (n + N) (pc + 3) ls (.ref q :: rest) (w ++ [(q, .inr (ci, fs))])) : Y F c n pc ls rest w := by
  obtain ⟨p, l, e, R, s, m, args, below, meth, co, A, G, Q⟩ := F
  obtain ⟨⟨hx, hb, hown, hts, hE, hA, -⟩, hEc⟩ := hF
  obtain ⟨r1, r2, r3, r4⟩ := hR
  dsimp only at r1 r2 r3 r4
  intro H locs la hP hD hS hl
  exact va_new (D := G.D) hx hb hts hC.2.1 ty hC.2.2.1 hown (hts _ hw) (hts _ hwi) (hts _ hwn) hE.1 hP hD hS hA hC.1 hfs (by omega) (by omega) hd (fun q H1 hP1 hD1 hS1 => k q H1 locs la hP1 hD1 hS1 hl)
/-- a final field gets its value -/
theorem y_putF {a q0 ci N index : Nat} {C : String} {T : u_T} {ty : Nat → FieldType} {fs : List Value} {v : Value} {tj : FieldType} (hF : OkC F cc own) (hI : InF F) (he : w[q0]? = some (a, .inr (ci, fs))) (j : Nat) (hC : CkO ci C T N ty) (hN : j < N) (hw : Cond.fieldLink own index C (T j).2.1 (T j).2.2.1 ∈ tbG) (hr : (T j).1 = C) (hfin : (T j).2.2.2 = true) (hown9 : C = own) (hty : ty j = tj) (hn : narrow tj v = v) (hfit : fits tj v = true) (hl9 : j < fs.length) (hd : decode cc pc = .ok (.putfield index, 3)) (k : Y F c n (pc + 3) ls rest (w.set q0 (a, .inr (ci, fs.set j v)))) : Y F c n pc ls (v :: .ref a :: rest) w := by
  obtain ⟨p, l, e, R, s, m, args, below, meth, co, A, G, Q⟩ := F
  obtain ⟨⟨hx, hb, hown, hts, hE, hA, -⟩, hEc⟩ := hF
  have hin : meth.name = "<init>" := hI
  intro H locs la hP hD hS hl
  exact va_putF (D := G.D) hx hb hts hC.2.1 ty hC.2.2.1 hC.2.2.2 hown hE.1 hP hD hS q0 he hC.1 j hN (hts _ hw) (by rw [hr]; exact fun _ h => h) hfin hin (hr.trans hown9) (hty ▸ hC.2.2.1 j hN) hn hfit hl9 hd (fun H1 locs1 h1 h2 h3 => k H1 locs1 la h1 h2 h3 hl)
theorem y_get {a q0 ci N index : Nat} {C : String} {T : u_T} {ty : Nat → FieldType} {fs : List Value} {v : Value} (hF : OkC F cc own) (he : w[q0]? = some (a, .inr (ci, fs))) (j : Nat) (hC : CkO ci C T N ty) (hN : j < N) (hw : Cond.fieldLink own index C (T j).2.1 (T j).2.2.1 ∈ tbG) (hr : (T j).1 = C) (hv : fs[j]? = some v) (hd : decode cc pc = .ok (.getfield index, 3)) (k : Y F c n (pc + 3) ls (v :: rest) w) : Y F c n pc ls (.ref a :: rest) w := by
  obtain ⟨p, l, e, R, s, m, args, below, meth, co, A, G, Q⟩ := F
  obtain ⟨⟨hx, hb, hown, hts, hE, hA, -⟩, hEc⟩ := hF
  intro H locs la hP hD hS hl
  exact va_get (D := G.D) hx hb hts hC.2.1 hown hE.1 hP q0 he hC.1 j hN (hts _ hw) (by rw [hr]; exact fun _ h => h) hv hd (k H locs la hP hD hS hl)
theorem y_iast {a q0 N : Nat} {f : Nat → Int32} {i x : Int32} (hF : OkC F cc own) (ha : w[q0]? = some (a, .inl ((gG F).2.2.1 0, N, .inl f))) (hi : inb i N) (hd : decode cc pc = .ok (.iastore, 1)) (k : Y F c n (pc + 1) ls rest (w.set q0 (a, .inl ((gG F).2.2.1 0, N, .inl (upd f (ix i) x))))) : Y F c n pc ls (.int x :: .int i :: .ref a :: rest) w := by
  obtain ⟨p, l, e, R, s, m, args, below, meth, co, A, G, Q⟩ := F
  obtain ⟨⟨hx, hb, hown, hts, hE, hA, -⟩, hEc⟩ := hF
  intro H locs la hP hD hS hl
  exact va_iast (D := G.D) hx hb hE.1 hP hD hS q0 0 ha rfl hi hd (fun H1 locs1 h1 h2 h3 => k H1 locs1 la h1 h2 h3 hl)
/-- a Recording goes into History's row -/
theorem y_aast {a q0 qk N v : Nat} {fs : List Value} {f : Nat → Option Nat} {i : Int32} (hF : OkC F cc own) (ha : w[q0]? = some (a, .inl ((gG F).2.2.1 2, N, .inr (.inr (.inr (.inr f)))))) (hv : w[qk]? = some (v, .inr (3, fs))) (hi : inb i N) (hd : decode cc pc = .ok (.aastore, 1)) (k : Y F c n (pc + 1) ls rest (w.set q0 (a, .inl ((gG F).2.2.1 2, N, .inr (.inr (.inr (.inr (va_up f (ix i) (some v))))))))) : Y F c n pc ls (.ref v :: .int i :: .ref a :: rest) w := by
  obtain ⟨p, l, e, R, s, m, args, below, meth, co, A, G, Q⟩ := F
  obtain ⟨⟨hx, hb, hown, hts, hE, hA, -⟩, hEc⟩ := hF
  intro H locs la hP hD hS hl
  exact va_astq (D := G.D) (r := (RX4, TX4, 5)) hx hb hE.1 hP hD hS q0 2 qk 3 ha rfl hv rfl hi hd (fun H1 locs1 h1 h2 h3 => k H1 locs1 la h1 h2 h3 hl)
theorem y_astore_n (ls' : List (Nat × Value)) {q : Fin 4} {i nL x : Nat} (hF : OkC F cc own) (hN : nLF F nL) (hd : decode cc pc = .ok (.astore_n q, 1)) (hi : (q : Nat) = i) (hn : i < nL) (hl' : ls1 ls i (.ref x) = ls') (k : Y F c n (pc + 1) ls' rest w) : Y F c n pc ls (.ref x :: rest) w := by
  obtain ⟨p, l, e, R, s, m, args, below, meth, co, A, G, Q⟩ := F
  intro H locs la hP hD hS hl
  exact lv_astore_n hF.1.1 hF.1.2.1 hd hi hl (by rw [show co.maxLocals = nL from hN]; exact hn) hl' (fun la hl => k H locs la hP hD hS hl)
theorem y_istore (ls' : List (Nat × Value)) {i nL : Nat} {x : Int32} (hF : OkC F cc own) (hN : nLF F nL) (hd : decode cc pc = .ok (.istore i, 2)) (hn : i < nL) (hl' : ls1 ls i (.int x) = ls') (k : Y F c n (pc + 2) ls' rest w) : Y F c n pc ls (.int x :: rest) w := by
  obtain ⟨p, l, e, R, s, m, args, below, meth, co, A, G, Q⟩ := F
  intro H locs la hP hD hS hl
  exact lv_istore hF.1.1 hF.1.2.1 hd hl (by rw [show co.maxLocals = nL from hN]; exact hn) hl' (fun la hl => k H locs la hP hD hS hl)
end YL
