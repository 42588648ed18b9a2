/-! ===== the judgement: from here the frame comes to its end with Q ===== -/
def nestM : List (String × Nat × MethodName × String) := [(RX7, 9, yX4_init, "QueueBlame"), (RX1, 17, yX4_init, "QueueBlame"), (RX5, 11, yX3_init, "QueueBlame"), (RX5, 20, yX2_init, "QueueBlame"), (RX7, 37, yX6_init, "QueueBlame"), (RX5, 67, yX7_contains, "QueueBlame"), (RX5, 154, yX7_quotient, "QueueBlame"), (RX4, 50, yX7_isAllowed, "QueueBlame")]
def nestF : List (String × Nat × String × String × String × String) := [(RX4, 21, "QueueBlame", "INITIAL", "[I", "QueueBlame"), (RX6, 57, "QueueBlame", "COMMANDS", "[LQueueBlame$Command;", "QueueBlame")]
def lowF (k : Nat) : Int32 := [1, 1, 0, 0, 1, 0, 2, 0, 0, 0, 0, 0, 0, 0].getD k 0
def higF (k : Nat) : Int32 := [1000, 100, 4, 2, 16, 1000, 9, 2, 9, 9, 9, 9, 9, 9].getD k 0
def ordF (k : Nat) : Int32 := [120, 24, 12, 12, 24, 120].getD k 0
def iniF (k : Nat) : Int32 := [100, 10, 0, 0, 4, 50, 3, 0, 5, 5, 5, 5, 5, 5].getD k 0
def statZ (G : Ga) : List (String × String × String × Value) := [("QueueBlame", "LOWEST", "[I", .ref (G.sa 0)), ("QueueBlame", "HIGHEST", "[I", .ref (G.sa 1)), ("QueueBlame", "ORDERS_BY_FLOWS_BEFORE", "[I", .ref (G.sa 2)), ("QueueBlame", "INITIAL", "[I", .ref (G.sa 3)), ("QueueBlame", "COMMANDS", "[LQueueBlame$Command;", .ref (G.sa 4)), ("QueueBlame$Command", "PACKET", "LQueueBlame$Command;", .ref (G.ec 0)), ("QueueBlame$Command", "PRIORITY", "LQueueBlame$Command;", .ref (G.ec 5)), ("java/lang/String", "COMPACT_STRINGS", "Z", .int 1)]
def statX (G : Ga) : List (Nat × Nat × (Nat → Int32)) := [(G.sa 0, 14, lowF), (G.sa 1, 14, higF), (G.sa 2, 6, ordF), (G.sa 3, 14, iniF)]
def msgL : List (Nat × String) := [(252, "not 0 to 5"), (62, "time or size is out of range"), (73, "there are 40 packets"), (259, "there is no such packet"), (102, "what is not 0 to 2"), (270, "value is out of range"), (255, "flows is not 0 to 63"), (148, "flows contains the flow"), (257, "part is not 0 or 1"), (165, "both flows are the same"), (173, "orders or start is out of range"), (196, "drops is not 0 or more"), (209, "c is out of range"), (212, "the text has 120 characters"), (223, "the text has a fault"), (237, "no state is saved")]
theorem cd_warm {w : Cond} (h : isCD w = true) {s U : State} (hW : s.WarmedH U.vm) (hZ : va_Nw w s) : va_Nw w U := by
  cases w <;> first | exact va_Nw.warmC hW hZ | exact va_Nw.warmD hW hZ | cases h
theorem cd_same {w : Cond} (h : isCD w = true) {u U : State} (hv : u.vm = U.vm) (hZ : va_Nw w u) : va_Nw w U := by
  cases w <;> first | exact va_Nw.same rfl hv hZ | cases h
def ncL : List (Nat × Nat) := [(0, 1), (0, 2), (1, 0), (1, 2), (2, 0), (2, 1)]
def cmdN (i : Nat) : Int32 := [3, 1, 1, 1, 1, 2, 1].getD i 0
def cmdS (i : Nat) : Int32 := [-1, 0, 1, 2, 3, -1, 7].getD i 0
def wLen : List Nat := [6, 8, 4, 6, 9, 8, 7]
def wByt : List (List Int32) := [[112, 97, 99, 107, 101, 116], [99, 97, 112, 97, 99, 105, 116, 121], [114, 97, 116, 101], [112, 111, 108, 105, 99, 121], [115, 99, 104, 101, 100, 117, 108, 101, 114], [112, 114, 105, 111, 114, 105, 116, 121], [109, 101, 97, 115, 117, 114, 101]]
def wLn (i : Nat) : Nat := wLen.getD i 0
def wCh (i k : Nat) : Int32 := (wByt.getD i []).getD k 0
/-- the enum's constants, their words, the table of commands -/
def En6 (G : Ga) (A : Nat → Prop) (U : State) (H : Heap) : Prop := va_T (.object RX0) (G.sa 4) 7 (fun j => .ref (G.ec j)) A U H ∧ (∀ i, i < 7 → va_O RX0 (G.ec i) A U H ∧ va_OF RX0 "word" "Ljava/lang/String;" (.ref (G.sa (10 + i))) (G.ec i) A U H ∧ va_OF RX0 "numbers" "I" (.int (cmdN i)) (G.ec i) A U H ∧ va_OF RX0 "setting" "I" (.int (cmdS i)) (G.ec i) A U H) ∧ vk_S 7 wLen wByt (fun i => G.sa (10 + i)) (fun i => G.sa (20 + i)) A U H ∧ va_Zq "jdk/internal/util/Preconditions" "SIOOBE_FORMATTER" "Ljava/util/function/BiFunction;" A U H ∧ ∀ i j, i < 7 → j < 7 → G.ec i = G.ec j → i = j
theorem En6.moved {G : Ga} {A : Nat → Prop} {u U : State} {H : Heap} (ha : u.vm.Alike U.vm) (h : En6 G A u H) : En6 G A U H := by
  obtain ⟨h1, h2, h3, h4, h5⟩ := h
  exact ⟨va_T.moved ha h1, fun i hi => ⟨va_O.moved ha (h2 i hi).1, va_OF.moved ha (h2 i hi).2.1, va_OF.moved ha (h2 i hi).2.2.1, va_OF.moved ha (h2 i hi).2.2.2⟩, vk_S.moved ha h3, va_Zq.moved ha h4, h5⟩
theorem En6.sub {G : Ga} {A B : Nat → Prop} {U : State} {H : Heap} (hAB : ∀ q, B q → A q) (h : En6 G A U H) : En6 G B U H := by
  obtain ⟨h1, h2, h3, h4, h5⟩ := h
  exact ⟨va_T.narrow h1 hAB, fun i hi => ⟨va_O.narrow (h2 i hi).1 hAB, va_OF.narrow (h2 i hi).2.1 hAB, va_OF.narrow (h2 i hi).2.2.1 hAB, va_OF.narrow (h2 i hi).2.2.2 hAB⟩, vk_S.narrow h3 hAB, va_Zq.narrow h4 hAB, h5⟩
theorem En6.kept {G : Ga} {A : Nat → Prop} {U : State} {H H1 : Heap} (hq : ∀ q : Nat, q < H.size → ¬ A q → H1[q]? = H[q]?) (h : En6 G A U H) : En6 G A U H1 := by
  obtain ⟨h1, h2, h3, h4, h5⟩ := h
  exact ⟨va_T.kept h1 hq, fun i hi => ⟨va_O.kept (h2 i hi).1 hq, va_OF.kept (h2 i hi).2.1 hq, va_OF.kept (h2 i hi).2.2.1 hq, va_OF.kept (h2 i hi).2.2.2 hq⟩, vk_S.kept h3 hq, va_Zq.kept h4 hq, h5⟩
/-- what the tables and the cells outside the world say, at a state and a heap -/
def En (G : Ga) (A : Nat → Prop) (U : State) (H : Heap) : Prop := va_K G.D vwCl [(G.ca 0, .int), (G.ca 1, .long), (G.ca 2, .object "QueueBlame$Recording"), (G.ca 3, .object "QueueBlame$Command")] U ∧
  (∀ w ∈ nestM, va_Nw (.methodLinkNest w.1 w.2.1 w.2.2.1 w.2.2.2) U) ∧ (∀ w ∈ nestF, va_Nw (.fieldLinkNest w.1 w.2.1 w.2.2.1 w.2.2.2.1 w.2.2.2.2.1 w.2.2.2.2.2) U) ∧
  (∀ z ∈ statZ G, va_Z z.1 z.2.1 z.2.2.1 z.2.2.2 A U H) ∧ (∀ q ∈ statX G, va_X q.1 q.2.1 q.2.2 U H ∧ q.1 < H.size ∧ ¬ A q.1) ∧
  (∀ (j : Nat) (q : Nat × String), msgL[j]? = some q → vk_R RX7 q.1 q.2 (G.sa (30 + j)) U) ∧
  vx_Zq Bundle.tN "UNASSIGNED_STACK" Bundle.steD A U H ∧ vx_Zq Bundle.tN "SUPPRESSED_SENTINEL" Bundle.listD A U H ∧
  (∀ w ∈ exW, va_Nw w U) ∧ (∀ q ∈ ncL, va_Nc (exn q.1) (exn q.2) U) ∧ En6 G A U H
theorem En.moved {G : Ga} {A : Nat → Prop} {u U : State} {H : Heap} (hW : u.WarmedH U.vm) (h : En G A u H) : En G A U H := by
  obtain ⟨h1, h2, h3, h4, h5, h6, h7, h8, h9, h10, h11⟩ := h
  exact ⟨va_K.moved hW.alike h1, fun w hw => va_Nw.warmM hW (h2 w hw), fun w hw => va_Nw.warmF hW (h3 w hw), fun z hz => va_Z.moved hW.alike (h4 z hz), fun q hq => ⟨va_X.moved hW.alike (h5 q hq).1, (h5 q hq).2⟩, fun j q hq => vk_R.warm hW (h6 j q hq), vx_Zq.moved hW.alike h7, vx_Zq.moved hW.alike h8, fun w hw => cd_warm (List.all_eq_true.mp exW_ok w hw) hW (h9 w hw), fun q hq => va_Nc.moved hW.alike (h10 q hq), En6.moved hW.alike h11⟩
theorem En.blind {G : Ga} {A : Nat → Prop} {U U' : State} {H : Heap} (hvm : U'.vm = U.vm) (h : En G A U H) : En G A U' H := by
  have ha : U.vm.Alike U'.vm := by rw [hvm]; exact Vm.Alike.refl _
  obtain ⟨h1, h2, h3, h4, h5, h6, h7, h8, h9, h10, h11⟩ := h
  exact ⟨va_K.moved ha h1, fun w hw => va_Nw.same rfl hvm.symm (h2 w hw), fun w hw => va_Nw.same rfl hvm.symm (h3 w hw), fun z hz => va_Z.moved ha (h4 z hz), fun q hq => ⟨va_X.moved ha (h5 q hq).1, (h5 q hq).2⟩, fun j q hq => vk_R.same hvm (h6 j q hq), vx_Zq.moved ha h7, vx_Zq.moved ha h8, fun w hw => cd_same (List.all_eq_true.mp exW_ok w hw) hvm.symm (h9 w hw), fun q hq => va_Nc.moved ha (h10 q hq), En6.moved ha h11⟩
theorem En.sub {G : Ga} {A B : Nat → Prop} {U : State} {H : Heap} (hAB : ∀ q, B q → A q) (h : En G A U H) : En G B U H := by
  obtain ⟨h1, h2, h3, h4, h5, h6, h7, h8, h9, h10, h11⟩ := h
  exact ⟨h1, h2, h3, fun z hz => va_Z.narrow (h4 z hz) hAB, fun q hq => ⟨(h5 q hq).1, (h5 q hq).2.1, fun hb => (h5 q hq).2.2 (hAB _ hb)⟩, h6, vx_Zq.narrow h7 hAB, vx_Zq.narrow h8 hAB, h9, h10, En6.sub hAB h11⟩
theorem En.kept {G : Ga} {A : Nat → Prop} {U : State} {H H1 : Heap} (hz : H.size ≤ H1.size) (hq : ∀ q : Nat, q < H.size → ¬ A q → H1[q]? = H[q]?) (h : En G A U H) : En G A U H1 := by
  obtain ⟨h1, h2, h3, h4, h5, h6, h7, h8, h9, h10, h11⟩ := h
  exact ⟨h1, h2, h3, fun z hz => va_Z.kept (h4 z hz) hq, fun q hx => ⟨va_X.kept (h5 q hx).1 (hq _ (h5 q hx).2.1 (h5 q hx).2.2), Nat.lt_of_lt_of_le (h5 q hx).2.1 hz, (h5 q hx).2.2⟩, h6, vx_Zq.kept h7 hq, vx_Zq.kept h8 hq, h9, h10, En6.kept hq h11⟩
abbrev Cx : Type := Program × Launch × Env × Room × State × MethodId × Array Value × List Frame × Method × Code × (Nat → Prop) × Ga × (State → Prop)
def Ok (F : Cx) (cc : ByteArray) (own : String) : Prop := match F with
  | (p, l, _, _, s, m, args, _, meth, c, A, G, _) => p.tables.exec = Jvm.exec ∧ c.code = cc ∧ s.vm.findClass own = some m.cls ∧ (∀ w ∈ tbG, w.before args s = true) ∧ En G A s s.heap ∧ (∀ q, s.heap.size ≤ q → A q) ∧ meth.locks = false ∧ l.stackTraces = false
def RmF (F : Cx) (d u : Nat) : Prop := d ≤ F.2.2.2.1.frames ∧ u ≤ F.2.2.2.1.cells ∧ 8 * u ≤ F.2.2.2.1.slots ∧ 40 * d ≤ F.2.2.2.1.locals
def X (F : Cx) (u pc : Nat) (ls : List (Nat × Value)) (st : List Value) (S : St) : Prop := match F with
  | (p, l, e, R, s, m, args, below, meth, c, A, G, Q) => ∀ (H : Heap) (locs : List Loc) (la : Array Slot), va_P G.D vwCl (wd G S) H → va_D A (wd G S) → va_S A s.heap H locs → lv_has la c.maxLocals ls → W p l e R s m args below meth c H locs u (8 * u) Q (F0 m pc la st)
/-! locals by their places -/
def lgt : List (Nat × Value) → Nat → Option Value
  | [], _ => none
  | q :: t, i => if q.1 = i then some q.2 else lgt t i
theorem lgt_mem : ∀ {ls : List (Nat × Value)} {i : Nat} {v : Value}, lgt ls i = some v → (i, v) ∈ ls := by
  intro ls
  induction ls with
  | nil => intro i v h; cases h
  | cons q t ih =>
    intro i v h
    unfold lgt at h
    split at h
    · cases h
      rename_i e
      subst e
      exact List.mem_cons_self
    · exact List.mem_cons_of_mem _ (ih h)
theorem lv_g {la : Array Slot} {nL : Nat} {ls : List (Nat × Value)} (h : lv_has la nL ls) {i : Nat} {v : Value} (hk : lgt ls i = some v) : la[i]? = some (.val v) := h.2.2 (i, v) (lgt_mem hk)
def ls1 (ls : List (Nat × Value)) (i : Nat) (v : Value) : List (Nat × Value) := (i, v) :: ls.filter (fun q => !(q.1 == i) && !(q.1 + 1 == i && q.2.category == 2))
def ls2 (ls : List (Nat × Value)) (i : Nat) (v : Value) : List (Nat × Value) := (i, v) :: ls.filter (fun q => !(q.1 == i) && (!(q.1 == i + 1) && !(q.1 + 1 == i && q.2.category == 2)))
def lsb : List (Nat × Value) → List (Nat × Value) → Prop
  | [], _ => True
  | q :: t, ls => lgt ls q.1 = some q.2 ∧ lsb t ls
theorem lsb_has {la : Array Slot} {nL : Nat} {ls : List (Nat × Value)} : ∀ {ls' : List (Nat × Value)}, lsb ls' ls → lv_has la nL ls → lv_has la nL ls' := by
  intro ls' h hl
  refine ⟨hl.1, hl.2.1, ?_⟩
  induction ls' with
  | nil => intro q h; cases h
  | cons a t ih =>
    intro q hq
    rcases List.mem_cons.mp hq with rfl | hq
    · exact lv_g hl h.1
    · exact ih h.2 q hq
theorem x_sub {F : Cx} {u pc : Nat} {ls ls' : List (Nat × Value)} {st : List Value} {S : St} (k : X F u pc ls' st S) (h : lsb ls' ls) : X F u pc ls st S := by
  obtain ⟨p, l, e, R, s, m, args, below, meth, c, A, G, Q⟩ := F
  exact fun H locs la hP hD hS hl => k H locs la hP hD hS (lsb_has h hl)

theorem x_iconst {F : Cx} {u pc : Nat} {ls : List (Nat × Value)} {rest : List Value} {S : St} {cc : ByteArray} {own : String} {n : Int} {v : Int32} (hF : Ok F cc own) (hd : decode cc pc = .ok (.iconst n, 1)) (hv : Int32.ofInt n = v) (k : X F u (pc + 1) ls (.int v :: rest) S) : X F u pc ls (rest) S := by
  obtain ⟨p, l, e, R, s, m, args, below, meth, c, A, G, Q⟩ := F
  intro H locs la hP hD hS hl
  exact lv_iconst hF.1 hF.2.1 hd hv (k H locs la hP hD hS hl)
theorem x_bipush {F : Cx} {u pc : Nat} {ls : List (Nat × Value)} {rest : List Value} {S : St} {cc : ByteArray} {own : String} {n : Int} {v : Int32} (hF : Ok F cc own) (hd : decode cc pc = .ok (.bipush n, 2)) (hv : (Int8.ofInt n).toInt32 = v) (k : X F u (pc + 2) ls (.int v :: rest) S) : X F u pc ls (rest) S := by
  obtain ⟨p, l, e, R, s, m, args, below, meth, c, A, G, Q⟩ := F
  intro H locs la hP hD hS hl
  exact lv_bipush hF.1 hF.2.1 hd hv (k H locs la hP hD hS hl)
theorem x_sipush {F : Cx} {u pc : Nat} {ls : List (Nat × Value)} {rest : List Value} {S : St} {cc : ByteArray} {own : String} {n : Int} {v : Int32} (hF : Ok F cc own) (hd : decode cc pc = .ok (.sipush n, 3)) (hv : (Int16.ofInt n).toInt32 = v) (k : X F u (pc + 3) ls (.int v :: rest) S) : X F u pc ls (rest) S := by
  obtain ⟨p, l, e, R, s, m, args, below, meth, c, A, G, Q⟩ := F
  intro H locs la hP hD hS hl
  exact lv_sipush hF.1 hF.2.1 hd hv (k H locs la hP hD hS hl)
theorem x_lconst {F : Cx} {u pc : Nat} {ls : List (Nat × Value)} {rest : List Value} {S : St} {cc : ByteArray} {own : String} {n : Fin 2} {v : Int64} (hF : Ok F cc own) (hd : decode cc pc = .ok (.lconst n, 1)) (hv : Int64.ofNat (n : Nat) = v) (k : X F u (pc + 1) ls (.long v :: rest) S) : X F u pc ls (rest) S := by
  obtain ⟨p, l, e, R, s, m, args, below, meth, c, A, G, Q⟩ := F
  intro H locs la hP hD hS hl
  exact lv_lconst hF.1 hF.2.1 hd hv (k H locs la hP hD hS hl)
theorem x_iadd {F : Cx} {u pc : Nat} {ls : List (Nat × Value)} {rest : List Value} {S : St} {cc : ByteArray} {own : String} {x y : Int32} (hF : Ok F cc own) (hd : decode cc pc = .ok (.iadd, 1))  (k : X F u (pc + 1) ls (.int (x + y) :: rest) S) : X F u pc ls (.int y :: .int x :: rest) S := by
  obtain ⟨p, l, e, R, s, m, args, below, meth, c, A, G, Q⟩ := F
  intro H locs la hP hD hS hl
  exact lv_iadd hF.1 hF.2.1 hd  (k H locs la hP hD hS hl)
theorem x_isub {F : Cx} {u pc : Nat} {ls : List (Nat × Value)} {rest : List Value} {S : St} {cc : ByteArray} {own : String} {x y : Int32} (hF : Ok F cc own) (hd : decode cc pc = .ok (.isub, 1))  (k : X F u (pc + 1) ls (.int (x - y) :: rest) S) : X F u pc ls (.int y :: .int x :: rest) S := by
  obtain ⟨p, l, e, R, s, m, args, below, meth, c, A, G, Q⟩ := F
  intro H locs la hP hD hS hl
  exact lv_isub hF.1 hF.2.1 hd  (k H locs la hP hD hS hl)
theorem x_imul {F : Cx} {u pc : Nat} {ls : List (Nat × Value)} {rest : List Value} {S : St} {cc : ByteArray} {own : String} {x y : Int32} (hF : Ok F cc own) (hd : decode cc pc = .ok (.imul, 1))  (k : X F u (pc + 1) ls (.int (x * y) :: rest) S) : X F u pc ls (.int y :: .int x :: rest) S := by
  obtain ⟨p, l, e, R, s, m, args, below, meth, c, A, G, Q⟩ := F
  intro H locs la hP hD hS hl
  exact lv_imul hF.1 hF.2.1 hd  (k H locs la hP hD hS hl)
theorem x_iand {F : Cx} {u pc : Nat} {ls : List (Nat × Value)} {rest : List Value} {S : St} {cc : ByteArray} {own : String} {x y : Int32} (hF : Ok F cc own) (hd : decode cc pc = .ok (.iand, 1))  (k : X F u (pc + 1) ls (.int (x &&& y) :: rest) S) : X F u pc ls (.int y :: .int x :: rest) S := by
  obtain ⟨p, l, e, R, s, m, args, below, meth, c, A, G, Q⟩ := F
  intro H locs la hP hD hS hl
  exact lv_iand hF.1 hF.2.1 hd  (k H locs la hP hD hS hl)
theorem x_ior {F : Cx} {u pc : Nat} {ls : List (Nat × Value)} {rest : List Value} {S : St} {cc : ByteArray} {own : String} {x y : Int32} (hF : Ok F cc own) (hd : decode cc pc = .ok (.ior, 1))  (k : X F u (pc + 1) ls (.int (x ||| y) :: rest) S) : X F u pc ls (.int y :: .int x :: rest) S := by
  obtain ⟨p, l, e, R, s, m, args, below, meth, c, A, G, Q⟩ := F
  intro H locs la hP hD hS hl
  exact lv_ior hF.1 hF.2.1 hd  (k H locs la hP hD hS hl)
theorem x_ixor {F : Cx} {u pc : Nat} {ls : List (Nat × Value)} {rest : List Value} {S : St} {cc : ByteArray} {own : String} {x y : Int32} (hF : Ok F cc own) (hd : decode cc pc = .ok (.ixor, 1))  (k : X F u (pc + 1) ls (.int (x ^^^ y) :: rest) S) : X F u pc ls (.int y :: .int x :: rest) S := by
  obtain ⟨p, l, e, R, s, m, args, below, meth, c, A, G, Q⟩ := F
  intro H locs la hP hD hS hl
  exact lv_ixor hF.1 hF.2.1 hd  (k H locs la hP hD hS hl)
theorem x_ishl {F : Cx} {u pc : Nat} {ls : List (Nat × Value)} {rest : List Value} {S : St} {cc : ByteArray} {own : String} {x y : Int32} (hF : Ok F cc own) (hd : decode cc pc = .ok (.ishl, 1))  (k : X F u (pc + 1) ls (.int (x <<< (y &&& 31)) :: rest) S) : X F u pc ls (.int y :: .int x :: rest) S := by
  obtain ⟨p, l, e, R, s, m, args, below, meth, c, A, G, Q⟩ := F
  intro H locs la hP hD hS hl
  exact lv_ishl hF.1 hF.2.1 hd  (k H locs la hP hD hS hl)
theorem x_ishr {F : Cx} {u pc : Nat} {ls : List (Nat × Value)} {rest : List Value} {S : St} {cc : ByteArray} {own : String} {x y : Int32} (hF : Ok F cc own) (hd : decode cc pc = .ok (.ishr, 1))  (k : X F u (pc + 1) ls (.int (x >>> (y &&& 31)) :: rest) S) : X F u pc ls (.int y :: .int x :: rest) S := by
  obtain ⟨p, l, e, R, s, m, args, below, meth, c, A, G, Q⟩ := F
  intro H locs la hP hD hS hl
  exact lv_ishr hF.1 hF.2.1 hd  (k H locs la hP hD hS hl)
theorem x_iushr {F : Cx} {u pc : Nat} {ls : List (Nat × Value)} {rest : List Value} {S : St} {cc : ByteArray} {own : String} {x y : Int32} (hF : Ok F cc own) (hd : decode cc pc = .ok (.iushr, 1))  (k : X F u (pc + 1) ls (.int (x.toUInt32 >>> (y.toUInt32 &&& Int32.toUInt32 31)).toInt32 :: rest) S) : X F u pc ls (.int y :: .int x :: rest) S := by
  obtain ⟨p, l, e, R, s, m, args, below, meth, c, A, G, Q⟩ := F
  intro H locs la hP hD hS hl
  exact lv_iushr hF.1 hF.2.1 hd rfl (k H locs la hP hD hS hl)
theorem x_idiv {F : Cx} {u pc : Nat} {ls : List (Nat × Value)} {rest : List Value} {S : St} {cc : ByteArray} {own : String} {x y : Int32} (hF : Ok F cc own) (hd : decode cc pc = .ok (.idiv, 1)) (hne : ¬ y = 0) (k : X F u (pc + 1) ls (.int (x / y) :: rest) S) : X F u pc ls (.int y :: .int x :: rest) S := by
  obtain ⟨p, l, e, R, s, m, args, below, meth, c, A, G, Q⟩ := F
  intro H locs la hP hD hS hl
  exact lv_idiv hF.1 hF.2.1 hd hne (k H locs la hP hD hS hl)
theorem x_irem {F : Cx} {u pc : Nat} {ls : List (Nat × Value)} {rest : List Value} {S : St} {cc : ByteArray} {own : String} {x y : Int32} (hF : Ok F cc own) (hd : decode cc pc = .ok (.irem, 1)) (hne : ¬ y = 0) (k : X F u (pc + 1) ls (.int (x - x / y * y) :: rest) S) : X F u pc ls (.int y :: .int x :: rest) S := by
  obtain ⟨p, l, e, R, s, m, args, below, meth, c, A, G, Q⟩ := F
  intro H locs la hP hD hS hl
  exact lv_irem hF.1 hF.2.1 hd hne (k H locs la hP hD hS hl)
theorem x_ineg {F : Cx} {u pc : Nat} {ls : List (Nat × Value)} {rest : List Value} {S : St} {cc : ByteArray} {own : String} {x : Int32} (hF : Ok F cc own) (hd : decode cc pc = .ok (.ineg, 1))  (k : X F u (pc + 1) ls (.int (-x) :: rest) S) : X F u pc ls (.int x :: rest) S := by
  obtain ⟨p, l, e, R, s, m, args, below, meth, c, A, G, Q⟩ := F
  intro H locs la hP hD hS hl
  exact lv_ineg hF.1 hF.2.1 hd  (k H locs la hP hD hS hl)
theorem x_i2l {F : Cx} {u pc : Nat} {ls : List (Nat × Value)} {rest : List Value} {S : St} {cc : ByteArray} {own : String} {x : Int32} (hF : Ok F cc own) (hd : decode cc pc = .ok (.i2l, 1))  (k : X F u (pc + 1) ls (.long x.toInt64 :: rest) S) : X F u pc ls (.int x :: rest) S := by
  obtain ⟨p, l, e, R, s, m, args, below, meth, c, A, G, Q⟩ := F
  intro H locs la hP hD hS hl
  exact lv_i2l hF.1 hF.2.1 hd rfl (k H locs la hP hD hS hl)
theorem x_i2c {F : Cx} {u pc : Nat} {ls : List (Nat × Value)} {rest : List Value} {S : St} {cc : ByteArray} {own : String} {x : Int32} (hF : Ok F cc own) (hd : decode cc pc = .ok (.i2c, 1))  (k : X F u (pc + 1) ls (.int (x.toUInt32 % 65536).toInt32 :: rest) S) : X F u pc ls (.int x :: rest) S := by
  obtain ⟨p, l, e, R, s, m, args, below, meth, c, A, G, Q⟩ := F
  intro H locs la hP hD hS hl
  exact lv_i2c hF.1 hF.2.1 hd rfl (k H locs la hP hD hS hl)
theorem x_l2i {F : Cx} {u pc : Nat} {ls : List (Nat × Value)} {rest : List Value} {S : St} {cc : ByteArray} {own : String} {x : Int64} (hF : Ok F cc own) (hd : decode cc pc = .ok (.l2i, 1))  (k : X F u (pc + 1) ls (.int x.toInt32 :: rest) S) : X F u pc ls (.long x :: rest) S := by
  obtain ⟨p, l, e, R, s, m, args, below, meth, c, A, G, Q⟩ := F
  intro H locs la hP hD hS hl
  exact lv_l2i hF.1 hF.2.1 hd rfl (k H locs la hP hD hS hl)
theorem x_ladd {F : Cx} {u pc : Nat} {ls : List (Nat × Value)} {rest : List Value} {S : St} {cc : ByteArray} {own : String} {x y : Int64} (hF : Ok F cc own) (hd : decode cc pc = .ok (.ladd, 1))  (k : X F u (pc + 1) ls (.long (x + y) :: rest) S) : X F u pc ls (.long y :: .long x :: rest) S := by
  obtain ⟨p, l, e, R, s, m, args, below, meth, c, A, G, Q⟩ := F
  intro H locs la hP hD hS hl
  exact lv_ladd hF.1 hF.2.1 hd  (k H locs la hP hD hS hl)
theorem x_lsub {F : Cx} {u pc : Nat} {ls : List (Nat × Value)} {rest : List Value} {S : St} {cc : ByteArray} {own : String} {x y : Int64} (hF : Ok F cc own) (hd : decode cc pc = .ok (.lsub, 1))  (k : X F u (pc + 1) ls (.long (x - y) :: rest) S) : X F u pc ls (.long y :: .long x :: rest) S := by
  obtain ⟨p, l, e, R, s, m, args, below, meth, c, A, G, Q⟩ := F
  intro H locs la hP hD hS hl
  exact lv_lsub hF.1 hF.2.1 hd  (k H locs la hP hD hS hl)
theorem x_lmul {F : Cx} {u pc : Nat} {ls : List (Nat × Value)} {rest : List Value} {S : St} {cc : ByteArray} {own : String} {x y : Int64} (hF : Ok F cc own) (hd : decode cc pc = .ok (.lmul, 1))  (k : X F u (pc + 1) ls (.long (x * y) :: rest) S) : X F u pc ls (.long y :: .long x :: rest) S := by
  obtain ⟨p, l, e, R, s, m, args, below, meth, c, A, G, Q⟩ := F
  intro H locs la hP hD hS hl
  exact lv_lmul hF.1 hF.2.1 hd  (k H locs la hP hD hS hl)
theorem x_land {F : Cx} {u pc : Nat} {ls : List (Nat × Value)} {rest : List Value} {S : St} {cc : ByteArray} {own : String} {x y : Int64} (hF : Ok F cc own) (hd : decode cc pc = .ok (.land, 1))  (k : X F u (pc + 1) ls (.long (x &&& y) :: rest) S) : X F u pc ls (.long y :: .long x :: rest) S := by
  obtain ⟨p, l, e, R, s, m, args, below, meth, c, A, G, Q⟩ := F
  intro H locs la hP hD hS hl
  exact lv_land hF.1 hF.2.1 hd  (k H locs la hP hD hS hl)
theorem x_lneg {F : Cx} {u pc : Nat} {ls : List (Nat × Value)} {rest : List Value} {S : St} {cc : ByteArray} {own : String} {x : Int64} (hF : Ok F cc own) (hd : decode cc pc = .ok (.lneg, 1))  (k : X F u (pc + 1) ls (.long (-x) :: rest) S) : X F u pc ls (.long x :: rest) S := by
  obtain ⟨p, l, e, R, s, m, args, below, meth, c, A, G, Q⟩ := F
  intro H locs la hP hD hS hl
  exact lv_lneg hF.1 hF.2.1 hd  (k H locs la hP hD hS hl)
theorem x_ldiv {F : Cx} {u pc : Nat} {ls : List (Nat × Value)} {rest : List Value} {S : St} {cc : ByteArray} {own : String} {x y : Int64} (hF : Ok F cc own) (hd : decode cc pc = .ok (.ldiv, 1)) (hne : ¬ y = 0) (k : X F u (pc + 1) ls (.long (x / y) :: rest) S) : X F u pc ls (.long y :: .long x :: rest) S := by
  obtain ⟨p, l, e, R, s, m, args, below, meth, c, A, G, Q⟩ := F
  intro H locs la hP hD hS hl
  exact lv_ldiv hF.1 hF.2.1 hd hne (k H locs la hP hD hS hl)
theorem x_lrem {F : Cx} {u pc : Nat} {ls : List (Nat × Value)} {rest : List Value} {S : St} {cc : ByteArray} {own : String} {x y : Int64} (hF : Ok F cc own) (hd : decode cc pc = .ok (.lrem, 1)) (hne : ¬ y = 0) (k : X F u (pc + 1) ls (.long (x - x / y * y) :: rest) S) : X F u pc ls (.long y :: .long x :: rest) S := by
  obtain ⟨p, l, e, R, s, m, args, below, meth, c, A, G, Q⟩ := F
  intro H locs la hP hD hS hl
  exact lv_lrem hF.1 hF.2.1 hd hne (k H locs la hP hD hS hl)
theorem x_lshr {F : Cx} {u pc : Nat} {ls : List (Nat × Value)} {rest : List Value} {S : St} {cc : ByteArray} {own : String} {x : Int64} {y : Int32} (hF : Ok F cc own) (hd : decode cc pc = .ok (.lshr, 1))  (k : X F u (pc + 1) ls (.long (x >>> (y.toInt64 &&& 63)) :: rest) S) : X F u pc ls (.int y :: .long x :: rest) S := by
  obtain ⟨p, l, e, R, s, m, args, below, meth, c, A, G, Q⟩ := F
  intro H locs la hP hD hS hl
  exact lv_lshr hF.1 hF.2.1 hd rfl (k H locs la hP hD hS hl)
theorem x_ldc {F : Cx} {u pc : Nat} {ls : List (Nat × Value)} {rest : List Value} {S : St} {cc : ByteArray} {own : String} {index : Nat} {v : Int32} (hF : Ok F cc own) (hd : decode cc pc = .ok (.ldc index, 2)) (hw : Cond.constant own index v ∈ tbG) (k : X F u (pc + 2) ls (.int v :: rest) S) : X F u pc ls (rest) S := by
  obtain ⟨p, l, e, R, s, m, args, below, meth, c, A, G, Q⟩ := F
  intro H locs la hP hD hS hl
  exact lv_ldc hF.1 hF.2.1 hF.2.2.1 (hF.2.2.2.1 _ hw) hd  (k H locs la hP hD hS hl)
theorem x_ldc_w {F : Cx} {u pc : Nat} {ls : List (Nat × Value)} {rest : List Value} {S : St} {cc : ByteArray} {own : String} {index : Nat} {v : Int32} (hF : Ok F cc own) (hd : decode cc pc = .ok (.ldc_w index, 3)) (hw : Cond.constant own index v ∈ tbG) (k : X F u (pc + 3) ls (.int v :: rest) S) : X F u pc ls (rest) S := by
  obtain ⟨p, l, e, R, s, m, args, below, meth, c, A, G, Q⟩ := F
  intro H locs la hP hD hS hl
  exact lv_ldcw hF.1 hF.2.1 hF.2.2.1 (hF.2.2.2.1 _ hw) hd  (k H locs la hP hD hS hl)
theorem x_ldc2_w {F : Cx} {u pc : Nat} {ls : List (Nat × Value)} {rest : List Value} {S : St} {cc : ByteArray} {own : String} {index : Nat} {v : Int64} (hF : Ok F cc own) (hd : decode cc pc = .ok (.ldc2_w index, 3)) (hw : Cond.constantLong own index v ∈ tbG) (k : X F u (pc + 3) ls (.long v :: rest) S) : X F u pc ls (rest) S := by
  obtain ⟨p, l, e, R, s, m, args, below, meth, c, A, G, Q⟩ := F
  intro H locs la hP hD hS hl
  exact lv_ldc2 hF.1 hF.2.1 hF.2.2.1 (hF.2.2.2.1 _ hw) hd  (k H locs la hP hD hS hl)
theorem x_lcmp {F : Cx} {u pc : Nat} {ls : List (Nat × Value)} {rest : List Value} {S : St} {cc : ByteArray} {own : String} {x y : Int64} (hF : Ok F cc own) (hd : decode cc pc = .ok (.lcmp, 1))  (k : X F u (pc + 1) ls (.int (lg_cmp x y) :: rest) S) : X F u pc ls (.long y :: .long x :: rest) S := by
  obtain ⟨p, l, e, R, s, m, args, below, meth, c, A, G, Q⟩ := F
  intro H locs la hP hD hS hl
  exact W.lcmp hF.1 hF.2.1 hd  (k H locs la hP hD hS hl)
theorem x_dup {F : Cx} {u pc : Nat} {ls : List (Nat × Value)} {rest : List Value} {S : St} {cc : ByteArray} {own : String} {va : Value} (hF : Ok F cc own) (hd : decode cc pc = .ok (.dup, 1)) (hva : va.category = 1) (k : X F u (pc + 1) ls (va :: va :: rest) S) : X F u pc ls (va :: rest) S := by
  obtain ⟨p, l, e, R, s, m, args, below, meth, c, A, G, Q⟩ := F
  intro H locs la hP hD hS hl
  exact lv_dup hF.1 hF.2.1 hd hva (k H locs la hP hD hS hl)
theorem x_pop {F : Cx} {u pc : Nat} {ls : List (Nat × Value)} {rest : List Value} {S : St} {cc : ByteArray} {own : String} {va : Value} (hF : Ok F cc own) (hd : decode cc pc = .ok (.pop, 1)) (hva : va.category = 1) (k : X F u (pc + 1) ls (rest) S) : X F u pc ls (va :: rest) S := by
  obtain ⟨p, l, e, R, s, m, args, below, meth, c, A, G, Q⟩ := F
  intro H locs la hP hD hS hl
  exact lv_pop hF.1 hF.2.1 hd hva (k H locs la hP hD hS hl)
theorem x_dup2 {F : Cx} {u pc : Nat} {ls : List (Nat × Value)} {rest : List Value} {S : St} {cc : ByteArray} {own : String} {va vb : Value} (hF : Ok F cc own) (hd : decode cc pc = .ok (.dup2, 1)) (hva : va.category = 1) (hvb : vb.category = 1) (k : X F u (pc + 1) ls (va :: vb :: va :: vb :: rest) S) : X F u pc ls (va :: vb :: rest) S := by
  obtain ⟨p, l, e, R, s, m, args, below, meth, c, A, G, Q⟩ := F
  intro H locs la hP hD hS hl
  exact lv_dup2_11 hF.1 hF.2.1 hd hva hvb (k H locs la hP hD hS hl)
theorem x_iload_n {F : Cx} {u pc : Nat} {ls : List (Nat × Value)} {rest : List Value} {S : St} {cc : ByteArray} {own : String} {q : Fin 4} {i : Nat} {x : Int32} (hF : Ok F cc own) (hd : decode cc pc = .ok (.iload_n q, 1)) (hi : (q : Nat) = i) (hx : lgt ls i = some (.int x)) (k : X F u (pc + 1) ls (.int x :: rest) S) : X F u pc ls (rest) S := by
  obtain ⟨p, l, e, R, s, m, args, below, meth, c, A, G, Q⟩ := F
  intro H locs la hP hD hS hl
  exact lv_iload_n hF.1 hF.2.1 hd hi (lv_g hl hx) (k H locs la hP hD hS hl)
theorem x_iload {F : Cx} {u pc : Nat} {ls : List (Nat × Value)} {rest : List Value} {S : St} {cc : ByteArray} {own : String} {i : Nat} {x : Int32} (hF : Ok F cc own) (hd : decode cc pc = .ok (.iload i, 2)) (hx : lgt ls i = some (.int x)) (k : X F u (pc + 2) ls (.int x :: rest) S) : X F u pc ls (rest) S := by
  obtain ⟨p, l, e, R, s, m, args, below, meth, c, A, G, Q⟩ := F
  intro H locs la hP hD hS hl
  exact lv_iload hF.1 hF.2.1 hd (lv_g hl hx) (k H locs la hP hD hS hl)
theorem x_lload_n {F : Cx} {u pc : Nat} {ls : List (Nat × Value)} {rest : List Value} {S : St} {cc : ByteArray} {own : String} {q : Fin 4} {i : Nat} {x : Int64} (hF : Ok F cc own) (hd : decode cc pc = .ok (.lload_n q, 1)) (hi : (q : Nat) = i) (hx : lgt ls i = some (.long x)) (k : X F u (pc + 1) ls (.long x :: rest) S) : X F u pc ls (rest) S := by
  obtain ⟨p, l, e, R, s, m, args, below, meth, c, A, G, Q⟩ := F
  intro H locs la hP hD hS hl
  exact lv_lload_n hF.1 hF.2.1 hd hi (lv_g hl hx) (k H locs la hP hD hS hl)
theorem x_lload {F : Cx} {u pc : Nat} {ls : List (Nat × Value)} {rest : List Value} {S : St} {cc : ByteArray} {own : String} {i : Nat} {x : Int64} (hF : Ok F cc own) (hd : decode cc pc = .ok (.lload i, 2)) (hx : lgt ls i = some (.long x)) (k : X F u (pc + 2) ls (.long x :: rest) S) : X F u pc ls (rest) S := by
  obtain ⟨p, l, e, R, s, m, args, below, meth, c, A, G, Q⟩ := F
  intro H locs la hP hD hS hl
  exact lv_lload hF.1 hF.2.1 hd (lv_g hl hx) (k H locs la hP hD hS hl)
theorem x_aload_n {F : Cx} {u pc : Nat} {ls : List (Nat × Value)} {rest : List Value} {S : St} {cc : ByteArray} {own : String} {q : Fin 4} {i : Nat} {x : Nat} (hF : Ok F cc own) (hd : decode cc pc = .ok (.aload_n q, 1)) (hi : (q : Nat) = i) (hx : lgt ls i = some (.ref x)) (k : X F u (pc + 1) ls (.ref x :: rest) S) : X F u pc ls (rest) S := by
  obtain ⟨p, l, e, R, s, m, args, below, meth, c, A, G, Q⟩ := F
  intro H locs la hP hD hS hl
  exact lv_aload_n hF.1 hF.2.1 hd hi (lv_g hl hx) (k H locs la hP hD hS hl)
theorem x_aload {F : Cx} {u pc : Nat} {ls : List (Nat × Value)} {rest : List Value} {S : St} {cc : ByteArray} {own : String} {i : Nat} {x : Nat} (hF : Ok F cc own) (hd : decode cc pc = .ok (.aload i, 2)) (hx : lgt ls i = some (.ref x)) (k : X F u (pc + 2) ls (.ref x :: rest) S) : X F u pc ls (rest) S := by
  obtain ⟨p, l, e, R, s, m, args, below, meth, c, A, G, Q⟩ := F
  intro H locs la hP hD hS hl
  exact lv_aload hF.1 hF.2.1 hd (lv_g hl hx) (k H locs la hP hD hS hl)
def nLF (F : Cx) (nL : Nat) : Prop := F.2.2.2.2.2.2.2.2.2.1.maxLocals = nL
abbrev gG (F : Cx) : Ga := F.2.2.2.2.2.2.2.2.2.2.2.1
abbrev gA (F : Cx) : Nat → Nat := (gG F).1
theorem x_istore_n {F : Cx} {u pc : Nat} {ls : List (Nat × Value)} {rest : List Value} {S : St} {cc : ByteArray} {own : String} (ls' : List (Nat × Value)) {q : Fin 4} {i nL : Nat} {x : Int32} (hF : Ok F cc own) (hN : nLF F nL) (hd : decode cc pc = .ok (.istore_n q, 1)) (hi : (q : Nat) = i) (hn : i < nL) (hl' : ls1 ls i (.int x) = ls') (k : X F u (pc + 1) ls' rest S) : X F u pc ls (.int x :: rest) S := by
  obtain ⟨p, l, e, R, s, m, args, below, meth, c, A, G, Q⟩ := F
  intro H locs la hP hD hS hl
  exact lv_istore_n hF.1 hF.2.1 hd hi hl (by rw [show c.maxLocals = nL from hN]; exact hn) hl' (fun la hl => k H locs la hP hD hS hl)
theorem x_istore {F : Cx} {u pc : Nat} {ls : List (Nat × Value)} {rest : List Value} {S : St} {cc : ByteArray} {own : String} (ls' : List (Nat × Value)) {i nL : Nat} {x : Int32} (hF : Ok F cc own) (hN : nLF F nL) (hd : decode cc pc = .ok (.istore i, 2)) (hn : i < nL) (hl' : ls1 ls i (.int x) = ls') (k : X F u (pc + 2) ls' rest S) : X F u pc ls (.int x :: rest) S := by
  obtain ⟨p, l, e, R, s, m, args, below, meth, c, A, G, Q⟩ := F
  intro H locs la hP hD hS hl
  exact lv_istore hF.1 hF.2.1 hd hl (by rw [show c.maxLocals = nL from hN]; exact hn) hl' (fun la hl => k H locs la hP hD hS hl)
theorem x_lstore_n {F : Cx} {u pc : Nat} {ls : List (Nat × Value)} {rest : List Value} {S : St} {cc : ByteArray} {own : String} (ls' : List (Nat × Value)) {q : Fin 4} {i nL : Nat} {x : Int64} (hF : Ok F cc own) (hN : nLF F nL) (hd : decode cc pc = .ok (.lstore_n q, 1)) (hi : (q : Nat) = i) (hn : i + 1 < nL) (hl' : ls2 ls i (.long x) = ls') (k : X F u (pc + 1) ls' rest S) : X F u pc ls (.long x :: rest) S := by
  obtain ⟨p, l, e, R, s, m, args, below, meth, c, A, G, Q⟩ := F
  intro H locs la hP hD hS hl
  exact lv_lstore_n hF.1 hF.2.1 hd hi hl (by rw [show c.maxLocals = nL from hN]; exact hn) hl' (fun la hl => k H locs la hP hD hS hl)
theorem x_lstore {F : Cx} {u pc : Nat} {ls : List (Nat × Value)} {rest : List Value} {S : St} {cc : ByteArray} {own : String} (ls' : List (Nat × Value)) {i nL : Nat} {x : Int64} (hF : Ok F cc own) (hN : nLF F nL) (hd : decode cc pc = .ok (.lstore i, 2)) (hn : i + 1 < nL) (hl' : ls2 ls i (.long x) = ls') (k : X F u (pc + 2) ls' rest S) : X F u pc ls (.long x :: rest) S := by
  obtain ⟨p, l, e, R, s, m, args, below, meth, c, A, G, Q⟩ := F
  intro H locs la hP hD hS hl
  exact lv_lstore hF.1 hF.2.1 hd hl (by rw [show c.maxLocals = nL from hN]; exact hn) hl' (fun la hl => k H locs la hP hD hS hl)
theorem x_astore_n {F : Cx} {u pc : Nat} {ls : List (Nat × Value)} {rest : List Value} {S : St} {cc : ByteArray} {own : String} (ls' : List (Nat × Value)) {q : Fin 4} {i nL : Nat} {x : Nat} (hF : Ok F cc own) (hN : nLF F nL) (hd : decode cc pc = .ok (.astore_n q, 1)) (hi : (q : Nat) = i) (hn : i < nL) (hl' : ls1 ls i (.ref x) = ls') (k : X F u (pc + 1) ls' rest S) : X F u pc ls (.ref x :: rest) S := by
  obtain ⟨p, l, e, R, s, m, args, below, meth, c, A, G, Q⟩ := F
  intro H locs la hP hD hS hl
  exact lv_astore_n hF.1 hF.2.1 hd hi hl (by rw [show c.maxLocals = nL from hN]; exact hn) hl' (fun la hl => k H locs la hP hD hS hl)
theorem x_astore {F : Cx} {u pc : Nat} {ls : List (Nat × Value)} {rest : List Value} {S : St} {cc : ByteArray} {own : String} (ls' : List (Nat × Value)) {i nL : Nat} {x : Nat} (hF : Ok F cc own) (hN : nLF F nL) (hd : decode cc pc = .ok (.astore i, 2)) (hn : i < nL) (hl' : ls1 ls i (.ref x) = ls') (k : X F u (pc + 2) ls' rest S) : X F u pc ls (.ref x :: rest) S := by
  obtain ⟨p, l, e, R, s, m, args, below, meth, c, A, G, Q⟩ := F
  intro H locs la hP hD hS hl
  exact lv_astore hF.1 hF.2.1 hd hl (by rw [show c.maxLocals = nL from hN]; exact hn) hl' (fun la hl => k H locs la hP hD hS hl)
theorem x_iinc {F : Cx} {u pc : Nat} {ls : List (Nat × Value)} {rest : List Value} {S : St} {cc : ByteArray} {own : String} (ls' : List (Nat × Value)) {i nL : Nat} {n : Int} {x v : Int32} (hF : Ok F cc own) (hN : nLF F nL) (hd : decode cc pc = .ok (.iinc i n, 3)) (hx : lgt ls i = some (.int x)) (hv : Int32.ofInt n = v) (hn : i < nL) (hl' : ls1 ls i (.int (x + v)) = ls') (k : X F u (pc + 3) ls' rest S) : X F u pc ls rest S := by
  obtain ⟨p, l, e, R, s, m, args, below, meth, c, A, G, Q⟩ := F
  intro H locs la hP hD hS hl
  obtain ⟨j, hj⟩ := List.getElem?_of_mem (lgt_mem hx)
  exact lv_iinc hF.1 hF.2.1 hd hl hj (by rw [hv]) (by rw [show c.maxLocals = nL from hN]; exact hn) hl' (fun la hl => k H locs la hP hD hS hl)
theorem x_goto {F : Cx} {u pc : Nat} {ls : List (Nat × Value)} {rest : List Value} {S : St} {cc : ByteArray} {own : String} {off : Int} {tgt : Nat} (hF : Ok F cc own) (hd : decode cc pc = .ok (.goto off, 3)) (ht : (pc : Int) + off = (tgt : Int)) (k : X F u tgt ls rest S) : X F u pc ls rest S := by
  obtain ⟨p, l, e, R, s, m, args, below, meth, c, A, G, Q⟩ := F
  intro H locs la hP hD hS hl
  exact lv_goto hF.1 hF.2.1 hd ht (k H locs la hP hD hS hl)
theorem x_icmp_eq {F : Cx} {u pc : Nat} {ls : List (Nat × Value)} {rest : List Value} {S : St} {cc : ByteArray} {own : String} {x y : Int32} {off : Int} {tgt : Nat} (hF : Ok F cc own) (hd : decode cc pc = .ok (.if_icmp .eq off, 3)) (ht : (pc : Int) + off = (tgt : Int)) (kt : x = y → X F u tgt ls rest S) (kf : ¬ x = y → X F u (pc + 3) ls rest S) : X F u pc ls (.int y :: .int x :: rest) S := by
  obtain ⟨p, l, e, R, s, m, args, below, meth, c, A, G, Q⟩ := F
  intro H locs la hP hD hS hl
  exact lv_icmp_eq hF.1 hF.2.1 hd ht (fun h => kt h H locs la hP hD hS hl) (fun h => kf h H locs la hP hD hS hl)
theorem x_if_eq {F : Cx} {u pc : Nat} {ls : List (Nat × Value)} {rest : List Value} {S : St} {cc : ByteArray} {own : String} {x : Int32} {off : Int} {tgt : Nat} (hF : Ok F cc own) (hd : decode cc pc = .ok (.ifCond .eq off, 3)) (ht : (pc : Int) + off = (tgt : Int)) (kt : x = 0 → X F u tgt ls rest S) (kf : ¬ x = 0 → X F u (pc + 3) ls rest S) : X F u pc ls (.int x :: rest) S := by
  obtain ⟨p, l, e, R, s, m, args, below, meth, c, A, G, Q⟩ := F
  intro H locs la hP hD hS hl
  exact lv_if_eq hF.1 hF.2.1 hd ht (fun h => kt h H locs la hP hD hS hl) (fun h => kf h H locs la hP hD hS hl)
theorem x_icmp_ne {F : Cx} {u pc : Nat} {ls : List (Nat × Value)} {rest : List Value} {S : St} {cc : ByteArray} {own : String} {x y : Int32} {off : Int} {tgt : Nat} (hF : Ok F cc own) (hd : decode cc pc = .ok (.if_icmp .ne off, 3)) (ht : (pc : Int) + off = (tgt : Int)) (kt : ¬ x = y → X F u tgt ls rest S) (kf : x = y → X F u (pc + 3) ls rest S) : X F u pc ls (.int y :: .int x :: rest) S := by
  obtain ⟨p, l, e, R, s, m, args, below, meth, c, A, G, Q⟩ := F
  intro H locs la hP hD hS hl
  exact lv_icmp_ne hF.1 hF.2.1 hd ht (fun h => kt h H locs la hP hD hS hl) (fun h => kf h H locs la hP hD hS hl)
theorem x_if_ne {F : Cx} {u pc : Nat} {ls : List (Nat × Value)} {rest : List Value} {S : St} {cc : ByteArray} {own : String} {x : Int32} {off : Int} {tgt : Nat} (hF : Ok F cc own) (hd : decode cc pc = .ok (.ifCond .ne off, 3)) (ht : (pc : Int) + off = (tgt : Int)) (kt : ¬ x = 0 → X F u tgt ls rest S) (kf : x = 0 → X F u (pc + 3) ls rest S) : X F u pc ls (.int x :: rest) S := by
  obtain ⟨p, l, e, R, s, m, args, below, meth, c, A, G, Q⟩ := F
  intro H locs la hP hD hS hl
  exact lv_if_ne hF.1 hF.2.1 hd ht (fun h => kt h H locs la hP hD hS hl) (fun h => kf h H locs la hP hD hS hl)
theorem x_icmp_lt {F : Cx} {u pc : Nat} {ls : List (Nat × Value)} {rest : List Value} {S : St} {cc : ByteArray} {own : String} {x y : Int32} {off : Int} {tgt : Nat} (hF : Ok F cc own) (hd : decode cc pc = .ok (.if_icmp .lt off, 3)) (ht : (pc : Int) + off = (tgt : Int)) (kt : x < y → X F u tgt ls rest S) (kf : ¬ x < y → X F u (pc + 3) ls rest S) : X F u pc ls (.int y :: .int x :: rest) S := by
  obtain ⟨p, l, e, R, s, m, args, below, meth, c, A, G, Q⟩ := F
  intro H locs la hP hD hS hl
  exact lv_icmp_lt hF.1 hF.2.1 hd ht (fun h => kt h H locs la hP hD hS hl) (fun h => kf h H locs la hP hD hS hl)
theorem x_if_lt {F : Cx} {u pc : Nat} {ls : List (Nat × Value)} {rest : List Value} {S : St} {cc : ByteArray} {own : String} {x : Int32} {off : Int} {tgt : Nat} (hF : Ok F cc own) (hd : decode cc pc = .ok (.ifCond .lt off, 3)) (ht : (pc : Int) + off = (tgt : Int)) (kt : x < 0 → X F u tgt ls rest S) (kf : ¬ x < 0 → X F u (pc + 3) ls rest S) : X F u pc ls (.int x :: rest) S := by
  obtain ⟨p, l, e, R, s, m, args, below, meth, c, A, G, Q⟩ := F
  intro H locs la hP hD hS hl
  exact lv_if_lt hF.1 hF.2.1 hd ht (fun h => kt h H locs la hP hD hS hl) (fun h => kf h H locs la hP hD hS hl)
theorem x_icmp_ge {F : Cx} {u pc : Nat} {ls : List (Nat × Value)} {rest : List Value} {S : St} {cc : ByteArray} {own : String} {x y : Int32} {off : Int} {tgt : Nat} (hF : Ok F cc own) (hd : decode cc pc = .ok (.if_icmp .ge off, 3)) (ht : (pc : Int) + off = (tgt : Int)) (kt : y ≤ x → X F u tgt ls rest S) (kf : ¬ y ≤ x → X F u (pc + 3) ls rest S) : X F u pc ls (.int y :: .int x :: rest) S := by
  obtain ⟨p, l, e, R, s, m, args, below, meth, c, A, G, Q⟩ := F
  intro H locs la hP hD hS hl
  exact lv_icmp_ge hF.1 hF.2.1 hd ht (fun h => kt h H locs la hP hD hS hl) (fun h => kf h H locs la hP hD hS hl)
theorem x_if_ge {F : Cx} {u pc : Nat} {ls : List (Nat × Value)} {rest : List Value} {S : St} {cc : ByteArray} {own : String} {x : Int32} {off : Int} {tgt : Nat} (hF : Ok F cc own) (hd : decode cc pc = .ok (.ifCond .ge off, 3)) (ht : (pc : Int) + off = (tgt : Int)) (kt : 0 ≤ x → X F u tgt ls rest S) (kf : ¬ 0 ≤ x → X F u (pc + 3) ls rest S) : X F u pc ls (.int x :: rest) S := by
  obtain ⟨p, l, e, R, s, m, args, below, meth, c, A, G, Q⟩ := F
  intro H locs la hP hD hS hl
  exact lv_if_ge hF.1 hF.2.1 hd ht (fun h => kt h H locs la hP hD hS hl) (fun h => kf h H locs la hP hD hS hl)
theorem x_icmp_gt {F : Cx} {u pc : Nat} {ls : List (Nat × Value)} {rest : List Value} {S : St} {cc : ByteArray} {own : String} {x y : Int32} {off : Int} {tgt : Nat} (hF : Ok F cc own) (hd : decode cc pc = .ok (.if_icmp .gt off, 3)) (ht : (pc : Int) + off = (tgt : Int)) (kt : y < x → X F u tgt ls rest S) (kf : ¬ y < x → X F u (pc + 3) ls rest S) : X F u pc ls (.int y :: .int x :: rest) S := by
  obtain ⟨p, l, e, R, s, m, args, below, meth, c, A, G, Q⟩ := F
  intro H locs la hP hD hS hl
  exact lv_icmp_gt hF.1 hF.2.1 hd ht (fun h => kt h H locs la hP hD hS hl) (fun h => kf h H locs la hP hD hS hl)
theorem x_if_gt {F : Cx} {u pc : Nat} {ls : List (Nat × Value)} {rest : List Value} {S : St} {cc : ByteArray} {own : String} {x : Int32} {off : Int} {tgt : Nat} (hF : Ok F cc own) (hd : decode cc pc = .ok (.ifCond .gt off, 3)) (ht : (pc : Int) + off = (tgt : Int)) (kt : 0 < x → X F u tgt ls rest S) (kf : ¬ 0 < x → X F u (pc + 3) ls rest S) : X F u pc ls (.int x :: rest) S := by
  obtain ⟨p, l, e, R, s, m, args, below, meth, c, A, G, Q⟩ := F
  intro H locs la hP hD hS hl
  exact lv_if_gt hF.1 hF.2.1 hd ht (fun h => kt h H locs la hP hD hS hl) (fun h => kf h H locs la hP hD hS hl)
theorem x_icmp_le {F : Cx} {u pc : Nat} {ls : List (Nat × Value)} {rest : List Value} {S : St} {cc : ByteArray} {own : String} {x y : Int32} {off : Int} {tgt : Nat} (hF : Ok F cc own) (hd : decode cc pc = .ok (.if_icmp .le off, 3)) (ht : (pc : Int) + off = (tgt : Int)) (kt : x ≤ y → X F u tgt ls rest S) (kf : ¬ x ≤ y → X F u (pc + 3) ls rest S) : X F u pc ls (.int y :: .int x :: rest) S := by
  obtain ⟨p, l, e, R, s, m, args, below, meth, c, A, G, Q⟩ := F
  intro H locs la hP hD hS hl
  exact lv_icmp_le hF.1 hF.2.1 hd ht (fun h => kt h H locs la hP hD hS hl) (fun h => kf h H locs la hP hD hS hl)
theorem x_if_le {F : Cx} {u pc : Nat} {ls : List (Nat × Value)} {rest : List Value} {S : St} {cc : ByteArray} {own : String} {x : Int32} {off : Int} {tgt : Nat} (hF : Ok F cc own) (hd : decode cc pc = .ok (.ifCond .le off, 3)) (ht : (pc : Int) + off = (tgt : Int)) (kt : x ≤ 0 → X F u tgt ls rest S) (kf : ¬ x ≤ 0 → X F u (pc + 3) ls rest S) : X F u pc ls (.int x :: rest) S := by
  obtain ⟨p, l, e, R, s, m, args, below, meth, c, A, G, Q⟩ := F
  intro H locs la hP hD hS hl
  exact lv_if_le hF.1 hF.2.1 hd ht (fun h => kt h H locs la hP hD hS hl) (fun h => kf h H locs la hP hD hS hl)
theorem x_geti {F : Cx} {u pc : Nat} {ls : List (Nat × Value)} {rest : List Value} {S : St} {cc : ByteArray} {own : String} {k ci N index : Nat} {C ref : String} {T : u_T} {ty : Nat → FieldType} {fl : List (Nat × Nat)} {t : Nat} (hF : Ok F cc own) (hs : shp k = .inl (ci, fl)) (j : Nat) (hj : fl[j]? = some (0, t)) (hC : CkO ci C T N ty) (hk : k < NC) (hN : j < N) (hw : Cond.fieldLink own index ref (T j).2.1 (T j).2.2.1 ∈ tbG) (hr : (T j).1 = ref) (hd : decode cc pc = .ok (.getfield index, 3)) (kk : X F u (pc + 3) ls (.int (gi S k j) :: rest) S) : X F u pc ls (.ref (gA F k) :: rest) S := by
  obtain ⟨p, l, e, R, s, m, args, below, meth, c, A, G, Q⟩ := F
  obtain ⟨hx, hb, hown, hts, hE, hA, -⟩ := hF
  intro H locs la hP hD hS hl
  have hv := fv_get (G := G) (S := S) (k := k) fl 0 j _ hj
  exact va_get (D := G.D) hx hb hts hC.2.1 hown hE.1 hP k (by rw [wd_get hk, cel_o hs]) hC.1 j hN (hts _ hw) (by subst hr; exact fun _ h => h) (by simpa using hv) hd (kk H locs la hP hD hS hl)
theorem x_getl {F : Cx} {u pc : Nat} {ls : List (Nat × Value)} {rest : List Value} {S : St} {cc : ByteArray} {own : String} {k ci N index : Nat} {C ref : String} {T : u_T} {ty : Nat → FieldType} {fl : List (Nat × Nat)} {t : Nat} (hF : Ok F cc own) (hs : shp k = .inl (ci, fl)) (j : Nat) (hj : fl[j]? = some (1, t)) (hC : CkO ci C T N ty) (hk : k < NC) (hN : j < N) (hw : Cond.fieldLink own index ref (T j).2.1 (T j).2.2.1 ∈ tbG) (hr : (T j).1 = ref) (hd : decode cc pc = .ok (.getfield index, 3)) (kk : X F u (pc + 3) ls (.long (gl S k j) :: rest) S) : X F u pc ls (.ref (gA F k) :: rest) S := by
  obtain ⟨p, l, e, R, s, m, args, below, meth, c, A, G, Q⟩ := F
  obtain ⟨hx, hb, hown, hts, hE, hA, -⟩ := hF
  intro H locs la hP hD hS hl
  have hv := fv_get (G := G) (S := S) (k := k) fl 0 j _ hj
  exact va_get (D := G.D) hx hb hts hC.2.1 hown hE.1 hP k (by rw [wd_get hk, cel_o hs]) hC.1 j hN (hts _ hw) (by subst hr; exact fun _ h => h) (by simpa using hv) hd (kk H locs la hP hD hS hl)
theorem x_getr {F : Cx} {u pc : Nat} {ls : List (Nat × Value)} {rest : List Value} {S : St} {cc : ByteArray} {own : String} {k ci N index : Nat} {C ref : String} {T : u_T} {ty : Nat → FieldType} {fl : List (Nat × Nat)} {t : Nat} (hF : Ok F cc own) (hs : shp k = .inl (ci, fl)) (j : Nat) (hj : fl[j]? = some (2, t)) (hC : CkO ci C T N ty) (hk : k < NC) (hN : j < N) (hw : Cond.fieldLink own index ref (T j).2.1 (T j).2.2.1 ∈ tbG) (hr : (T j).1 = ref) (hd : decode cc pc = .ok (.getfield index, 3)) (kk : X F u (pc + 3) ls (.ref (gA F t) :: rest) S) : X F u pc ls (.ref (gA F k) :: rest) S := by
  obtain ⟨p, l, e, R, s, m, args, below, meth, c, A, G, Q⟩ := F
  obtain ⟨hx, hb, hown, hts, hE, hA, -⟩ := hF
  intro H locs la hP hD hS hl
  have hv := fv_get (G := G) (S := S) (k := k) fl 0 j _ hj
  exact va_get (D := G.D) hx hb hts hC.2.1 hown hE.1 hP k (by rw [wd_get hk, cel_o hs]) hC.1 j hN (hts _ hw) (by subst hr; exact fun _ h => h) (by simpa using hv) hd (kk H locs la hP hD hS hl)
theorem x_puti {F : Cx} {u pc : Nat} {ls : List (Nat × Value)} {rest : List Value} {S : St} {cc : ByteArray} {own : String} {k ci N index : Nat} {C ref : String} {T : u_T} {ty : Nat → FieldType} {fl : List (Nat × Nat)} {t : Nat} {x : Int32} {tj : FieldType} (hF : Ok F cc own) (hs : shp k = .inl (ci, fl)) (j : Nat) (hj : fl[j]? = some (0, t)) (hC : CkO ci C T N ty) (hk : k < NC) (hN : j < N) (hw : Cond.fieldLink own index ref (T j).2.1 (T j).2.2.1 ∈ tbG) (hr : (T j).1 = ref) (hfin : (T j).2.2.2 = false) (hty : ty j = tj) (hn : narrow tj (.int x) = .int x) (hfit : fits tj (.int x) = true) {S9 : St} (hT : S9 = si S k j x) (hd : decode cc pc = .ok (.putfield index, 3)) (kk : X F u (pc + 3) ls rest S9) : X F u pc ls (.int x :: .ref (gA F k) :: rest) S := by
  obtain ⟨p, l, e, R, s, m, args, below, meth, c, A, G, Q⟩ := F
  obtain ⟨hx, hb, hown, hts, hE, hA, -⟩ := hF
  subst hT
  intro H locs la hP hD hS hl
  have e1 : (wd G S).set k (G.ad k, .inr (ci, (fv G S k 0 fl).set j (.int x))) = wd G (si S k j x) := by
    have := fv_si (G := G) (S := S) (k := k) (x := x) fl 0 j t hj
    rw [Nat.zero_add] at this
    rw [← this, ← cel_o hs]
    exact wd_set hk fun i hi => cel_ne (fun b => by rw [gi_si, if_neg (fun q => hi q.1)]) (fun b => rfl) (fun b => rfl)
  refine va_put (D := G.D) hx hb hts hC.2.1 ty hC.2.2.1 hC.2.2.2 hown hE.1 hP hD hS k (by rw [wd_get hk, cel_o hs]) hC.1 j hN (hts _ hw) (by subst hr; exact fun _ h => h) hfin (hty ▸ hC.2.2.1 j hN) hn hfit (by rw [fv_len]; exact (List.getElem?_eq_some_iff.mp hj).1) hd (fun H1 locs1 h1 h2 h3 => ?_)
  rw [e1] at h1 h2
  exact kk H1 locs1 la h1 h2 h3 hl
theorem x_putl {F : Cx} {u pc : Nat} {ls : List (Nat × Value)} {rest : List Value} {S : St} {cc : ByteArray} {own : String} {k ci N index : Nat} {C ref : String} {T : u_T} {ty : Nat → FieldType} {fl : List (Nat × Nat)} {t : Nat} {x : Int64} (hF : Ok F cc own) (hs : shp k = .inl (ci, fl)) (j : Nat) (hj : fl[j]? = some (1, t)) (hC : CkO ci C T N ty) (hk : k < NC) (hN : j < N) (hw : Cond.fieldLink own index ref (T j).2.1 (T j).2.2.1 ∈ tbG) (hr : (T j).1 = ref) (hfin : (T j).2.2.2 = false) (hty : ty j = .long) {S9 : St} (hT : S9 = sl S k j x) (hd : decode cc pc = .ok (.putfield index, 3)) (kk : X F u (pc + 3) ls rest S9) : X F u pc ls (.long x :: .ref (gA F k) :: rest) S := by
  obtain ⟨p, l, e, R, s, m, args, below, meth, c, A, G, Q⟩ := F
  obtain ⟨hx, hb, hown, hts, hE, hA, -⟩ := hF
  subst hT
  intro H locs la hP hD hS hl
  have e1 : (wd G S).set k (G.ad k, .inr (ci, (fv G S k 0 fl).set j (.long x))) = wd G (sl S k j x) := by
    have := fv_sl (G := G) (S := S) (k := k) (x := x) fl 0 j t hj
    rw [Nat.zero_add] at this
    rw [← this, ← cel_o hs]
    exact wd_set hk fun i hi => cel_ne (fun b => rfl) (fun b => by rw [gl_sl, if_neg (fun q => hi q.1)]) (fun b => rfl)
  refine va_put (D := G.D) hx hb hts hC.2.1 ty hC.2.2.1 hC.2.2.2 hown hE.1 hP hD hS k (by rw [wd_get hk, cel_o hs]) hC.1 j hN (hts _ hw) (by subst hr; exact fun _ h => h) hfin (hty ▸ hC.2.2.1 j hN) rfl rfl (by rw [fv_len]; exact (List.getElem?_eq_some_iff.mp hj).1) hd (fun H1 locs1 h1 h2 h3 => ?_)
  rw [e1] at h1 h2
  exact kk H1 locs1 la h1 h2 h3 hl
abbrev ix (i : Int32) : Nat := i.toNatClampNeg
abbrev inb (i : Int32) (n : Nat) : Prop := ¬ (i < 0 ∨ n ≤ i.toNatClampNeg)
abbrev isB (x : Int32) : Prop := x = 0 ∨ x = 1
theorem isB_n {x : Int32} (h : isB x) : narrow .boolean (.int x) = .int x := by rcases h with rfl | rfl <;> rfl
theorem isB_f {x : Int32} (h : isB x) : fits .boolean (.int x) = true := by rcases h with rfl | rfl <;> rfl
theorem x_iald {F : Cx} {u pc : Nat} {ls : List (Nat × Value)} {rest : List Value} {S : St} {cc : ByteArray} {own : String} {k n : Nat} {i : Int32} (hF : Ok F cc own) (hs : shp k = .inr (0, n)) (hk : k < NC) (hi : inb i n) {j : Nat} (hj : ix i = j) (hd : decode cc pc = .ok (.iaload, 1)) (kk : X F u (pc + 1) ls (.int (gi S k j) :: rest) S) : X F u pc ls (.int i :: .ref (gA F k) :: rest) S := by
  obtain ⟨p, l, e, R, s, m, args, below, meth, c, A, G, Q⟩ := F
  obtain ⟨hx, hb, hown, hts, hE, hA, -⟩ := hF
  intro H locs la hP hD hS hl
  subst hj
  exact va_iald (D := G.D) hx hb hE.1 hP k 0 (n := n) (f := gi S k) (by rw [wd_get hk, cel_a hs]; rfl) rfl hi hd (kk H locs la hP hD hS hl)
theorem x_iast {F : Cx} {u pc : Nat} {ls : List (Nat × Value)} {rest : List Value} {S : St} {cc : ByteArray} {own : String} {k n : Nat} {i x : Int32} (hF : Ok F cc own) (hs : shp k = .inr (0, n)) (hk : k < NC) (hi : inb i n) {j : Nat} (hj : ix i = j) {S9 : St} (hT : S9 = si S k j x) (hd : decode cc pc = .ok (.iastore, 1)) (kk : X F u (pc + 1) ls rest S9) : X F u pc ls (.int x :: .int i :: .ref (gA F k) :: rest) S := by
  obtain ⟨p, l, e, R, s, m, args, below, meth, c, A, G, Q⟩ := F
  obtain ⟨hx, hb, hown, hts, hE, hA, -⟩ := hF
  subst hj
  subst hT
  intro H locs la hP hD hS hl
  have e1 : (wd G S).set k (G.ad k, .inl (G.ca 0, n, .inl (upd (gi S k) i.toNatClampNeg x))) = wd G (si S k (ix i) x) := by
    have e2 : upd (gi S k) i.toNatClampNeg x = gi (si S k (ix i) x) k := by
      funext b
      rw [gi_si]
      simp [upd]
    rw [e2, show (Sum.inl (G.ca 0, n, .inl (gi (si S k (ix i) x) k)) : va_E) = cel G (si S k (ix i) x) k from (by rw [cel_a hs]; rfl)]
    exact wd_set hk fun i hi => cel_ne (fun b => by rw [gi_si, if_neg (fun q => hi q.1)]) (fun b => rfl) (fun b => rfl)
  refine va_iast (D := G.D) hx hb hE.1 hP hD hS k 0 (n := n) (f := gi S k) (by rw [wd_get hk, cel_a hs]; rfl) rfl hi hd (fun H1 locs1 h1 h2 h3 => ?_)
  rw [e1] at h1 h2
  exact kk H1 locs1 la h1 h2 h3 hl
/-! ===== a method's contract: it returns v, and the state is S' ===== -/
def rmO (d u : Nat) : Room := { frames := d, cells := u, slots := 8 * u, locals := 40 * d }
def Wk (G : Ga) (sz : Nat) (S : St) (U : State) : Prop := va_P G.D vwCl (wd G S) U.heap ∧ va_D (fun _ => True) (wd G S) ∧ En G (va_A (wd G S) sz) U U.heap
def Qg (G : Ga) (A : Nat → Prop) (v : Option Value) (S' : St) : Array Value → State → Outcome → State → Prop := fun _ st oc t => (oc = .returned v ∧ va_P G.D vwCl (wd G S') t.heap) ∧ va_F A st t
def CT (l : Launch) (G : Ga) (d : Nat) (y : MethodName) (cc : ByteArray) (nL : Nat) (ret : Option FieldType) (as : List Value) (S : St) (v : Option Value) (S' : St) : Prop :=
  ∀ sz : Nat, Met l y (Cond.code y cc nL ret :: tbG) (rmO d 0) (va_Pc as (fun U => U.heap.size = sz ∧ Wk G sz S U)) (Qg G (va_A (wd G S) sz) v S') 0 0 (va_A (wd G S) sz)
theorem gi_in {y : MethodName} {cc : ByteArray} {nL : Nat} {ret : Option FieldType} (h : Cond.code y cc nL ret ∈ tbG) : GoodIn tbG (Cond.code y cc nL ret :: tbG) := by
  intro w hw
  rcases List.mem_cons.mp hw with rfl | hw
  · exact ⟨h, tb_good h⟩
  · exact ⟨hw, tb_good hw⟩
theorem blind_w {G : Ga} {sz : Nat} {S : St} {as : List Value} : FrameBlind (va_Pc as (fun U => U.heap.size = sz ∧ Wk G sz S U)) := by
  intro a U g mk h
  obtain ⟨h0, h1, h2, h3, h4⟩ := h
  exact ⟨h0, h1, h2, h3, En.blind (U := U) rfl h4⟩
theorem x_back {p : Program} {l : Launch} {e : Env} {R : Room} {s : State} {m : MethodId} {args : Array Value} {below : List Frame} {meth : Method} {c : Code} {A : Nat → Prop} {G : Ga} {Q : State → Prop} {u pc : Nat} {st0 rest : List Value} {a : Array Value} {S S' : St} {H : Heap} {locs : List Loc} {la : Array Slot} {v : Option Value} (hA : ∀ q, s.heap.size ≤ q → A q)
    (hD : va_D A (wd G S)) (hS : va_S A s.heap H locs) (hr : va_Run p l e R s m args below meth c H locs u (8 * u) 0 0 (F0 m pc la st0) rest (Qg G (va_A (wd G S) H.size) v S' a) (va_A (wd G S) H.size))
    (kk : ∀ (H1 : Heap) (locs1 : List Loc), va_P G.D vwCl (wd G S') H1 → va_D A (wd G S') → va_S A s.heap H1 locs1 → W p l e R s m args below meth c H1 locs1 u (8 * u) Q (F0 m (pc + 3) la (v.toList ++ rest))) : W p l e R s m args below meth c H locs u (8 * u) Q (F0 m pc la st0) := by
  have hf : ∀ q, va_A (wd G S) H.size q → A q := by
    rintro q (⟨k, e, h⟩ | h)
    · exact hD.2 k _ h
    · exact hA q (Nat.le_trans hS.1 h)
  intro T hT X
  obtain ⟨v1, st₀, t, T', L, h0, X', hL, e1, e2, ⟨⟨hv, hP⟩, hz, hk⟩, st⟩ := hr T hT X
  cases hv
  rw [h0] at hz hk
  obtain ⟨t2, a1, b1⟩ := kk T'.heap (locs ++ L) (by rw [e1]; exact hP) (wd_D hD)
    ⟨Nat.le_trans hS.1 (by rw [e1]; exact hz), fun q h1 h2 => by rw [e1, hk q (Nat.lt_of_lt_of_le h1 hS.1) (fun z => h2 (hf q z))]; exact hS.2.1 q h1 h2, fun q hq => by
      rcases List.mem_append.mp hq with h | h
      · exact hS.2.2 q h
      · exact hf _ (hL q h)⟩ T' rfl X'
  exact ⟨t2, st t2 a1, b1⟩
theorem x_pre {l : Launch} {G : Ga} {A : Nat → Prop} {s : State} {S : St} {H : Heap} {locs : List Loc} {as : List Value} (hE : En G A s s.heap) (hA : ∀ q, s.heap.size ≤ q → A q) (hP : va_P G.D vwCl (wd G S) H) (hD : va_D A (wd G S)) (hS : va_S A s.heap H locs) : ∀ U : State, U.heap = H → s.WarmedH U.vm → va_Pc as (fun U => U.heap.size = H.size ∧ Wk G H.size S U) as.toArray U := by
  intro U hU hW
  have hf : ∀ q, va_A (wd G S) H.size q → A q := by
    rintro q (⟨k, e, h⟩ | h)
    · exact hD.2 k _ h
    · exact hA q (Nat.le_trans hS.1 h)
  exact ⟨rfl, by rw [hU], by rw [hU]; exact hP, hD.weaken (fun _ _ _ _ => trivial), by rw [hU]; exact En.moved hW (En.sub hf (En.kept hS.1 (fun q h1 h2 => hS.2.1 q h1 h2) hE))⟩
/-- a call of an instance method, own or of another class, by its own name -/
theorem x_cV {F : Cx} {u pc : Nat} {ls : List (Nat × Value)} {rest st : List Value} {S S' : St} {cc : ByteArray} {own : String} {d U d' nL' n index k ci N nL : Nat} {y : MethodName} {cc' : ByteArray} {ret : Option FieldType} (as : List Value) {v : Option Value} {C : String} {T : u_T} {ty : Nat → FieldType} {fl : List (Nat × Nat)} (hF : Ok F cc own) (hN : nLF F nL) (hR : RmF F d U) (hM : CT F.2.1 (gG F) d' y cc' nL' ret (.ref (gA F k) :: as) S v S') (hm : Mw y cc' nL' ret n) (hi : Cond.instanceMethod y ∈ tbG ∧ Cond.selects C y y ∈ tbG) (hs : shp k = .inl (ci, fl)) (hC : CkO ci C T N ty) (hk : k < NC) (hw : Cond.methodLink own index y ∈ tbG) (hu : u ≤ U ∧ d' + 1 ≤ d) (hn : as.length = n) (hst : st = as.reverse ++ .ref (gA F k) :: rest) (hW : (rest.map fun v => v.category).sum ≤ 8) (hd : decode cc pc = .ok (.invokevirtual index, 3)) (kk : X F u (pc + 3) ls (v.toList ++ rest) S') : X F u pc ls st S := by
  obtain ⟨p, l, e, R, s, m, args, below, meth, c, A, G, Q⟩ := F
  obtain ⟨hx, hb, hown, hts, hE, hA, -⟩ := hF
  intro H locs la hP hD hS hl
  obtain ⟨r1, r2, r3, r4⟩ := hR
  dsimp only at r1 r2 r3 r4
  have hml : c.maxLocals = nL := hN
  refine x_back (S := S) (S' := S') hA hD hS (va_runV (Ts := tbG) (own := own) (C := C) (n := n) (index := index) (bytes := cc') (maxL := nL') (ret := ret) (nL := nL) (As := as) (rest := rest) ⟨hx, hb, hml, hown, hts⟩ (hM H.size) ?_ ⟨blind_w, va_recv hE.1 hP (q0 := k) (ci := ci) hC.1 (by rw [wd_get hk, cel_o hs]), x_pre (l := l) hE hA hP hD hS⟩ rfl hn (by rw [← hml]; exact hl.1) hst (lv_room hW) hd ⟨by omega, by omega⟩) (fun H1 locs1 h1 h2 h3 => kk H1 locs1 la h1 h2 h3 hl)
  exact ⟨callB_of n hts (gi_in hm.1) rfl rfl rfl (hts _ hm.2.1) (hts _ hw) hm.2.2.1 ⟨by show d' + 1 ≤ R.frames; omega, by show 8 + (nL' + 11) + 40 * d' ≤ R.locals; have := hm.2.2.2; omega⟩, hts _ hi.1, hts _ hi.2⟩
/-- a call of a static method of its own class -/
theorem x_cS {F : Cx} {u pc : Nat} {ls : List (Nat × Value)} {rest st : List Value} {S S' : St} {cc : ByteArray} {own : String} {d U d' nL' n index nL : Nat} {y : MethodName} {cc' : ByteArray} {ret : Option FieldType} (as : List Value) {v : Option Value} (hF : Ok F cc own) (hN : nLF F nL) (hR : RmF F d U) (hM : CT F.2.1 (gG F) d' y cc' nL' ret as S v S') (hm : Mw y cc' nL' ret n) (hi : Cond.static y ∈ tbG) (hw : Cond.methodLink own index y ∈ tbG) (hu : u ≤ U ∧ d' + 1 ≤ d) (hn : as.length = n) (hst : st = as.reverse ++ rest) (hW : (rest.map fun v => v.category).sum ≤ 8) (hd : decode cc pc = .ok (.invokestatic index, 3)) (kk : X F u (pc + 3) ls (v.toList ++ rest) S') : X F u pc ls st S := by
  obtain ⟨p, l, e, R, s, m, args, below, meth, c, A, G, Q⟩ := F
  obtain ⟨hx, hb, hown, hts, hE, hA, -⟩ := hF
  intro H locs la hP hD hS hl
  obtain ⟨r1, r2, r3, r4⟩ := hR
  dsimp only at r1 r2 r3 r4
  have hml : c.maxLocals = nL := hN
  refine x_back (S := S) (S' := S') hA hD hS (va_runS (Ts := tbG) (own := own) (n := n) (index := index) (bytes := cc') (maxL := nL') (ret := ret) (nL := nL) (As := as) (rest := rest) ⟨hx, hb, hml, hown, hts⟩ (hM H.size) ?_ ⟨blind_w, x_pre (l := l) hE hA hP hD hS⟩ rfl hn (by rw [← hml]; exact hl.1) hst (lv_room hW) hd ⟨by omega, by omega⟩) (fun H1 locs1 h1 h2 h3 => kk H1 locs1 la h1 h2 h3 hl)
  exact ⟨callB_of n hts (gi_in hm.1) rfl rfl rfl (hts _ hm.2.1) (hts _ hw) hm.2.2.1 ⟨by show d' + 1 ≤ R.frames; omega, by show 8 + (nL' + 11) + 40 * d' ≤ R.locals; have := hm.2.2.2; omega⟩, hts _ hi⟩
/-- a contract out of a walk -/
theorem ct_of {l : Launch} {G : Ga} {d : Nat} {y : MethodName} {cc : ByteArray} {nL : Nat} {ret : Option FieldType} {as : List Value} {S : St} {v : Option Value} {S' : St} (hl : l.stackTraces = false) (hy : plainName y.cls = true) (hn : (lg_sl as).length ≤ nL)
    (body : ∀ F : Cx, F.2.1 = l → gG F = G → Ok F cc y.cls → nLF F nL → RmF F d 0 →
      ((∀ (pc : Nat) (ls : List (Nat × Value)) (x : Int32), ret = some .int → v = some (.int x) → decode cc pc = .ok (.ireturn, 1) → X F 0 pc ls [.int x] S') ∧
       (∀ (pc : Nat) (ls : List (Nat × Value)) (x : Int32), ret = some .boolean → isB x → v = some (.int x) → decode cc pc = .ok (.ireturn, 1) → X F 0 pc ls [.int x] S') ∧
       (∀ (pc : Nat) (ls : List (Nat × Value)) (x : Int64), ret = some .long → v = some (.long x) → decode cc pc = .ok (.lreturn, 1) → X F 0 pc ls [.long x] S') ∧
       (∀ (pc : Nat) (ls : List (Nat × Value)) (x : Value) (C : String), ret = some (.object C) → (x = .null ∨ ∃ a, x = .ref a) → v = some x → decode cc pc = .ok (.areturn, 1) → X F 0 pc ls [x] S') ∧
       (∀ (pc : Nat) (ls : List (Nat × Value)), ret = none → v = none → decode cc pc = .ok (.return_, 1) → X F 0 pc ls [] S') ∧
       (∀ (pc : Nat) (ls : List (Nat × Value)) (x : Int32) (ty : FieldType), ret = some ty → narrow ty (.int x) = .int x → v = some (.int x) → decode cc pc = .ok (.ireturn, 1) → X F 0 pc ls [.int x] S')) → X F 0 0 (lv_args 0 as) [] S) : CT l G d y cc nL ret as S v S' := by
  intro sz
  refine Met.ofW (cc := cc) (maxL := nL) (ret := ret) hy rfl ?_
  intro p e s m args below meth c s₁ B hml hv
  obtain ⟨rfl, hsz, hP, hD0, hE⟩ := hv
  have hx := B.exec
  have hb := B.bytes
  have hr := B.returns
  have hts := atoms_spec (ws := Cond.code y cc nL ret :: tbG) B.pre
  have hown : s.vm.findClass y.cls = some m.cls := findClass_of_methodNamed B.named
  have hlocks := B.notSynchronized
  subst hsz
  have hD := hD0.self (sz := s.heap.size)
  have hA : ∀ q : Nat, s.heap.size ≤ q → va_A (wd G S) s.heap.size q := fun q h => Or.inr h
  have hl9 := lv_entry as (n := nL) hn
  rw [lg_entry_eq]
  have hin : ∀ H : Heap, ∀ locs : List Loc, va_P G.D vwCl (wd G S') H → va_S (va_A (wd G S) s.heap.size) s.heap H locs → ∀ t : State, t.heap = H → Qg G (va_A (wd G S) s.heap.size) v S' as.toArray s (.returned v) t := fun H locs hP hS t ht => ⟨⟨rfl, by rw [ht]; exact hP⟩, hS.F ht⟩
  refine body (p, l, e, rmO d 0, s, m, as.toArray, below, meth, c, va_A (wd G S) s.heap.size, G, MQ below (Qg G (va_A (wd G S) s.heap.size) v S') as.toArray s 0 0 (va_A (wd G S) s.heap.size)) rfl rfl ⟨hx, hb, hown, fun w hw => hts w (List.mem_cons_of_mem _ hw), hE, hA, hlocks, hl⟩ hml ⟨Nat.le_refl _, Nat.le_refl _, Nat.le_refl _, Nat.le_refl _⟩ ⟨?_, ?_, ?_, ?_, ?_, ?_⟩ s.heap [] _ hP hD va_S.rf (by rw [hml]; exact hl9)
  · intro pc ls x h1 h2 h3 H locs la hP hD hS hl
    subst h2
    exact W.iret hx hb (hr.trans h1) (fun t ht hW => hin H locs hP hS t ht) hS.2.2 h3
  · intro pc ls x h1 h2 h3 h4 H locs la hP hD hS hl
    subst h3
    exact W.zret hx hb (hr.trans h1) (isB_n h2) (fun t ht hW => hin H locs hP hS t ht) hS.2.2 h4
  · intro pc ls x h1 h2 h3 H locs la hP hD hS hl
    subst h2
    exact W.lret hx hb (hr.trans h1) (fun t ht hW => hin H locs hP hS t ht) hS.2.2 h3
  · intro pc ls x C h1 h2 h3 h4 H locs la hP hD hS hl
    subst h3
    exact W.aret hx hb (hr.trans h1) (Or.inl ⟨C, rfl⟩) h2 (fun t ht hW => hin H locs hP hS t ht) hS.2.2 h4
  · intro pc ls h1 h2 h3 H locs la hP hD hS hl
    subst h2
    exact W.vret hx hb (hr.trans h1) (fun t ht hW => hin H locs hP hS t ht) hS.2.2 h3
  · intro pc ls x ty h1 h2 h3 h4 H locs la hP hD hS hl
    subst h3
    exact W.zret hx hb (hr.trans h1) h2 (fun t ht hW => hin H locs hP hS t ht) hS.2.2 h4
theorem x_cVi {F : Cx} {u pc : Nat} {ls : List (Nat × Value)} {rest st : List Value} {S S' : St} {cc : ByteArray} {own : String} {d U d' nL' n index k ci N nL : Nat} {y : MethodName} {cc' : ByteArray} {ret : Option FieldType} {as : List Value} {r : Int32} {C : String} {T : u_T} {ty : Nat → FieldType} {fl : List (Nat × Nat)} (hF : Ok F cc own) (hN : nLF F nL) (hR : RmF F d U) (hM : CT F.2.1 (gG F) d' y cc' nL' ret (.ref (gA F k) :: as) S (some (.int r)) S') (hm : Mw y cc' nL' ret n) (hi : Cond.instanceMethod y ∈ tbG ∧ Cond.selects C y y ∈ tbG) (hs : shp k = .inl (ci, fl)) (hC : CkO ci C T N ty) (hk : k < NC) (hw : Cond.methodLink own index y ∈ tbG) (hu : u ≤ U ∧ d' + 1 ≤ d) (hn : as.length = n) (hst : st = as.reverse ++ .ref (gA F k) :: rest) (hW : (rest.map fun v => v.category).sum ≤ 8) (hd : decode cc pc = .ok (.invokevirtual index, 3)) (kk : X F u (pc + 3) ls (.int r :: rest) S') : X F u pc ls st S := x_cV as hF hN hR hM hm hi hs hC hk hw hu hn hst hW hd kk
theorem x_cVl {F : Cx} {u pc : Nat} {ls : List (Nat × Value)} {rest st : List Value} {S S' : St} {cc : ByteArray} {own : String} {d U d' nL' n index k ci N nL : Nat} {y : MethodName} {cc' : ByteArray} {ret : Option FieldType} {as : List Value} {r : Int64} {C : String} {T : u_T} {ty : Nat → FieldType} {fl : List (Nat × Nat)} (hF : Ok F cc own) (hN : nLF F nL) (hR : RmF F d U) (hM : CT F.2.1 (gG F) d' y cc' nL' ret (.ref (gA F k) :: as) S (some (.long r)) S') (hm : Mw y cc' nL' ret n) (hi : Cond.instanceMethod y ∈ tbG ∧ Cond.selects C y y ∈ tbG) (hs : shp k = .inl (ci, fl)) (hC : CkO ci C T N ty) (hk : k < NC) (hw : Cond.methodLink own index y ∈ tbG) (hu : u ≤ U ∧ d' + 1 ≤ d) (hn : as.length = n) (hst : st = as.reverse ++ .ref (gA F k) :: rest) (hW : (rest.map fun v => v.category).sum ≤ 8) (hd : decode cc pc = .ok (.invokevirtual index, 3)) (kk : X F u (pc + 3) ls (.long r :: rest) S') : X F u pc ls st S := x_cV as hF hN hR hM hm hi hs hC hk hw hu hn hst hW hd kk
theorem x_cVv {F : Cx} {u pc : Nat} {ls : List (Nat × Value)} {rest st : List Value} {S S' : St} {cc : ByteArray} {own : String} {d U d' nL' n index k ci N nL : Nat} {y : MethodName} {cc' : ByteArray} {ret : Option FieldType} {as : List Value} {C : String} {T : u_T} {ty : Nat → FieldType} {fl : List (Nat × Nat)} (hF : Ok F cc own) (hN : nLF F nL) (hR : RmF F d U) (hM : CT F.2.1 (gG F) d' y cc' nL' ret (.ref (gA F k) :: as) S none S') (hm : Mw y cc' nL' ret n) (hi : Cond.instanceMethod y ∈ tbG ∧ Cond.selects C y y ∈ tbG) (hs : shp k = .inl (ci, fl)) (hC : CkO ci C T N ty) (hk : k < NC) (hw : Cond.methodLink own index y ∈ tbG) (hu : u ≤ U ∧ d' + 1 ≤ d) (hn : as.length = n) (hst : st = as.reverse ++ .ref (gA F k) :: rest) (hW : (rest.map fun v => v.category).sum ≤ 8) (hd : decode cc pc = .ok (.invokevirtual index, 3)) (kk : X F u (pc + 3) ls rest S') : X F u pc ls st S := x_cV as hF hN hR hM hm hi hs hC hk hw hu hn hst hW hd kk
theorem x_cSi {F : Cx} {u pc : Nat} {ls : List (Nat × Value)} {rest st : List Value} {S S' : St} {cc : ByteArray} {own : String} {d U d' nL' n index nL : Nat} {y : MethodName} {cc' : ByteArray} {ret : Option FieldType} {as : List Value} {r : Int32} (hF : Ok F cc own) (hN : nLF F nL) (hR : RmF F d U) (hM : CT F.2.1 (gG F) d' y cc' nL' ret as S (some (.int r)) S') (hm : Mw y cc' nL' ret n) (hi : Cond.static y ∈ tbG) (hw : Cond.methodLink own index y ∈ tbG) (hu : u ≤ U ∧ d' + 1 ≤ d) (hn : as.length = n) (hst : st = as.reverse ++ rest) (hW : (rest.map fun v => v.category).sum ≤ 8) (hd : decode cc pc = .ok (.invokestatic index, 3)) (kk : X F u (pc + 3) ls (.int r :: rest) S') : X F u pc ls st S := x_cS as hF hN hR hM hm hi hw hu hn hst hW hd kk
theorem x_tsIn {F : Cx} {u pc : Nat} {ls : List (Nat × Value)} {rest : List Value} {S : St} {cc : ByteArray} {own : String} {dflt lo hi : Int} {offs : Array Int} {len : Nat} {x c : Int32} {off : Int} {tgt : Nat} (hF : Ok F cc own) (hd : decode cc pc = .ok (.tableswitch dflt lo hi offs, len)) (hx : x = c) (h1 : ¬ c.toInt < lo) (h2 : ¬ hi < c.toInt) (ho : offs[(c.toInt - lo).toNat]? = some off) (ht : (pc : Int) + off = (tgt : Int)) (k : X F u tgt ls rest S) : X F u pc ls (.int x :: rest) S := by
  subst hx
  obtain ⟨p, l, e, R, s, m, args, below, meth, c, A, G, Q⟩ := F
  intro H locs la hP hD hS hl
  exact lv_tableIn hF.1 hF.2.1 hd h1 h2 ho ht (k H locs la hP hD hS hl)
theorem x_tsOut {F : Cx} {u pc : Nat} {ls : List (Nat × Value)} {rest : List Value} {S : St} {cc : ByteArray} {own : String} {dflt lo hi : Int} {offs : Array Int} {len : Nat} {x : Int32} {tgt : Nat} (hF : Ok F cc own) (hd : decode cc pc = .ok (.tableswitch dflt lo hi offs, len)) (h : x.toInt < lo ∨ hi < x.toInt) (ht : (pc : Int) + dflt = (tgt : Int)) (k : X F u tgt ls rest S) : X F u pc ls (.int x :: rest) S := by
  obtain ⟨p, l, e, R, s, m, args, below, meth, c, A, G, Q⟩ := F
  intro H locs la hP hD hS hl
  exact lv_tableOut hF.1 hF.2.1 hd h ht (k H locs la hP hD hS hl)
theorem i32ne {x c : Int32} (n : Int) (hc : c.toInt = n) (h : ¬ x = c) : x.toInt ≠ n := fun e => h (Int32.toInt_inj.mp (e.trans hc.symm))
theorem sm {α β : Type} {a c : α} {b d : β} (h : some (a, b) = some (c, d)) : a = c ∧ b = d := by cases h; exact ⟨rfl, rfl⟩
def ol {α : Type} (T : St) (f : St → Option α) : Option α := f T
theorem ol_some {α : Type} {T : St} {f : St → Option α} {r : α} (h : ol T f = some r) : ∃ T1, T1 = T ∧ f T1 = some r := ⟨T, rfl, h⟩
theorem Ok.tr {F : Cx} {cc : ByteArray} {own : String} (hF : Ok F cc own) : F.2.1.stackTraces = false := by
  obtain ⟨p, l, e, R, s, m, args, below, meth, c, A, G, Q⟩ := F
  exact hF.2.2.2.2.2.2.2

/-! ===== statics, copies, Math, calls of nest mates ===== -/
abbrev gS (F : Cx) : Nat → Nat := (gG F).2.2.2.2
abbrev gE (F : Cx) : Nat → Nat := (gG F).2.1
theorem x_gets {F : Cx} {u pc : Nat} {ls : List (Nat × Value)} {rest : List Value} {S : St} {cc : ByteArray} {own : String} {index : Nat} {C n d : String} {v : Value} (hF : Ok F cc own) (hz : (C, n, d, v) ∈ statZ (gG F)) (hw : Cond.fieldLink own index C n d ∈ tbG) (hd : decode cc pc = .ok (.getstatic index, 3)) (kk : X F u (pc + 3) ls (v :: rest) S) : X F u pc ls rest S := by
  obtain ⟨p, l, e, R, s, m, args, below, meth, c, A, G, Q⟩ := F
  obtain ⟨hx, hb, hown, hts, hE, hA, -⟩ := hF
  intro H locs la hP hD hS hl
  exact va_gets hx hb (hE.2.2.2.1 _ hz) hS hown (hts _ hw) (fun _ h => h) hd (kk H locs la hP hD hS hl)
theorem x_getsN {F : Cx} {u pc : Nat} {ls : List (Nat × Value)} {rest : List Value} {S : St} {cc : ByteArray} {own : String} {index : Nat} {C n d : String} {v : Value} (hF : Ok F cc own) (hz : (C, n, d, v) ∈ statZ (gG F)) (hw : (own, index, C, n, d, "QueueBlame") ∈ nestF) (hd : decode cc pc = .ok (.getstatic index, 3)) (kk : X F u (pc + 3) ls (v :: rest) S) : X F u pc ls rest S := by
  obtain ⟨p, l, e, R, s, m, args, below, meth, c, A, G, Q⟩ := F
  obtain ⟨hx, hb, hown, hts, hE, hA, -⟩ := hF
  intro H locs la hP hD hS hl
  exact va_getsN hx hb (hE.2.2.2.1 _ hz) hS hown (va_Nw.use rfl (hE.2.2.1 _ hw)) (fun _ h => h) hd (kk H locs la hP hD hS hl)
theorem x_ialdS {F : Cx} {u pc : Nat} {ls : List (Nat × Value)} {rest : List Value} {S : St} {cc : ByteArray} {own : String} {b L : Nat} {xs : Nat → Int32} {i : Int32} (hF : Ok F cc own) (hq : (b, L, xs) ∈ statX (gG F)) (hi : inb i L) (hd : decode cc pc = .ok (.iaload, 1)) (kk : X F u (pc + 1) ls (.int (xs (ix i)) :: rest) S) : X F u pc ls (.int i :: .ref b :: rest) S := by
  obtain ⟨p, l, e, R, s, m, args, below, meth, c, A, G, Q⟩ := F
  obtain ⟨hx, hb, hown, hts, hE, hA, -⟩ := hF
  intro H locs la hP hD hS hl
  have h5 := hE.2.2.2.2.1 _ hq
  exact va_sld hx hb h5.1 h5.2.1 h5.2.2 hS hi hd (kk H locs la hP hD hS hl)
theorem x_aaldR {F : Cx} {u pc : Nat} {ls : List (Nat × Value)} {rest : List Value} {S : St} {cc : ByteArray} {own : String} {k n : Nat} {i : Int32} (hF : Ok F cc own) (hs : shp k = .inr (2, n)) (hk : k < NC) (hi : inb i n) (hd : decode cc pc = .ok (.aaload, 1)) (kk : X F u (pc + 1) ls (.ref (gA F (8 + 5 * ix i)) :: rest) S) : X F u pc ls (.int i :: .ref (gA F k) :: rest) S := by
  obtain ⟨p, l, e, R, s, m, args, below, meth, c, A, G, Q⟩ := F
  obtain ⟨hx, hb, hown, hts, hE, hA, -⟩ := hF
  intro H locs la hP hD hS hl
  exact va_aldq (D := G.D) hx hb hE.1 hP k 2 (n := n) (f := fun j => some (G.ad (8 + 5 * j))) (by rw [wd_get hk, cel_a hs]; rfl) rfl hi hd (kk H locs la hP hD hS hl)
abbrev cpy (sp dp n : Int32) (n0 n1 : Nat) : Prop := ¬ sp < 0 ∧ ¬ dp < 0 ∧ ¬ n < 0 ∧ ix sp + ix n ≤ n0 ∧ ix dp + ix n ≤ n1
theorem x_copy {F : Cx} {u pc : Nat} {ls : List (Nat × Value)} {rest : List Value} {S : St} {cc : ByteArray} {own : String} {q k n0 n1 d U index nL : Nat} {sp dp n : Int32} (hF : Ok F cc own) (hN : nLF F nL) (hR : RmF F d U) (hs : shp q = .inr (0, n0)) (hq : q < NC) (hs1 : shp k = .inr (0, n1)) (hk : k < NC) (hg : cpy sp dp n n0 n1) (hw : Cond.methodLink own index arraycopyName ∈ tbG) (hwn : Cond.native arraycopyName ∈ tbG) (hws : Cond.static arraycopyName ∈ tbG) (hwi : Cond.initialized "java/lang/System" ∈ tbG) (hu : 1 ≤ d) (hW : (rest.map fun v => v.category).sum ≤ 8) {S9 : St} (hT : S9 = sc S q k (ix sp) (ix dp) (ix n)) (hd : decode cc pc = .ok (.invokestatic index, 3)) (kk : X F u (pc + 3) ls rest S9) : X F u pc ls (.int n :: .int dp :: .ref (gA F k) :: .int sp :: .ref (gA F q) :: rest) S := by
  obtain ⟨p, l, e, R, s, m, args, below, meth, c, A, G, Q⟩ := F
  obtain ⟨hx, hb, hown, hts, hE, hA, -⟩ := hF
  subst hT
  intro H locs la hP hD hS hl
  obtain ⟨r1, r2, r3, r4⟩ := hR
  dsimp only at r1 r2 r3 r4
  have e1 : (wd G S).set k (G.ad k, .inl (G.ca 0, n1, .inl (va_cpy (gi S q) (gi S k) sp.toNatClampNeg dp.toNatClampNeg n.toNatClampNeg))) = wd G (sc S q k (ix sp) (ix dp) (ix n)) := by
    have e2 : va_cpy (gi S q) (gi S k) sp.toNatClampNeg dp.toNatClampNeg n.toNatClampNeg = gi (sc S q k (ix sp) (ix dp) (ix n)) k := by
      funext b
      rw [gi_sc, if_pos rfl]
    rw [e2, show (Sum.inl (G.ca 0, n1, .inl (gi (sc S q k (ix sp) (ix dp) (ix n)) k)) : va_E) = cel G (sc S q k (ix sp) (ix dp) (ix n)) k from (by rw [cel_a hs1]; rfl)]
    exact wd_set hk fun i hi => cel_ne (fun b => by rw [gi_sc, if_neg hi]) (fun b => rfl) (fun b => rfl)
  refine va_copyi (D := G.D) hx hb (by rw [hl.1]) hown (hts _ hw) (hts _ hwn) (hts _ hws) (hts _ hwi) hE.1 hP hD hS q k 0 0 (n0 := n0) (n1 := n1) (f := gi S q) (g := gi S k) (ty := .int) (by rw [wd_get hq, cel_a hs]; rfl) (by rw [wd_get hk, cel_a hs1]; rfl) rfl rfl rfl hg.1 hg.2.1 hg.2.2.1 hg.2.2.2.1 hg.2.2.2.2 (fun _ _ => rfl) (by omega) ?_ hd (fun H1 locs1 h1 h2 h3 => ?_)
  · have e3 : nativeFrameWords "java/lang/System" "arraycopy" 5 + 11 ≤ 32 := by decide
    omega
  · rw [e1] at h1 h2
    exact kk H1 locs1 la h1 h2 h3 hl
theorem x_mmax {F : Cx} {u pc : Nat} {ls : List (Nat × Value)} {rest : List Value} {S : St} {cc : ByteArray} {own : String} {d U index : Nat} {x y : Int32} (hF : Ok F cc own) (hR : RmF F d U) (hw : Cond.methodLink own index Lib.Math.max.name ∈ tbG) (hws : Cond.static Lib.Math.max.name ∈ tbG) (hwi : Cond.initialized "java/lang/Math" ∈ tbG) (hwc : Cond.code Lib.Math.max.name Lib.Math.max.code 2 (some .int) ∈ tbG) (hu : u ≤ U ∧ 1 ≤ d) (hW : (rest.map fun v => v.category).sum ≤ 8) (hd : decode cc pc = .ok (.invokestatic index, 3)) (kk : X F u (pc + 3) ls (.int (if x < y then y else x) :: rest) S) : X F u pc ls (.int y :: .int x :: rest) S := by
  obtain ⟨p, l, e, R, s, m, args, below, meth, c, A, G, Q⟩ := F
  obtain ⟨hx, hb, hown, hts, hE, hA, -⟩ := hF
  intro H locs la hP hD hS hl
  obtain ⟨r1, r2, r3, r4⟩ := hR
  dsimp only at r1 r2 r3 r4
  exact va_mmax hx hb (by rw [hl.1]) hown (hts _ hw) (hts _ hws) (hts _ hwi) (hts _ hwc) (by omega) (by omega) (by omega) (by omega) hd (kk H locs la hP hD hS hl)
theorem x_mmin {F : Cx} {u pc : Nat} {ls : List (Nat × Value)} {rest : List Value} {S : St} {cc : ByteArray} {own : String} {d U index : Nat} {x y : Int32} (hF : Ok F cc own) (hR : RmF F d U) (hw : Cond.methodLink own index Lib.Math.min.name ∈ tbG) (hws : Cond.static Lib.Math.min.name ∈ tbG) (hwi : Cond.initialized "java/lang/Math" ∈ tbG) (hwc : Cond.code Lib.Math.min.name Lib.Math.min.code 2 (some .int) ∈ tbG) (hu : u ≤ U ∧ 1 ≤ d) (hW : (rest.map fun v => v.category).sum ≤ 8) (hd : decode cc pc = .ok (.invokestatic index, 3)) (kk : X F u (pc + 3) ls (.int (if y < x then y else x) :: rest) S) : X F u pc ls (.int y :: .int x :: rest) S := by
  obtain ⟨p, l, e, R, s, m, args, below, meth, c, A, G, Q⟩ := F
  obtain ⟨hx, hb, hown, hts, hE, hA, -⟩ := hF
  intro H locs la hP hD hS hl
  obtain ⟨r1, r2, r3, r4⟩ := hR
  dsimp only at r1 r2 r3 r4
  exact va_mmin hx hb (by rw [hl.1]) hown (hts _ hw) (hts _ hws) (hts _ hwi) (hts _ hwc) (by omega) (by omega) (by omega) (by omega) hd (kk H locs la hP hD hS hl)
theorem x_mabs {F : Cx} {u pc : Nat} {ls : List (Nat × Value)} {rest : List Value} {S : St} {cc : ByteArray} {own : String} {d U index : Nat} {x : Int32} (hF : Ok F cc own) (hR : RmF F d U) (hw : Cond.methodLink own index Lib.Math.abs.name ∈ tbG) (hws : Cond.static Lib.Math.abs.name ∈ tbG) (hwi : Cond.initialized "java/lang/Math" ∈ tbG) (hwc : Cond.code Lib.Math.abs.name Lib.Math.abs.code 1 (some .int) ∈ tbG) (hu : u ≤ U ∧ 1 ≤ d) (hW : (rest.map fun v => v.category).sum ≤ 8) (hd : decode cc pc = .ok (.invokestatic index, 3)) (kk : X F u (pc + 3) ls (.int (if 0 ≤ x then x else 0 - x) :: rest) S) : X F u pc ls (.int x :: rest) S := by
  obtain ⟨p, l, e, R, s, m, args, below, meth, c, A, G, Q⟩ := F
  obtain ⟨hx, hb, hown, hts, hE, hA, -⟩ := hF
  intro H locs la hP hD hS hl
  obtain ⟨r1, r2, r3, r4⟩ := hR
  dsimp only at r1 r2 r3 r4
  exact va_mabs hx hb (by rw [hl.1]) hown (hts _ hw) (hts _ hws) (hts _ hwi) (hts _ hwc) (by omega) (by omega) (by omega) (by omega) hd (kk H locs la hP hD hS hl)
theorem x_mmaxl {F : Cx} {u pc : Nat} {ls : List (Nat × Value)} {rest : List Value} {S : St} {cc : ByteArray} {own : String} {d U index : Nat} {x y : Int64} (hF : Ok F cc own) (hR : RmF F d U) (hw : Cond.methodLink own index Lib.MathLoose.max_long.x ∈ tbG) (hws : Cond.static Lib.MathLoose.max_long.x ∈ tbG) (hwi : Cond.initialized "java/lang/Math" ∈ tbG) (hwc : Cond.code Lib.MathLoose.max_long.x Lib.MathLoose.max_long.code 4 (some .long) ∈ tbG) (hu : u ≤ U ∧ 1 ≤ d) (hW : (rest.map fun v => v.category).sum ≤ 8) (hd : decode cc pc = .ok (.invokestatic index, 3)) (kk : X F u (pc + 3) ls (.long (if y < x then x else y) :: rest) S) : X F u pc ls (.long y :: .long x :: rest) S := by
  obtain ⟨p, l, e, R, s, m, args, below, meth, c, A, G, Q⟩ := F
  obtain ⟨hx, hb, hown, hts, hE, hA, -⟩ := hF
  intro H locs la hP hD hS hl
  obtain ⟨r1, r2, r3, r4⟩ := hR
  dsimp only at r1 r2 r3 r4
  exact va_mmax_long hx hb (by rw [hl.1]) hown (hts _ hw) (hts _ hws) (hts _ hwi) (hts _ hwc) (by omega) (by omega) (by omega) (by omega) hd (kk H locs la hP hD hS hl)
/-- a call of a static method of a nest mate -/
theorem x_cSN {F : Cx} {u pc : Nat} {ls : List (Nat × Value)} {rest st : List Value} {S S' : St} {cc : ByteArray} {own : String} {d U d' nL' n index nL : Nat} {y : MethodName} {cc' : ByteArray} {ret : Option FieldType} {as : List Value} {r : Int32} (hF : Ok F cc own) (hN : nLF F nL) (hR : RmF F d U) (hM : CT F.2.1 (gG F) d' y cc' nL' ret as S (some (.int r)) S') (hm : Mw y cc' nL' ret n) (hi : Cond.static y ∈ tbG) (hw : (own, index, y, "QueueBlame") ∈ nestM) (hu : u ≤ U ∧ d' + 1 ≤ d) (hn : as.length = n) (hst : st = as.reverse ++ rest) (hW : (rest.map fun v => v.category).sum ≤ 8) (hd : decode cc pc = .ok (.invokestatic index, 3)) (kk : X F u (pc + 3) ls (.int r :: rest) S') : X F u pc ls st S := by
  obtain ⟨p, l, e, R, s, m, args, below, meth, c, A, G, Q⟩ := F
  obtain ⟨hx, hb, hown, hts, hE, hA, -⟩ := hF
  intro H locs la hP hD hS hl
  obtain ⟨r1, r2, r3, r4⟩ := hR
  dsimp only at r1 r2 r3 r4
  have hml : c.maxLocals = nL := hN
  refine x_back (S := S) (S' := S') hA hD hS (va_runSN (Ts := tbG) (own := own) (n := n) (index := index) (bytes := cc') (maxL := nL') (ret := ret) (nL := nL) (host := "QueueBlame") (As := as) (rest := rest) ⟨hx, hb, hml, hown, hts⟩ (hM H.size) ?_ ⟨blind_w, x_pre (l := l) hE hA hP hD hS⟩ rfl hn (by rw [← hml]; exact hl.1) hst (lv_room hW) hd ⟨by omega, by omega⟩) (fun H1 locs1 h1 h2 h3 => kk H1 locs1 la h1 h2 h3 hl)
  exact ⟨va_cnB n hts (gi_in hm.1) rfl rfl rfl (hE.2.1 _ hw) (hts _ hm.2.1) hm.2.2.1 ⟨by show d' + 1 ≤ R.frames; omega, by show 8 + (nL' + 11) + 40 * d' ≤ R.locals; have := hm.2.2.2; omega⟩, hts _ hi, trivial⟩
theorem x_lsw {F : Cx} {u pc : Nat} {ls : List (Nat × Value)} {rest : List Value} {S : St} {cc : ByteArray} {own : String} {dflt : Int} {ps : Array (Int × Int)} {len : Nat} {x : Int32} {off : Int} {tgt : Nat} (hF : Ok F cc own) (hd : decode cc pc = .ok (.lookupswitch dflt ps, len)) (hp : (ps.toList.zip (ps.toList.drop 1)).all (fun (a, next) => a.1 < next.1) = true) (ho : Op.lookupswitch.offset ps.toList dflt x.toInt = off) (ht : (pc : Int) + off = (tgt : Int)) (k : X F u tgt ls rest S) : X F u pc ls (.int x :: rest) S := by
  obtain ⟨p, l, e, R, s, m, args, below, meth, c, A, G, Q⟩ := F
  intro H locs la hP hD hS hl
  exact lv_lookup hF.1 hF.2.1 hd hp ho ht (k H locs la hP hD hS hl)
abbrev isRecording (k : Nat) : Prop := k = 1 ∨ k = 8 ∨ k = 13 ∨ k = 18 ∨ k = 23 ∨ k = 28 ∨ k = 33 ∨ k = 38 ∨ k = 43
abbrev isReplayer (k : Nat) : Prop := k = 48 ∨ k = 58
abbrev isOutcome (k : Nat) : Prop := k = 49 ∨ k = 59
abbrev isLine (k : Nat) : Prop := k = 54 ∨ k = 64
theorem isReplayer_Outcome {k : Nat} (h : isReplayer k) : isOutcome (k + 1) := by rcases h with rfl | rfl <;> simp [isOutcome]
theorem isReplayer_Line {k : Nat} (h : isReplayer k) : isLine (k + 6) := by rcases h with rfl | rfl <;> simp [isLine]
theorem isRecording_st {i : Int32} (h : inb i 8) : isRecording (8 + 5 * ix i) := by
  have h1 : ¬ 8 ≤ ix i := fun q => h (Or.inr q)
  unfold isRecording
  omega

/-! ===== methods that may throw ===== -/
/-- an exception of class e is on its way through this frame -/
def XT (F : Cx) (u pc e : Nat) (ls : List (Nat × Value)) (S : St) : Prop := match F with
  | (p, l, ev, R, s, m, args, below, meth, c, A, G, Q) => ∀ (H : Heap) (locs : List Loc) (la : Array Slot) (st : List Value) (q : Addr) (ce : Cell), va_P G.D vwCl (wd G S) H → va_D A (wd G S) → va_S A s.heap H locs → lv_has la c.maxLocals ls → H[q]? = some ce → ce.vm = .none → s.vm.findClass (exn e) = some ce.cls → vx_W p l ev R s m args below meth c H locs u (8 * u) Q (F0 m pc la st) q
def Qx (G : Ga) (A : Nat → Prop) (r : Option Value ⊕ Nat) (S' : St) : Array Value → State → Outcome → State → Prop := fun a st oc t => ∃ v, r = .inl v ∧ Qg G A v S' a st oc t
def Xx (G : Ga) (A : Nat → Prop) (r : Option Value ⊕ Nat) (S' : St) : String → State → State → Prop := fun E st t => ∃ e, r = .inr e ∧ E = exn e ∧ va_P G.D vwCl (wd G S') t.heap ∧ va_F A st t
def CX (l : Launch) (G : Ga) (d U : Nat) (y : MethodName) (cc : ByteArray) (nL : Nat) (ret : Option FieldType) (as : List Value) (S : St) (r : Option Value ⊕ Nat) (S' : St) : Prop :=
  ∀ sz : Nat, vx_Met l y (Cond.code y cc nL ret :: tbG) (rmO d U) (va_Pc as (fun U => U.heap.size = sz ∧ Wk G sz S U)) (Qx G (va_A (wd G S) sz) r S') (Xx G (va_A (wd G S) sz) r S') U (8 * U) (va_A (wd G S) sz)
theorem x_backX {p : Program} {l : Launch} {e : Env} {R : Room} {s : State} {m : MethodId} {args : Array Value} {below : List Frame} {meth : Method} {c : Code} {A : Nat → Prop} {G : Ga} {Q : State → Prop} {u U' pc : Nat} {st0 rest : List Value} {a : Array Value} {S S' : St} {H : Heap} {locs : List Loc} {la : Array Slot} {r : Option Value ⊕ Nat} {ls : List (Nat × Value)} (hA : ∀ q, s.heap.size ≤ q → A q)
    (hD : va_D A (wd G S)) (hS : va_S A s.heap H locs) (hl : lv_has la c.maxLocals ls) (hr : vx_Run p l e R s m args below meth c H locs u (8 * u) U' (8 * U') (F0 m pc la st0) rest (Qx G (va_A (wd G S) H.size) r S' a) (Xx G (va_A (wd G S) H.size) r S') (va_A (wd G S) H.size))
    (kr : ∀ v, r = .inl v → X (p, l, e, R, s, m, args, below, meth, c, A, G, Q) (u + U') (pc + 3) ls (v.toList ++ rest) S')
    (kt : ∀ x, r = .inr x → XT (p, l, e, R, s, m, args, below, meth, c, A, G, Q) (u + U') pc x ls S') : W p l e R s m args below meth c H locs u (8 * u) Q (F0 m pc la st0) := by
  have hf : ∀ q, va_A (wd G S) H.size q → A q := by
    rintro q (⟨k, e, h⟩ | h)
    · exact hD.2 k _ h
    · exact hA q (Nat.le_trans hS.1 h)
  have eu : 8 * u + 8 * U' = 8 * (u + U') := by omega
  intro T hT X
  rcases hr T hT X with ⟨v, st₀, t, T', L, h0, X', hL, e1, e2, ⟨v', hr1, ⟨hv, hP⟩, hF⟩, st⟩ | ⟨q, st₀, t, T', L, E, ce, h0, X', hL, e1, e2, ⟨x, hr1, hEx, hP, hF⟩, hce, hcv, hcl, st⟩
  · cases hv
    obtain ⟨k1, k2, k3⟩ := vx_keep h0 e1 hS (fun q _ h => hf q h) hf hL hF
    rw [eu] at X'
    obtain ⟨t2, a1, b1⟩ := kr _ hr1 T'.heap (locs ++ L) la (by rw [e1]; exact hP) (wd_D hD) k3 hl T' rfl X'
    exact ⟨t2, st t2 a1, b1⟩
  · subst hEx
    obtain ⟨k1, k2, k3⟩ := vx_keep h0 e1 hS (fun q _ h => hf q h) hf hL hF
    rw [eu] at X'
    obtain ⟨t2, a1, b1⟩ := kt x hr1 T'.heap (locs ++ L) la rest q ce (by rw [e1]; exact hP) (wd_D hD) k3 hl (by rw [e1]; exact hce) hcv hcl T' rfl X'
    exact ⟨t2, st.trans a1, b1⟩
theorem x_xV {F : Cx} {u pc : Nat} {ls : List (Nat × Value)} {rest st : List Value} {S S' : St} {cc : ByteArray} {own : String} {d U d' U' nL' n index k ci N nL : Nat} {y : MethodName} {cc' : ByteArray} {ret : Option FieldType} {as : List Value} {r : Option Value ⊕ Nat} {C : String} {T : u_T} {ty : Nat → FieldType} {fl : List (Nat × Nat)} (hF : Ok F cc own) (hN : nLF F nL) (hR : RmF F d U) (hM : CX F.2.1 (gG F) d' U' y cc' nL' ret (.ref (gA F k) :: as) S r S') (hm : Mw y cc' nL' ret n) (hi : Cond.instanceMethod y ∈ tbG ∧ Cond.selects C y y ∈ tbG) (hs : shp k = .inl (ci, fl)) (hC : CkO ci C T N ty) (hk : k < NC) (hw : Cond.methodLink own index y ∈ tbG) (hu : u + U' ≤ U ∧ d' + 1 ≤ d) (hn : as.length = n) (hst : st = as.reverse ++ .ref (gA F k) :: rest) (hW : (rest.map fun v => v.category).sum ≤ 8) (hd : decode cc pc = .ok (.invokevirtual index, 3)) (kr : ∀ v, r = .inl v → X F (u + U') (pc + 3) ls (v.toList ++ rest) S') (kt : ∀ x, r = .inr x → XT F (u + U') pc x ls S') : X F u pc ls st S := by
  obtain ⟨p, l, e, R, s, m, args, below, meth, c, A, G, Q⟩ := F
  obtain ⟨hx, hb, hown, hts, hE, hA, -⟩ := hF
  intro H locs la hP hD hS hl
  obtain ⟨r1, r2, r3, r4⟩ := hR
  dsimp only at r1 r2 r3 r4
  have hml : c.maxLocals = nL := hN
  refine x_backX (S := S) (S' := S') hA hD hS hl (vx_runV (Ts := tbG) (own := own) (C := C) (n := n) (index := index) (bytes := cc') (maxL := nL') (ret := ret) (nL := nL) (As := as) (rest := rest) ⟨hx, hb, hml, hown, hts⟩ (hM H.size) ?_ ⟨blind_w, va_recv hE.1 hP (q0 := k) (ci := ci) hC.1 (by rw [wd_get hk, cel_o hs]), x_pre (l := l) hE hA hP hD hS⟩ rfl hn (by rw [← hml]; exact hl.1) hst (lv_room hW) hd ⟨by omega, by omega⟩) kr kt
  exact ⟨callB_of n hts (gi_in hm.1) rfl rfl rfl (hts _ hm.2.1) (hts _ hw) hm.2.2.1 ⟨by show d' + 1 ≤ R.frames; omega, by show 8 + (nL' + 11) + 40 * d' ≤ R.locals; have := hm.2.2.2; omega⟩, hts _ hi.1, hts _ hi.2⟩
theorem x_xS {F : Cx} {u pc : Nat} {ls : List (Nat × Value)} {rest st : List Value} {S S' : St} {cc : ByteArray} {own : String} {d U d' U' nL' n index nL : Nat} {y : MethodName} {cc' : ByteArray} {ret : Option FieldType} {as : List Value} {r : Option Value ⊕ Nat} (hF : Ok F cc own) (hN : nLF F nL) (hR : RmF F d U) (hM : CX F.2.1 (gG F) d' U' y cc' nL' ret as S r S') (hm : Mw y cc' nL' ret n) (hi : Cond.static y ∈ tbG) (hw : Cond.methodLink own index y ∈ tbG) (hu : u + U' ≤ U ∧ d' + 1 ≤ d) (hn : as.length = n) (hst : st = as.reverse ++ rest) (hW : (rest.map fun v => v.category).sum ≤ 8) (hd : decode cc pc = .ok (.invokestatic index, 3)) (kr : ∀ v, r = .inl v → X F (u + U') (pc + 3) ls (v.toList ++ rest) S') (kt : ∀ x, r = .inr x → XT F (u + U') pc x ls S') : X F u pc ls st S := by
  obtain ⟨p, l, e, R, s, m, args, below, meth, c, A, G, Q⟩ := F
  obtain ⟨hx, hb, hown, hts, hE, hA, -⟩ := hF
  intro H locs la hP hD hS hl
  obtain ⟨r1, r2, r3, r4⟩ := hR
  dsimp only at r1 r2 r3 r4
  have hml : c.maxLocals = nL := hN
  refine x_backX (S := S) (S' := S') hA hD hS hl (vx_runS (Ts := tbG) (own := own) (n := n) (index := index) (bytes := cc') (maxL := nL') (ret := ret) (nL := nL) (As := as) (rest := rest) ⟨hx, hb, hml, hown, hts⟩ (hM H.size) ?_ ⟨blind_w, x_pre (l := l) hE hA hP hD hS⟩ rfl hn (by rw [← hml]; exact hl.1) hst (lv_room hW) hd ⟨by omega, by omega⟩) kr kt
  exact ⟨callB_of n hts (gi_in hm.1) rfl rfl rfl (hts _ hm.2.1) (hts _ hw) hm.2.2.1 ⟨by show d' + 1 ≤ R.frames; omega, by show 8 + (nL' + 11) + 40 * d' ≤ R.locals; have := hm.2.2.2; omega⟩, hts _ hi⟩
/-- the five instructions that throw, at pc -/
def Thr (cc : ByteArray) (pc e ik is j : Nat) (tx : String) : Prop := Cond.classLink RX7 ik (exn e) ∈ tbG ∧ Cond.initialized (exn e) ∈ tbG ∧ msgL[j]? = some (is, tx) ∧ decode cc pc = .ok (.new ik, 3) ∧ decode cc (pc + 3) = .ok (.dup, 1) ∧ decode cc (pc + 4) = .ok (.ldc is, 2) ∧ decode cc (pc + 6) = .ok (.invokespecial (exi e), 3) ∧ decode cc (pc + 9) = .ok (.athrow, 1)
def ThrW (cc : ByteArray) (pc e ik is j : Nat) (tx : String) : Prop := Cond.classLink RX7 ik (exn e) ∈ tbG ∧ Cond.initialized (exn e) ∈ tbG ∧ msgL[j]? = some (is, tx) ∧ decode cc pc = .ok (.new ik, 3) ∧ decode cc (pc + 3) = .ok (.dup, 1) ∧ decode cc (pc + 4) = .ok (.ldc_w is, 3) ∧ decode cc (pc + 7) = .ok (.invokespecial (exi e), 3) ∧ decode cc (pc + 10) = .ok (.athrow, 1)
theorem exA_bad {e : Nat} (he : e < 3) : ∀ w ∈ (exA e).filter (fun w => !goodWord w), w ∈ exW := by
  intro w hw
  obtain ⟨h1, h2⟩ := List.mem_filter.mp hw
  refine List.mem_filter.mpr ⟨?_, h2⟩
  match e, he, h1 with
  | 0, _, h1 => exact List.mem_append_left _ (List.mem_append_left _ h1)
  | 1, _, h1 => exact List.mem_append_left _ (List.mem_append_right _ h1)
  | 2, _, h1 => exact List.mem_append_right _ h1
theorem ex_hat {G : Ga} {A : Nat → Prop} {args : Array Value} {s : State} {e : Nat} (he : e < 3) (hts : ∀ w ∈ tbG, w.before args s = true) (hE : En G A s s.heap) : ∀ w ∈ exA e, w.before args s = true :=
  vx_hat (L := exA e) (B := exW) (fun w hw => hts w (exA_good e he w hw)) (exA_bad he) (fun w hw => va_Nw.use (List.all_eq_true.mp exW_ot w hw) (hE.2.2.2.2.2.2.2.2.1 w hw))
/-- a contract of a method that may throw, out of a walk -/
theorem cx_of {l : Launch} {G : Ga} {d U : Nat} {y : MethodName} {cc : ByteArray} {nL : Nat} {ret : Option FieldType} {as : List Value} {S : St} {r : Option Value ⊕ Nat} {S' : St} (hlt : l.stackTraces = false) (hy : plainName y.cls = true) (hcls : y.cls = RX7) (hd6 : 6 ≤ d) (hn : (lg_sl as).length ≤ nL)
    (body : ∀ F : Cx, F.2.1 = l → gG F = G → Ok F cc y.cls → nLF F nL → RmF F d U →
      ((∀ (u pc : Nat) (ls : List (Nat × Value)) (x : Int32), u ≤ U → ret = some .int → r = .inl (some (.int x)) → decode cc pc = .ok (.ireturn, 1) → X F u pc ls [.int x] S') ∧
       (∀ (u pc : Nat) (ls : List (Nat × Value)), u ≤ U → ret = none → r = .inl none → decode cc pc = .ok (.return_, 1) → X F u pc ls [] S') ∧
       (∀ (u pc x : Nat) (ls : List (Nat × Value)), u ≤ U → r = .inr x → XT F u pc x ls S') ∧
       (∀ (u pc x ik is j : Nat) (tx : String) (ls : List (Nat × Value)) (st : List Value), u + 1 ≤ U → x < 3 → (st.map fun v => v.category).sum ≤ 8 → r = .inr x → Thr cc pc x ik is j tx ∨ ThrW cc pc x ik is j tx → X F u pc ls st S')) → X F 0 0 (lv_args 0 as) [] S) : CX l G d U y cc nL ret as S r S' := by
  intro sz
  refine vx_ofW (cc := cc) (maxL := nL) (ret := ret) hy rfl ?_
  intro p e s m args below meth c s₁ B hml htab hv
  obtain ⟨rfl, hsz, hP, hD0, hE⟩ := hv
  have hx := B.exec
  have hb := B.bytes
  have hr := B.returns
  have hts0 := atoms_spec (ws := Cond.code y cc nL ret :: tbG) B.pre
  have hts : ∀ w ∈ tbG, w.before as.toArray s = true := fun w hw => hts0 w (List.mem_cons_of_mem _ hw)
  have hown : s.vm.findClass y.cls = some m.cls := findClass_of_methodNamed B.named
  have hlocks := B.notSynchronized
  subst hsz
  have hD := hD0.self (sz := s.heap.size)
  have hA : ∀ q : Nat, s.heap.size ≤ q → va_A (wd G S) s.heap.size q := fun q h => Or.inr h
  have hl9 := lv_entry as (n := nL) hn
  rw [lg_entry_eq]
  have hin : ∀ v : Option Value, r = .inl v → ∀ H : Heap, ∀ locs : List Loc, va_P G.D vwCl (wd G S') H → va_S (va_A (wd G S) s.heap.size) s.heap H locs → ∀ t : State, t.heap = H → Qx G (va_A (wd G S) s.heap.size) r S' as.toArray s (.returned v) t := fun v hrv H locs hP hS t ht => ⟨v, hrv, ⟨rfl, by rw [ht]; exact hP⟩, hS.F ht⟩
  refine body (p, l, e, rmO d U, s, m, as.toArray, below, meth, c, va_A (wd G S) s.heap.size, G, vx_MQ below (Qx G (va_A (wd G S) s.heap.size) r S') (Xx G (va_A (wd G S) s.heap.size) r S') as.toArray s U (8 * U) (va_A (wd G S) s.heap.size)) rfl rfl ⟨hx, hb, hown, hts, hE, hA, hlocks, hlt⟩ hml ⟨Nat.le_refl _, Nat.le_refl _, Nat.le_refl _, Nat.le_refl _⟩ ⟨?_, ?_, ?_, ?_⟩ s.heap [] _ hP hD va_S.rf (by rw [hml]; exact hl9)
  · intro u pc ls x hu h1 h2 h3 H locs la hP hD hS hl
    refine vx_ret (W.widen (k := U) (n := 8 * U) hu (by omega) ?_)
    exact W.iret hx hb (hr.trans h1) (fun t ht hW => hin _ h2 H locs hP hS t ht) hS.2.2 h3
  · intro u pc ls hu h1 h2 h3 H locs la hP hD hS hl
    refine vx_ret (W.widen (k := U) (n := 8 * U) hu (by omega) ?_)
    exact W.vret hx hb (hr.trans h1) (fun t ht hW => hin _ h2 H locs hP hS t ht) hS.2.2 h3
  · intro u pc x ls hu h1 H locs la st q ce hP hD hS hl hq hcv hcl
    exact vx_out (fun z hz => (htab z hz).elim) hlocks hq hcv hcl (fun t ht hW => ⟨x, h1, rfl, by rw [ht]; exact hP, hS.F ht⟩) hS.2.2 hu (by omega)
  · intro u pc x ik is j tx ls st hu hx3 hsum h1 hT H locs la hP hD hS hl
    have hS9 : ∀ t : State, s.vm.Alike t.vm → H.size ≤ t.heap.size → (∀ q : Nat, q < H.size → t.heap[q]? = H[q]?) → Xx G (va_A (wd G S) s.heap.size) r S' (exn x) s t := fun t _ hz hk => ⟨x, h1, rfl, fun k q hq => (hP k q hq).kept (hk _ (hP k q hq).lt), Nat.le_trans hS.1 hz, fun q h1 h2 => (hk q (Nat.lt_of_lt_of_le h1 hS.1)).trans (hS.2.1 q h1 h2)⟩
    have hgood : ∀ w ∈ exA x, vx_ot w = true := List.all_eq_true.mp (exA_ot x hx3)
    have hgt : ∀ w ∈ tbG, vx_ot w = true := fun w hw => by
      unfold vx_ot
      rw [(List.mem_filter.mp hw).2, Bool.or_true]
    have hnm : ∀ n ∈ ["java/lang/RuntimeException", "java/lang/Exception"], Bundle.fit n = true := by decide +kernel
    rcases hT with hT | hT
    · obtain ⟨hk, hi, hms, d0, d3, d4, d6, d9⟩ := hT
      exact vx_throwS hx hb hlt (own := RX7) (names := ["java/lang/RuntimeException", "java/lang/Exception"]) (by rw [← hcls]; exact hown) (exn_fit x hx3) hnm (hts _ hk) (hts _ hi) (hE.2.2.2.2.2.1 j _ hms) (ex_hat hx3 hts hE) (fun w hw => by
        rcases List.mem_cons.mp hw with rfl | hw
        · exact hgt _ hk
        · rcases List.mem_cons.mp hw with rfl | hw
          · exact hgt _ hi
          · exact hgood w hw) hE.2.2.2.2.2.2.1 hE.2.2.2.2.2.2.2.1 hS (by rw [hl.1]) d0 d3 d4 d6 d9 (fun z hz => (htab z hz).elim) (by show 2 + 3 < d; omega) (by show _ + 82 ≤ 40 * d; omega) hu (by show 8 * u + 6 ≤ 8 * U; omega) hlocks hS9 hS.2.2 hu (by omega)
    · obtain ⟨hk, hi, hms, d0, d3, d4, d6, d9⟩ := hT
      exact vx_throwSW hx hb hlt (own := RX7) (names := ["java/lang/RuntimeException", "java/lang/Exception"]) (by rw [← hcls]; exact hown) (exn_fit x hx3) hnm (hts _ hk) (hts _ hi) (hE.2.2.2.2.2.1 j _ hms) (ex_hat hx3 hts hE) (fun w hw => by
        rcases List.mem_cons.mp hw with rfl | hw
        · exact hgt _ hk
        · rcases List.mem_cons.mp hw with rfl | hw
          · exact hgt _ hi
          · exact hgood w hw) hE.2.2.2.2.2.2.1 hE.2.2.2.2.2.2.2.1 hS (by rw [hl.1]) d0 d3 d4 d6 d9 (fun z hz => (htab z hz).elim) (by show 2 + 3 < d; omega) (by show _ + 82 ≤ 40 * d; omega) hu (by show 8 * u + 6 ≤ 8 * U; omega) hlocks hS9 hS.2.2 hu (by omega)
abbrev rvI (r : Int32 ⊕ Nat) : Option Value ⊕ Nat := match r with
  | .inl v => .inl (some (.int v))
  | .inr e => .inr e
abbrev rvU (r : Unit ⊕ Nat) : Option Value ⊕ Nat := match r with
  | .inl _ => .inl none
  | .inr e => .inr e
def obx {α β : Type} (a : Option ((α ⊕ Nat) × St)) (f : α → St → Option ((β ⊕ Nat) × St)) : Option ((β ⊕ Nat) × St) := match a with
  | none => none
  | some (.inl v, S) => f v S
  | some (.inr e, S) => some (.inr e, S)
theorem obx_some {α β : Type} {a : Option ((α ⊕ Nat) × St)} {f : α → St → Option ((β ⊕ Nat) × St)} {r : β ⊕ Nat} {S1 : St} (h : obx a f = some (r, S1)) : (∃ v S, a = some (.inl v, S) ∧ f v S = some (r, S1)) ∨ ∃ e, a = some (.inr e, S1) ∧ r = .inr e := by
  cases a with
  | none => cases h
  | some q =>
    obtain ⟨q, S⟩ := q
    cases q with
    | inl v => exact Or.inl ⟨v, S, rfl, h⟩
    | inr e =>
      obtain ⟨h1, h2⟩ := sm h
      subst h1 h2
      exact Or.inr ⟨e, rfl, rfl⟩
theorem x_xVi {F : Cx} {u pc : Nat} {ls : List (Nat × Value)} {rest st : List Value} {S S' : St} {cc : ByteArray} {own : String} {d U d' U' nL' n index k ci N nL : Nat} {y : MethodName} {cc' : ByteArray} {ret : Option FieldType} {as : List Value} {r : Int32} {C : String} {T : u_T} {ty : Nat → FieldType} {fl : List (Nat × Nat)} (hF : Ok F cc own) (hN : nLF F nL) (hR : RmF F d U) (hM : CX F.2.1 (gG F) d' U' y cc' nL' ret (.ref (gA F k) :: as) S (.inl (some (.int r))) S') (hm : Mw y cc' nL' ret n) (hi : Cond.instanceMethod y ∈ tbG ∧ Cond.selects C y y ∈ tbG) (hs : shp k = .inl (ci, fl)) (hC : CkO ci C T N ty) (hk : k < NC) (hw : Cond.methodLink own index y ∈ tbG) (hu : u + U' ≤ U ∧ d' + 1 ≤ d) (hn : as.length = n) (hst : st = as.reverse ++ .ref (gA F k) :: rest) (hW : (rest.map fun v => v.category).sum ≤ 8) (hd : decode cc pc = .ok (.invokevirtual index, 3)) (kk : X F (u + U') (pc + 3) ls (.int r :: rest) S') : X F u pc ls st S :=
  x_xV hF hN hR hM hm hi hs hC hk hw hu hn hst hW hd (fun v hv => by cases hv; exact kk) (fun x hx => by cases hx)
theorem x_xVv {F : Cx} {u pc : Nat} {ls : List (Nat × Value)} {rest st : List Value} {S S' : St} {cc : ByteArray} {own : String} {d U d' U' nL' n index k ci N nL : Nat} {y : MethodName} {cc' : ByteArray} {ret : Option FieldType} {as : List Value} {C : String} {T : u_T} {ty : Nat → FieldType} {fl : List (Nat × Nat)} (hF : Ok F cc own) (hN : nLF F nL) (hR : RmF F d U) (hM : CX F.2.1 (gG F) d' U' y cc' nL' ret (.ref (gA F k) :: as) S (.inl none) S') (hm : Mw y cc' nL' ret n) (hi : Cond.instanceMethod y ∈ tbG ∧ Cond.selects C y y ∈ tbG) (hs : shp k = .inl (ci, fl)) (hC : CkO ci C T N ty) (hk : k < NC) (hw : Cond.methodLink own index y ∈ tbG) (hu : u + U' ≤ U ∧ d' + 1 ≤ d) (hn : as.length = n) (hst : st = as.reverse ++ .ref (gA F k) :: rest) (hW : (rest.map fun v => v.category).sum ≤ 8) (hd : decode cc pc = .ok (.invokevirtual index, 3)) (kk : X F (u + U') (pc + 3) ls rest S') : X F u pc ls st S :=
  x_xV hF hN hR hM hm hi hs hC hk hw hu hn hst hW hd (fun v hv => by cases hv; exact kk) (fun x hx => by cases hx)
theorem x_xVt {F : Cx} {u pc : Nat} {ls : List (Nat × Value)} {rest st : List Value} {S S' : St} {cc : ByteArray} {own : String} {d U d' U' nL' n index k ci N nL e : Nat} {y : MethodName} {cc' : ByteArray} {ret : Option FieldType} {as : List Value} {C : String} {T : u_T} {ty : Nat → FieldType} {fl : List (Nat × Nat)} (hF : Ok F cc own) (hN : nLF F nL) (hR : RmF F d U) (hM : CX F.2.1 (gG F) d' U' y cc' nL' ret (.ref (gA F k) :: as) S (.inr e) S') (hm : Mw y cc' nL' ret n) (hi : Cond.instanceMethod y ∈ tbG ∧ Cond.selects C y y ∈ tbG) (hs : shp k = .inl (ci, fl)) (hC : CkO ci C T N ty) (hk : k < NC) (hw : Cond.methodLink own index y ∈ tbG) (hu : u + U' ≤ U ∧ d' + 1 ≤ d) (hn : as.length = n) (hst : st = as.reverse ++ .ref (gA F k) :: rest) (hW : (rest.map fun v => v.category).sum ≤ 8) (hd : decode cc pc = .ok (.invokevirtual index, 3)) (kt : XT F (u + U') pc e ls S') : X F u pc ls st S :=
  x_xV hF hN hR hM hm hi hs hC hk hw hu hn hst hW hd (fun v hv => by cases hv) (fun x hx => by cases hx; exact kt)
theorem x_xSv {F : Cx} {u pc : Nat} {ls : List (Nat × Value)} {rest st : List Value} {S S' : St} {cc : ByteArray} {own : String} {d U d' U' nL' n index nL : Nat} {y : MethodName} {cc' : ByteArray} {ret : Option FieldType} {as : List Value} (hF : Ok F cc own) (hN : nLF F nL) (hR : RmF F d U) (hM : CX F.2.1 (gG F) d' U' y cc' nL' ret as S (.inl none) S') (hm : Mw y cc' nL' ret n) (hi : Cond.static y ∈ tbG) (hw : Cond.methodLink own index y ∈ tbG) (hu : u + U' ≤ U ∧ d' + 1 ≤ d) (hn : as.length = n) (hst : st = as.reverse ++ rest) (hW : (rest.map fun v => v.category).sum ≤ 8) (hd : decode cc pc = .ok (.invokestatic index, 3)) (kk : X F (u + U') (pc + 3) ls rest S') : X F u pc ls st S :=
  x_xS hF hN hR hM hm hi hw hu hn hst hW hd (fun v hv => by cases hv; exact kk) (fun x hx => by cases hx)
theorem x_xSt {F : Cx} {u pc : Nat} {ls : List (Nat × Value)} {rest st : List Value} {S S' : St} {cc : ByteArray} {own : String} {d U d' U' nL' n index nL e : Nat} {y : MethodName} {cc' : ByteArray} {ret : Option FieldType} {as : List Value} (hF : Ok F cc own) (hN : nLF F nL) (hR : RmF F d U) (hM : CX F.2.1 (gG F) d' U' y cc' nL' ret as S (.inr e) S') (hm : Mw y cc' nL' ret n) (hi : Cond.static y ∈ tbG) (hw : Cond.methodLink own index y ∈ tbG) (hu : u + U' ≤ U ∧ d' + 1 ≤ d) (hn : as.length = n) (hst : st = as.reverse ++ rest) (hW : (rest.map fun v => v.category).sum ≤ 8) (hd : decode cc pc = .ok (.invokestatic index, 3)) (kt : XT F (u + U') pc e ls S') : X F u pc ls st S :=
  x_xS hF hN hR hM hm hi hw hu hn hst hW hd (fun v hv => by cases hv) (fun x hx => by cases hx; exact kt)

theorem shRecording_0 {k : Nat} (h : isRecording k) : shp k = .inl (3, [(0, 0), (2, k + 1), (2, k + 2), (2, k + 3), (2, k + 4)]) := by rcases h with rfl | rfl | rfl | rfl | rfl | rfl | rfl | rfl | rfl <;> decide +kernel
theorem ltRecording_0 {k : Nat} (h : isRecording k) : k < NC := by rcases h with rfl | rfl | rfl | rfl | rfl | rfl | rfl | rfl | rfl <;> decide
theorem shRecording_1 {k : Nat} (h : isRecording k) : shp (k + 1) = .inr (0, 40) := by rcases h with rfl | rfl | rfl | rfl | rfl | rfl | rfl | rfl | rfl <;> decide +kernel
theorem ltRecording_1 {k : Nat} (h : isRecording k) : (k + 1) < NC := by rcases h with rfl | rfl | rfl | rfl | rfl | rfl | rfl | rfl | rfl <;> decide
theorem shRecording_2 {k : Nat} (h : isRecording k) : shp (k + 2) = .inr (0, 40) := by rcases h with rfl | rfl | rfl | rfl | rfl | rfl | rfl | rfl | rfl <;> decide +kernel
theorem ltRecording_2 {k : Nat} (h : isRecording k) : (k + 2) < NC := by rcases h with rfl | rfl | rfl | rfl | rfl | rfl | rfl | rfl | rfl <;> decide
theorem shRecording_3 {k : Nat} (h : isRecording k) : shp (k + 3) = .inr (0, 40) := by rcases h with rfl | rfl | rfl | rfl | rfl | rfl | rfl | rfl | rfl <;> decide +kernel
theorem ltRecording_3 {k : Nat} (h : isRecording k) : (k + 3) < NC := by rcases h with rfl | rfl | rfl | rfl | rfl | rfl | rfl | rfl | rfl <;> decide
theorem shRecording_4 {k : Nat} (h : isRecording k) : shp (k + 4) = .inr (0, 14) := by rcases h with rfl | rfl | rfl | rfl | rfl | rfl | rfl | rfl | rfl <;> decide +kernel
theorem ltRecording_4 {k : Nat} (h : isRecording k) : (k + 4) < NC := by rcases h with rfl | rfl | rfl | rfl | rfl | rfl | rfl | rfl | rfl <;> decide
theorem shOutcome_0 {k : Nat} (h : isOutcome k) : shp k = .inl (2, [(0, 0), (0, 0), (2, k + 1), (0, 0), (2, k + 2), (0, 0), (0, 0), (2, k + 3), (2, k + 4)]) := by rcases h with rfl | rfl <;> decide +kernel
theorem ltOutcome_0 {k : Nat} (h : isOutcome k) : k < NC := by rcases h with rfl | rfl <;> decide
theorem shOutcome_1 {k : Nat} (h : isOutcome k) : shp (k + 1) = .inr (0, 40) := by rcases h with rfl | rfl <;> decide +kernel
theorem ltOutcome_1 {k : Nat} (h : isOutcome k) : (k + 1) < NC := by rcases h with rfl | rfl <;> decide
theorem shOutcome_2 {k : Nat} (h : isOutcome k) : shp (k + 2) = .inr (0, 40) := by rcases h with rfl | rfl <;> decide +kernel
theorem ltOutcome_2 {k : Nat} (h : isOutcome k) : (k + 2) < NC := by rcases h with rfl | rfl <;> decide
theorem shOutcome_3 {k : Nat} (h : isOutcome k) : shp (k + 3) = .inr (0, 40) := by rcases h with rfl | rfl <;> decide +kernel
theorem ltOutcome_3 {k : Nat} (h : isOutcome k) : (k + 3) < NC := by rcases h with rfl | rfl <;> decide
theorem shOutcome_4 {k : Nat} (h : isOutcome k) : shp (k + 4) = .inr (0, 40) := by rcases h with rfl | rfl <;> decide +kernel
theorem ltOutcome_4 {k : Nat} (h : isOutcome k) : (k + 4) < NC := by rcases h with rfl | rfl <;> decide
theorem shLine_0 {k : Nat} (h : isLine k) : shp k = .inl (1, [(0, 0), (2, k + 1), (2, k + 2), (0, 0), (0, 0)]) := by rcases h with rfl | rfl <;> decide +kernel
theorem ltLine_0 {k : Nat} (h : isLine k) : k < NC := by rcases h with rfl | rfl <;> decide
theorem shLine_1 {k : Nat} (h : isLine k) : shp (k + 1) = .inr (0, 40) := by rcases h with rfl | rfl <;> decide +kernel
theorem ltLine_1 {k : Nat} (h : isLine k) : (k + 1) < NC := by rcases h with rfl | rfl <;> decide
theorem shLine_2 {k : Nat} (h : isLine k) : shp (k + 2) = .inr (0, 40) := by rcases h with rfl | rfl <;> decide +kernel
theorem ltLine_2 {k : Nat} (h : isLine k) : (k + 2) < NC := by rcases h with rfl | rfl <;> decide
theorem shReplayer_0 {k : Nat} (h : isReplayer k) : shp k = .inl (4, [(2, 1), (2, k + 1), (2, k + 6), (2, k + 9), (0, 0), (0, 0), (0, 0), (0, 0), (0, 0)]) := by rcases h with rfl | rfl <;> decide +kernel
theorem ltReplayer_0 {k : Nat} (h : isReplayer k) : k < NC := by rcases h with rfl | rfl <;> decide
theorem shReplayer_1 {k : Nat} (h : isReplayer k) : shp (k + 1) = .inl (2, [(0, 0), (0, 0), (2, k + 2), (0, 0), (2, k + 3), (0, 0), (0, 0), (2, k + 4), (2, k + 5)]) := by rcases h with rfl | rfl <;> decide +kernel
theorem ltReplayer_1 {k : Nat} (h : isReplayer k) : (k + 1) < NC := by rcases h with rfl | rfl <;> decide
theorem shReplayer_2 {k : Nat} (h : isReplayer k) : shp (k + 2) = .inr (0, 40) := by rcases h with rfl | rfl <;> decide +kernel
theorem ltReplayer_2 {k : Nat} (h : isReplayer k) : (k + 2) < NC := by rcases h with rfl | rfl <;> decide
theorem shReplayer_3 {k : Nat} (h : isReplayer k) : shp (k + 3) = .inr (0, 40) := by rcases h with rfl | rfl <;> decide +kernel
theorem ltReplayer_3 {k : Nat} (h : isReplayer k) : (k + 3) < NC := by rcases h with rfl | rfl <;> decide
theorem shReplayer_4 {k : Nat} (h : isReplayer k) : shp (k + 4) = .inr (0, 40) := by rcases h with rfl | rfl <;> decide +kernel
theorem ltReplayer_4 {k : Nat} (h : isReplayer k) : (k + 4) < NC := by rcases h with rfl | rfl <;> decide
theorem shReplayer_5 {k : Nat} (h : isReplayer k) : shp (k + 5) = .inr (0, 40) := by rcases h with rfl | rfl <;> decide +kernel
theorem ltReplayer_5 {k : Nat} (h : isReplayer k) : (k + 5) < NC := by rcases h with rfl | rfl <;> decide
theorem shReplayer_6 {k : Nat} (h : isReplayer k) : shp (k + 6) = .inl (1, [(0, 0), (2, k + 7), (2, k + 8), (0, 0), (0, 0)]) := by rcases h with rfl | rfl <;> decide +kernel
theorem ltReplayer_6 {k : Nat} (h : isReplayer k) : (k + 6) < NC := by rcases h with rfl | rfl <;> decide
theorem shReplayer_7 {k : Nat} (h : isReplayer k) : shp (k + 7) = .inr (0, 40) := by rcases h with rfl | rfl <;> decide +kernel
theorem ltReplayer_7 {k : Nat} (h : isReplayer k) : (k + 7) < NC := by rcases h with rfl | rfl <;> decide
theorem shReplayer_8 {k : Nat} (h : isReplayer k) : shp (k + 8) = .inr (0, 40) := by rcases h with rfl | rfl <;> decide +kernel
theorem ltReplayer_8 {k : Nat} (h : isReplayer k) : (k + 8) < NC := by rcases h with rfl | rfl <;> decide
theorem shReplayer_9 {k : Nat} (h : isReplayer k) : shp (k + 9) = .inr (0, 6) := by rcases h with rfl | rfl <;> decide +kernel
theorem ltReplayer_9 {k : Nat} (h : isReplayer k) : (k + 9) < NC := by rcases h with rfl | rfl <;> decide

/-! ===== the enum's constants, null, strings ===== -/
theorem asg_self (vm : Vm) (c : ClassId) : vm.assignable c c = true := by
  show vm.assignableAux (255 + 1) c c = true
  rw [Vm.assignableAux]
  simp only [beq_self_eq_true, Bool.true_or]
theorem x_null {F : Cx} {u pc : Nat} {ls : List (Nat × Value)} {rest : List Value} {S : St} {cc : ByteArray} {own : String} (hF : Ok F cc own) (hd : decode cc pc = .ok (.aconst_null, 1)) (k : X F u (pc + 1) ls (va_re (gE F) none :: rest) S) : X F u pc ls rest S := by
  obtain ⟨p, l, e, R, s, m, args, below, meth, c, A, G, Q⟩ := F
  intro H locs la hP hD hS hl
  exact lv_null hF.1 hF.2.1 hd (k H locs la hP hD hS hl)
theorem x_aloadE_n {F : Cx} {u pc : Nat} {ls : List (Nat × Value)} {rest : List Value} {S : St} {cc : ByteArray} {own : String} {q : Fin 4} {i : Nat} {x : Option Nat} (hF : Ok F cc own) (hd : decode cc pc = .ok (.aload_n q, 1)) (hi : (q : Nat) = i) (hx : lgt ls i = some (va_re (gE F) x)) (k : X F u (pc + 1) ls (va_re (gE F) x :: rest) S) : X F u pc ls rest S := by
  obtain ⟨p, l, e, R, s, m, args, below, meth, c, A, G, Q⟩ := F
  intro H locs la hP hD hS hl
  cases x with
  | none => exact lv_aload_nN hF.1 hF.2.1 hd hi (lv_g hl hx) (k H locs la hP hD hS hl)
  | some i => exact lv_aload_n hF.1 hF.2.1 hd hi (lv_g hl hx) (k H locs la hP hD hS hl)
theorem x_aloadV_n {F : Cx} {u pc : Nat} {ls : List (Nat × Value)} {rest : List Value} {S : St} {cc : ByteArray} {own : String} {q : Fin 4} {i : Nat} {v : Value} (hF : Ok F cc own) (hd : decode cc pc = .ok (.aload_n q, 1)) (hi : (q : Nat) = i) (hx : lgt ls i = some v) (hv : v = .null ∨ ∃ a, v = .ref a) (k : X F u (pc + 1) ls (v :: rest) S) : X F u pc ls rest S := by
  obtain ⟨p, l, e, R, s, m, args, below, meth, c, A, G, Q⟩ := F
  intro H locs la hP hD hS hl
  rcases hv with rfl | ⟨a, rfl⟩
  · exact lv_aload_nN hF.1 hF.2.1 hd hi (lv_g hl hx) (k H locs la hP hD hS hl)
  · exact lv_aload_n hF.1 hF.2.1 hd hi (lv_g hl hx) (k H locs la hP hD hS hl)
theorem x_astoreE_n {F : Cx} {u pc : Nat} {ls : List (Nat × Value)} {rest : List Value} {S : St} {cc : ByteArray} {own : String} (ls' : List (Nat × Value)) {q : Fin 4} {i nL : Nat} {x : Option Nat} (hF : Ok F cc own) (hN : nLF F nL) (hd : decode cc pc = .ok (.astore_n q, 1)) (hi : (q : Nat) = i) (hn : i < nL) (hl' : ls1 ls i (va_re (gE F) x) = ls') (k : X F u (pc + 1) ls' rest S) : X F u pc ls (va_re (gE F) x :: rest) S := by
  obtain ⟨p, l, e, R, s, m, args, below, meth, c, A, G, Q⟩ := F
  intro H locs la hP hD hS hl
  cases x with
  | none => exact lv_astore_nN hF.1 hF.2.1 hd hi hl (by rw [show c.maxLocals = nL from hN]; exact hn) hl' (fun la hl => k H locs la hP hD hS hl)
  | some i => exact lv_astore_n hF.1 hF.2.1 hd hi hl (by rw [show c.maxLocals = nL from hN]; exact hn) hl' (fun la hl => k H locs la hP hD hS hl)
theorem x_ifnn {F : Cx} {u pc : Nat} {ls : List (Nat × Value)} {rest : List Value} {S : St} {cc : ByteArray} {own : String} {x : Option Nat} {off : Int} {tgt : Nat} (hF : Ok F cc own) (hd : decode cc pc = .ok (.ifnonnull off, 3)) (ht : (pc : Int) + off = (tgt : Int)) (kt : ¬ x = none → X F u tgt ls rest S) (kf : x = none → X F u (pc + 3) ls rest S) : X F u pc ls (va_re (gE F) x :: rest) S := by
  obtain ⟨p, l, e, R, s, m, args, below, meth, c, A, G, Q⟩ := F
  intro H locs la hP hD hS hl
  cases x with
  | none => exact lv_ifnonnullN hF.1 hF.2.1 hd (kf rfl H locs la hP hD hS hl)
  | some i => exact lv_ifnonnull hF.1 hF.2.1 hd ht (kt (by simp) H locs la hP hD hS hl)
/-- a field of a constant -/
theorem x_getE {F : Cx} {u pc : Nat} {ls : List (Nat × Value)} {rest : List Value} {S : St} {cc : ByteArray} {own : String} {i index : Nat} {n d : String} {v : Value} (hF : Ok F cc own) (hi : i < 7) (hv : (n, d, v) ∈ [("word", "Ljava/lang/String;", Value.ref (gS F (10 + i))), ("numbers", "I", .int (cmdN i)), ("setting", "I", .int (cmdS i))]) (hw : Cond.fieldLink own index RX0 n d ∈ tbG) (hd : decode cc pc = .ok (.getfield index, 3)) (kk : X F u (pc + 3) ls (v :: rest) S) : X F u pc ls (va_re (gE F) (some i) :: rest) S := by
  obtain ⟨p, l, e, R, s, m, args, below, meth, c, A, G, Q⟩ := F
  obtain ⟨hx, hb, hown, hts, hE, hA, -⟩ := hF
  intro H locs la hP hD hS hl
  have h2 := hE.2.2.2.2.2.2.2.2.2.2.2.1 i hi
  simp only [List.mem_cons, List.not_mem_nil, or_false, Prod.mk.injEq] at hv
  rcases hv with ⟨rfl, rfl, rfl⟩ | ⟨rfl, rfl, rfl⟩ | ⟨rfl, rfl, rfl⟩
  · exact vk_getf hx hb h2.2.1 hS hown (hts _ hw) (fun _ h => h) hd (kk H locs la hP hD hS hl)
  · exact vk_getf hx hb h2.2.2.1 hS hown (hts _ hw) (fun _ h => h) hd (kk H locs la hP hD hS hl)
  · exact vk_getf hx hb h2.2.2.2 hS hown (hts _ hw) (fun _ h => h) hd (kk H locs la hP hD hS hl)
theorem x_clen {F : Cx} {u pc : Nat} {ls : List (Nat × Value)} {rest : List Value} {S : St} {cc : ByteArray} {own : String} (hF : Ok F cc own) (hd : decode cc pc = .ok (.arraylength, 1)) (kk : X F u (pc + 1) ls (.int 7 :: rest) S) : X F u pc ls (.ref (gS F 4) :: rest) S := by
  obtain ⟨p, l, e, R, s, m, args, below, meth, c, A, G, Q⟩ := F
  obtain ⟨hx, hb, hown, hts, hE, hA, -⟩ := hF
  intro H locs la hP hD hS hl
  exact va_tlen hx hb hE.2.2.2.2.2.2.2.2.2.2.1 hS rfl hd (kk H locs la hP hD hS hl)
theorem x_cald {F : Cx} {u pc : Nat} {ls : List (Nat × Value)} {rest : List Value} {S : St} {cc : ByteArray} {own : String} {i : Int32} (hF : Ok F cc own) (hi : inb i 7) (hd : decode cc pc = .ok (.aaload, 1)) (kk : X F u (pc + 1) ls (va_re (gE F) (some (ix i)) :: rest) S) : X F u pc ls (.int i :: .ref (gS F 4) :: rest) S := by
  obtain ⟨p, l, e, R, s, m, args, below, meth, c, A, G, Q⟩ := F
  obtain ⟨hx, hb, hown, hts, hE, hA, -⟩ := hF
  intro H locs la hP hD hS hl
  exact vb_tq hx hb hE.2.2.2.2.2.2.2.2.2.2.1 hS hi rfl hd (kk H locs la hP hD hS hl)
/-- the script's own table of commands -/
theorem x_aaldE {F : Cx} {u pc : Nat} {ls : List (Nat × Value)} {rest : List Value} {S : St} {cc : ByteArray} {own : String} {k n : Nat} {i : Int32} (hF : Ok F cc own) (hs : shp k = .inr (3, n)) (hk : k < NC) (hi : inb i n) (hd : decode cc pc = .ok (.aaload, 1)) (kk : X F u (pc + 1) ls (va_re (gE F) (gr S k (ix i)) :: rest) S) : X F u pc ls (.int i :: .ref (gA F k) :: rest) S := by
  obtain ⟨p, l, e, R, s, m, args, below, meth, c, A, G, Q⟩ := F
  obtain ⟨hx, hb, hown, hts, hE, hA, -⟩ := hF
  intro H locs la hP hD hS hl
  exact va_aldq (D := G.D) hx hb hE.1 hP k 3 (n := n) (f := fun j => (gr S k j).map G.ec) (by rw [wd_get hk, cel_a hs]; rfl) rfl hi hd (kk H locs la hP hD hS hl)
theorem x_aastE {F : Cx} {u pc : Nat} {ls : List (Nat × Value)} {rest : List Value} {S : St} {cc : ByteArray} {own : String} {k n j : Nat} {i : Int32} (hF : Ok F cc own) (hs : shp k = .inr (3, n)) (hk : k < NC) (hi : inb i n) (hj : j < 7) {S9 : St} (hT : S9 = sr S k (ix i) (some j)) (hd : decode cc pc = .ok (.aastore, 1)) (kk : X F u (pc + 1) ls rest S9) : X F u pc ls (va_re (gE F) (some j) :: .int i :: .ref (gA F k) :: rest) S := by
  obtain ⟨p, l, e, R, s, m, args, below, meth, c, A, G, Q⟩ := F
  obtain ⟨hx, hb, hown, hts, hE, hA, -⟩ := hF
  subst hT
  intro H locs la hP hD hS hl
  have e1 : (wd G S).set k (G.ad k, .inl (G.ca 3, n, .inr (.inr (.inr (.inr (va_up (fun j => (gr S k j).map G.ec) i.toNatClampNeg (some (G.ec j)))))))) = wd G (sr S k (ix i) (some j)) := by
    have e2 : va_up (fun j => (gr S k j).map G.ec) i.toNatClampNeg (some (G.ec j)) = fun b => (gr (sr S k (ix i) (some j)) k b).map G.ec := by
      funext b
      rw [gr_sr]
      unfold va_up
      by_cases hb : b = i.toNatClampNeg
      · rw [if_pos hb, if_pos ⟨rfl, hb⟩]; rfl
      · rw [if_neg hb, if_neg (fun q => hb q.2)]
    rw [e2, show (Sum.inl (G.ca 3, n, .inr (.inr (.inr (.inr fun b => (gr (sr S k (ix i) (some j)) k b).map G.ec)))) : va_E) = cel G (sr S k (ix i) (some j)) k from (by rw [cel_a hs]; rfl)]
    exact wd_set hk fun i hi => cel_ne (fun b => rfl) (fun b => rfl) (fun b => by rw [gr_sr, if_neg (fun q => hi q.1)])
  obtain ⟨cell, h1, h2, h3, h4⟩ := (hE.2.2.2.2.2.2.2.2.2.2.2.1 j hj).1
  have hlt : G.ec j < s.heap.size := (Array.getElem?_eq_some_iff.mp h1).1
  obtain ⟨kC, hkC, -⟩ := Vm.findClass_spec h3
  have hany : va_Any "QueueBlame$Command" s H (G.ec j) := by
    refine ⟨cell, by rw [hS.2.1 _ hlt h4]; exact h1, h2, ⟨kC, hkC⟩, fun comp hc => ?_⟩
    have e3 : comp = cell.cls := Option.some.inj (hc.symm.trans h3)
    subst e3
    exact asg_self _ _
  refine va_astqM (D := G.D) hx hb hE.1 hP hD hS k 3 (n := n) (f := fun j => (gr S k j).map G.ec) (by rw [wd_get hk, cel_a hs]; rfl) rfl hany hi hd (fun H1 locs1 h1 h2 h3 => ?_)
  rw [e1] at h1 h2
  exact kk H1 locs1 la h1 h2 h3 hl
theorem x_acmp_ne {F : Cx} {u pc : Nat} {ls : List (Nat × Value)} {rest : List Value} {S : St} {cc : ByteArray} {own : String} {x y : Option Nat} {off : Int} {tgt : Nat} (hF : Ok F cc own) (hx7 : x.getD 0 < 7) (hy7 : y.getD 0 < 7) (hd : decode cc pc = .ok (.if_acmp .ne off, 3)) (ht : (pc : Int) + off = (tgt : Int)) (kt : ¬ x = y → X F u tgt ls rest S) (kf : x = y → X F u (pc + 3) ls rest S) : X F u pc ls (va_re (gE F) y :: va_re (gE F) x :: rest) S := by
  obtain ⟨p, l, e, R, s, m, args, below, meth, c, A, G, Q⟩ := F
  have hE := hF.2.2.2.2.1
  intro H locs la hP hD hS hl
  have hi : x.map G.ec = y.map G.ec → x = y := by
    intro h
    cases x <;> cases y <;> simp at h ⊢
    exact hE.2.2.2.2.2.2.2.2.2.2.2.2.2.2 _ _ hx7 hy7 h
  exact lv_acmp_ne hF.1 hF.2.1 hd ht (fun h => kt (fun e => h (by rw [e])) H locs la hP hD hS hl) (fun h => kf (hi h) H locs la hP hD hS hl)
theorem ix_lt {i : Int32} {n : Nat} (h : inb i n) : ix i < n := Nat.not_le.mp fun q => h (Or.inr q)
theorem x_cVe {F : Cx} {u pc : Nat} {ls : List (Nat × Value)} {rest st : List Value} {S S' : St} {cc : ByteArray} {own : String} {d U d' nL' n index k ci N nL : Nat} {y : MethodName} {cc' : ByteArray} {ret : Option FieldType} {as : List Value} {r : Option Nat} {C : String} {T : u_T} {ty : Nat → FieldType} {fl : List (Nat × Nat)} (hF : Ok F cc own) (hN : nLF F nL) (hR : RmF F d U) (hM : CT F.2.1 (gG F) d' y cc' nL' ret (.ref (gA F k) :: as) S (some (va_re (gE F) r)) S') (hm : Mw y cc' nL' ret n) (hi : Cond.instanceMethod y ∈ tbG ∧ Cond.selects C y y ∈ tbG) (hs : shp k = .inl (ci, fl)) (hC : CkO ci C T N ty) (hk : k < NC) (hw : Cond.methodLink own index y ∈ tbG) (hu : u ≤ U ∧ d' + 1 ≤ d) (hn : as.length = n) (hst : st = as.reverse ++ .ref (gA F k) :: rest) (hW : (rest.map fun v => v.category).sum ≤ 8) (hd : decode cc pc = .ok (.invokevirtual index, 3)) (kk : X F u (pc + 3) ls (va_re (gE F) r :: rest) S') : X F u pc ls st S := x_cV as hF hN hR hM hm hi hs hC hk hw hu hn hst hW hd kk
/-- a call of an instance method on an object outside the world -/
theorem x_cVO {F : Cx} {u pc a : Nat} {ls : List (Nat × Value)} {rest st : List Value} {S S' : St} {cc : ByteArray} {own : String} {d U d' nL' n index nL : Nat} {y : MethodName} {cc' : ByteArray} {ret : Option FieldType} {as : List Value} {r : Int32} {C : String} (hF : Ok F cc own) (hN : nLF F nL) (hR : RmF F d U) (hO : va_O C a F.2.2.2.2.2.2.2.2.2.2.1 F.2.2.2.2.1 F.2.2.2.2.1.heap) (hM : CT F.2.1 (gG F) d' y cc' nL' ret (.ref a :: as) S (some (.int r)) S') (hm : Mw y cc' nL' ret n) (hi : Cond.instanceMethod y ∈ tbG ∧ Cond.selects C y y ∈ tbG) (hw : Cond.methodLink own index y ∈ tbG) (hu : u ≤ U ∧ d' + 1 ≤ d) (hn : as.length = n) (hst : st = as.reverse ++ .ref a :: rest) (hW : (rest.map fun v => v.category).sum ≤ 8) (hd : decode cc pc = .ok (.invokevirtual index, 3)) (kk : X F u (pc + 3) ls (.int r :: rest) S') : X F u pc ls st S := by
  obtain ⟨p, l, e, R, s, m, args, below, meth, c, A, G, Q⟩ := F
  obtain ⟨hx, hb, hown, hts, hE, hA, -⟩ := hF
  intro H locs la hP hD hS hl
  obtain ⟨r1, r2, r3, r4⟩ := hR
  dsimp only at r1 r2 r3 r4 hO
  have hml : c.maxLocals = nL := hN
  obtain ⟨cell, h1, h2, h3, h4⟩ := hO
  have hlt : a < s.heap.size := (Array.getElem?_eq_some_iff.mp h1).1
  refine x_back (S := S) (S' := S') (v := some (.int r)) hA hD hS (va_runV (Ts := tbG) (own := own) (C := C) (n := n) (index := index) (bytes := cc') (maxL := nL') (ret := ret) (nL := nL) (As := as) (rest := rest) ⟨hx, hb, hml, hown, hts⟩ (hM H.size) ?_ ⟨blind_w, ⟨cell, by rw [hS.2.1 _ hlt h4]; exact h1, h2, h3⟩, x_pre (l := l) hE hA hP hD hS⟩ rfl hn (by rw [← hml]; exact hl.1) hst (lv_room hW) hd ⟨by omega, by omega⟩) (fun H1 locs1 h1 h2 h3 => kk H1 locs1 la h1 h2 h3 hl)
  exact ⟨callB_of n hts (gi_in hm.1) rfl rfl rfl (hts _ hm.2.1) (hts _ hw) hm.2.2.1 ⟨by show d' + 1 ≤ R.frames; omega, by show 8 + (nL' + 11) + 40 * d' ≤ R.locals; have := hm.2.2.2; omega⟩, hts _ hi.1, hts _ hi.2⟩
theorem x_cSv {F : Cx} {u pc : Nat} {ls : List (Nat × Value)} {rest st : List Value} {S S' : St} {cc : ByteArray} {own : String} {d U d' nL' n index nL : Nat} {y : MethodName} {cc' : ByteArray} {ret : Option FieldType} {as : List Value} (hF : Ok F cc own) (hN : nLF F nL) (hR : RmF F d U) (hM : CT F.2.1 (gG F) d' y cc' nL' ret as S none S') (hm : Mw y cc' nL' ret n) (hi : Cond.static y ∈ tbG) (hw : Cond.methodLink own index y ∈ tbG) (hu : u ≤ U ∧ d' + 1 ≤ d) (hn : as.length = n) (hst : st = as.reverse ++ rest) (hW : (rest.map fun v => v.category).sum ≤ 8) (hd : decode cc pc = .ok (.invokestatic index, 3)) (kk : X F u (pc + 3) ls rest S') : X F u pc ls st S := x_cS as hF hN hR hM hm hi hw hu hn hst hW hd kk
theorem x_alen {F : Cx} {u pc : Nat} {ls : List (Nat × Value)} {rest : List Value} {S : St} {cc : ByteArray} {own : String} {k n : Nat} {v : Int32} (hF : Ok F cc own) (hs : shp k = .inr (0, n)) (hk : k < NC) (hv : Int32.ofNat n = v) (hd : decode cc pc = .ok (.arraylength, 1)) (kk : X F u (pc + 1) ls (.int v :: rest) S) : X F u pc ls (.ref (gA F k) :: rest) S := by
  obtain ⟨p, l, e, R, s, m, args, below, meth, c, A, G, Q⟩ := F
  obtain ⟨hx, hb, hown, hts, hE, hA, -⟩ := hF
  intro H locs la hP hD hS hl
  exact va_alen (D := G.D) hx hb hE.1 hP k 0 (x := av G S k (0, n)) (by rw [wd_get hk, cel_a hs]) rfl hv hd (kk H locs la hP hD hS hl)

