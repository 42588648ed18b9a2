/-! ===== the start: the state behind the constructors ===== -/
def now0 : Nat → Int32 := upd (upd (upd (upd (upd (upd (upd (upd (upd (upd (upd (fun _ => 0) (ix (121 : Int32)) (100 : Int32)) (ix (122 : Int32)) (10 : Int32)) (ix (125 : Int32)) (4 : Int32)) (ix (126 : Int32)) (50 : Int32)) (ix (127 : Int32)) (3 : Int32)) (ix ((129 : Int32) + (0 : Int32))) (5 : Int32)) (ix ((129 : Int32) + (1 : Int32))) (5 : Int32)) (ix ((129 : Int32) + (2 : Int32))) (5 : Int32)) (ix ((129 : Int32) + (3 : Int32))) (5 : Int32)) (ix ((129 : Int32) + (4 : Int32))) (5 : Int32)) (ix ((129 : Int32) + (5 : Int32))) (5 : Int32)
def S0 : St := ((fun k j => if k = 76 then now0 j else if k = 5 ∨ k = 12 ∨ k = 17 ∨ k = 22 ∨ k = 27 ∨ k = 32 ∨ k = 37 ∨ k = 42 ∨ k = 47 then iniF j else 0), (fun _ _ => 0), fun _ _ => none)
def ad0 (h0 m0 o0 : Nat) (f g : Nat → Nat) (k : Nat) : Nat := if k = 0 then h0 else if k < 75 then f k else if k = 75 then m0 else if k < 90 then g k else o0
def w91 (G : Ga) (h0 m0 o0 : Nat) (f g : Nat → Nat) : va_W := [(h0, .inr (6, [.ref (f 1), .ref (f 6), .ref (f 48), .ref (f 58), .ref (f 68), .ref (f 72), .ref (f 73), .ref (f 74)])),
  (f 1, .inr (3, [.int 0, .ref (f 2), .ref (f 3), .ref (f 4), .ref (f 5)])),
  (f 2, .inl (G.2.2.1 0, 40, .inl (fun _ => 0))),
  (f 3, .inl (G.2.2.1 0, 40, .inl (fun _ => 0))),
  (f 4, .inl (G.2.2.1 0, 40, .inl (fun _ => 0))),
  (f 5, .inl (G.2.2.1 0, 14, .inl (iniF))),
  (f 6, .inr (0, [.ref (f 7), .int 0, .int 0])),
  (f 7, .inl (G.2.2.1 2, 8, .inr (.inr (.inr (.inr (va_up (va_up (va_up (va_up (va_up (va_up (va_up (va_up (fun _ => none) (ix (0 : Int32)) (some (f 8))) (ix (1 : Int32)) (some (f 13))) (ix (2 : Int32)) (some (f 18))) (ix (3 : Int32)) (some (f 23))) (ix (4 : Int32)) (some (f 28))) (ix (5 : Int32)) (some (f 33))) (ix (6 : Int32)) (some (f 38))) (ix (7 : Int32)) (some (f 43)))))))),
  (f 8, .inr (3, [.int 0, .ref (f 9), .ref (f 10), .ref (f 11), .ref (f 12)])),
  (f 9, .inl (G.2.2.1 0, 40, .inl (fun _ => 0))),
  (f 10, .inl (G.2.2.1 0, 40, .inl (fun _ => 0))),
  (f 11, .inl (G.2.2.1 0, 40, .inl (fun _ => 0))),
  (f 12, .inl (G.2.2.1 0, 14, .inl (iniF))),
  (f 13, .inr (3, [.int 0, .ref (f 14), .ref (f 15), .ref (f 16), .ref (f 17)])),
  (f 14, .inl (G.2.2.1 0, 40, .inl (fun _ => 0))),
  (f 15, .inl (G.2.2.1 0, 40, .inl (fun _ => 0))),
  (f 16, .inl (G.2.2.1 0, 40, .inl (fun _ => 0))),
  (f 17, .inl (G.2.2.1 0, 14, .inl (iniF))),
  (f 18, .inr (3, [.int 0, .ref (f 19), .ref (f 20), .ref (f 21), .ref (f 22)])),
  (f 19, .inl (G.2.2.1 0, 40, .inl (fun _ => 0))),
  (f 20, .inl (G.2.2.1 0, 40, .inl (fun _ => 0))),
  (f 21, .inl (G.2.2.1 0, 40, .inl (fun _ => 0))),
  (f 22, .inl (G.2.2.1 0, 14, .inl (iniF))),
  (f 23, .inr (3, [.int 0, .ref (f 24), .ref (f 25), .ref (f 26), .ref (f 27)])),
  (f 24, .inl (G.2.2.1 0, 40, .inl (fun _ => 0))),
  (f 25, .inl (G.2.2.1 0, 40, .inl (fun _ => 0))),
  (f 26, .inl (G.2.2.1 0, 40, .inl (fun _ => 0))),
  (f 27, .inl (G.2.2.1 0, 14, .inl (iniF))),
  (f 28, .inr (3, [.int 0, .ref (f 29), .ref (f 30), .ref (f 31), .ref (f 32)])),
  (f 29, .inl (G.2.2.1 0, 40, .inl (fun _ => 0))),
  (f 30, .inl (G.2.2.1 0, 40, .inl (fun _ => 0))),
  (f 31, .inl (G.2.2.1 0, 40, .inl (fun _ => 0))),
  (f 32, .inl (G.2.2.1 0, 14, .inl (iniF))),
  (f 33, .inr (3, [.int 0, .ref (f 34), .ref (f 35), .ref (f 36), .ref (f 37)])),
  (f 34, .inl (G.2.2.1 0, 40, .inl (fun _ => 0))),
  (f 35, .inl (G.2.2.1 0, 40, .inl (fun _ => 0))),
  (f 36, .inl (G.2.2.1 0, 40, .inl (fun _ => 0))),
  (f 37, .inl (G.2.2.1 0, 14, .inl (iniF))),
  (f 38, .inr (3, [.int 0, .ref (f 39), .ref (f 40), .ref (f 41), .ref (f 42)])),
  (f 39, .inl (G.2.2.1 0, 40, .inl (fun _ => 0))),
  (f 40, .inl (G.2.2.1 0, 40, .inl (fun _ => 0))),
  (f 41, .inl (G.2.2.1 0, 40, .inl (fun _ => 0))),
  (f 42, .inl (G.2.2.1 0, 14, .inl (iniF))),
  (f 43, .inr (3, [.int 0, .ref (f 44), .ref (f 45), .ref (f 46), .ref (f 47)])),
  (f 44, .inl (G.2.2.1 0, 40, .inl (fun _ => 0))),
  (f 45, .inl (G.2.2.1 0, 40, .inl (fun _ => 0))),
  (f 46, .inl (G.2.2.1 0, 40, .inl (fun _ => 0))),
  (f 47, .inl (G.2.2.1 0, 14, .inl (iniF))),
  (f 48, .inr (4, [.ref (f 1), .ref (f 49), .ref (f 54), .ref (f 57), .int 0, .int 0, .int 0, .int 0, .int 0])),
  (f 49, .inr (2, [.int 0, .int 0, .ref (f 50), .int 0, .ref (f 51), .int 0, .int 0, .ref (f 52), .ref (f 53)])),
  (f 50, .inl (G.2.2.1 0, 40, .inl (fun _ => 0))),
  (f 51, .inl (G.2.2.1 0, 40, .inl (fun _ => 0))),
  (f 52, .inl (G.2.2.1 0, 40, .inl (fun _ => 0))),
  (f 53, .inl (G.2.2.1 0, 40, .inl (fun _ => 0))),
  (f 54, .inr (1, [.int 0, .ref (f 55), .ref (f 56), .int 0, .int 0])),
  (f 55, .inl (G.2.2.1 0, 40, .inl (fun _ => 0))),
  (f 56, .inl (G.2.2.1 0, 40, .inl (fun _ => 0))),
  (f 57, .inl (G.2.2.1 0, 6, .inl (fun _ => 0))),
  (f 58, .inr (4, [.ref (f 1), .ref (f 59), .ref (f 64), .ref (f 67), .int 0, .int 0, .int 0, .int 0, .int 0])),
  (f 59, .inr (2, [.int 0, .int 0, .ref (f 60), .int 0, .ref (f 61), .int 0, .int 0, .ref (f 62), .ref (f 63)])),
  (f 60, .inl (G.2.2.1 0, 40, .inl (fun _ => 0))),
  (f 61, .inl (G.2.2.1 0, 40, .inl (fun _ => 0))),
  (f 62, .inl (G.2.2.1 0, 40, .inl (fun _ => 0))),
  (f 63, .inl (G.2.2.1 0, 40, .inl (fun _ => 0))),
  (f 64, .inr (1, [.int 0, .ref (f 65), .ref (f 66), .int 0, .int 0])),
  (f 65, .inl (G.2.2.1 0, 40, .inl (fun _ => 0))),
  (f 66, .inl (G.2.2.1 0, 40, .inl (fun _ => 0))),
  (f 67, .inl (G.2.2.1 0, 6, .inl (fun _ => 0))),
  (f 68, .inr (5, [.ref (f 69), .int 0, .ref (f 70), .ref (f 71), .int 0])),
  (f 69, .inl (G.2.2.1 0, 120, .inl (fun _ => 0))),
  (f 70, .inl (G.2.2.1 3, 120, .inr (.inr (.inr (.inr (fun _ => none)))))),
  (f 71, .inl (G.2.2.1 0, 360, .inl (fun _ => 0))),
  (f 72, .inl (G.2.2.1 0, 64, .inl (fun _ => 0))),
  (f 73, .inl (G.2.2.1 0, 6, .inl (fun _ => 0))),
  (f 74, .inl (G.2.2.1 0, 6, .inl (fun _ => 0))),
  (m0, .inr (7, [.ref (g 76), .ref (g 77), .int 0, .int 0, .ref (g 78), .ref (g 79), .int 0, .ref (g 80), .int 0, .ref (g 81), .int 0, .ref (g 82), .int 0, .int 0, .int 0, .int 0, .int 0, .ref (g 83), .int 0, .ref (g 84), .int 0, .ref (g 85), .ref (g 86), .ref (g 87), .long 0, .int 0, .ref (g 88), .int 0, .int 0, .int 0, .ref (g 89)])),
  (g 76, .inl (G.2.2.1 0, 135, .inl (upd (upd (upd (upd (upd (upd (upd (upd (upd (upd (upd (fun _ => 0) (ix (121 : Int32)) (100 : Int32)) (ix (122 : Int32)) (10 : Int32)) (ix (125 : Int32)) (4 : Int32)) (ix (126 : Int32)) (50 : Int32)) (ix (127 : Int32)) (3 : Int32)) (ix ((129 : Int32) + (0 : Int32))) (5 : Int32)) (ix ((129 : Int32) + (1 : Int32))) (5 : Int32)) (ix ((129 : Int32) + (2 : Int32))) (5 : Int32)) (ix ((129 : Int32) + (3 : Int32))) (5 : Int32)) (ix ((129 : Int32) + (4 : Int32))) (5 : Int32)) (ix ((129 : Int32) + (5 : Int32))) (5 : Int32)))),
  (g 77, .inl (G.2.2.1 0, 1080, .inl (fun _ => 0))),
  (g 78, .inl (G.2.2.1 0, 40, .inl (fun _ => 0))),
  (g 79, .inl (G.2.2.1 0, 40, .inl (fun _ => 0))),
  (g 80, .inl (G.2.2.1 0, 4700, .inl (fun _ => 0))),
  (g 81, .inl (G.2.2.1 0, 41, .inl (fun _ => 0))),
  (g 82, .inl (G.2.2.1 0, 40, .inl (fun _ => 0))),
  (g 83, .inl (G.2.2.1 0, 40, .inl (fun _ => 0))),
  (g 84, .inl (G.2.2.1 0, 40, .inl (fun _ => 0))),
  (g 85, .inl (G.2.2.1 0, 4700, .inl (fun _ => 0))),
  (g 86, .inl (G.2.2.1 0, 64, .inl (fun _ => 0))),
  (g 87, .inl (G.2.2.1 0, 6, .inl (fun _ => 0))),
  (g 88, .inl (G.2.2.1 0, 120, .inl (fun _ => 0))),
  (g 89, .inl (G.2.2.1 0, 240, .inl (fun _ => 0))),
  (o0, .inl (G.2.2.1 1, 1, .inr (.inl (fun _ => 0))))]
theorem at_i {D : va_G} {cl : List vw_C} {a n : Nat} {cA : ClassId} {f g : Nat → Int32} {H : Heap} (h : va_at D cl (a, .inl (cA, n, .inl f)) H) (hfg : ∀ j, j < n → f j = g j) : va_at D cl (a, .inl (cA, n, .inl g)) H := by
  have e : vp_cell cA (n, .inl f) = vp_cell cA (n, .inl g) := by
    rw [vp_cell_i, vp_cell_i]
    unfold arrV
    congr 1
    apply Array.ext
    · simp
    · intro i h1 h2
      simp only [Array.getElem_ofFn]
      rw [hfg i (by simpa using h1)]
  exact (show H[a]? = some (vp_cell cA (n, .inl f)) from h).trans (by rw [e])
theorem at_q {D : va_G} {cl : List vw_C} {a n : Nat} {cA : ClassId} {f g : Nat → Option Nat} {H : Heap} (h : va_at D cl (a, .inl (cA, n, .inr (.inr (.inr (.inr f))))) H) (hfg : ∀ j, j < n → f j = g j) : va_at D cl (a, .inl (cA, n, .inr (.inr (.inr (.inr g))))) H := by
  have e : vp_cell cA (n, .inr (.inr (.inr (.inr f)))) = vp_cell cA (n, .inr (.inr (.inr (.inr g)))) := by
    rw [vp_cell_q, vp_cell_q]
    unfold arrV
    congr 1
    apply Array.ext
    · simp
    · intro i h1 h2
      simp only [Array.getElem_ofFn]
      rw [hfg i (by simpa using h1)]
  exact (show H[a]? = some (vp_cell cA (n, .inr (.inr (.inr (.inr f))))) from h).trans (by rw [e])
set_option maxHeartbeats 16000000 in
set_option maxRecDepth 100000 in
theorem w91_P {G : Ga} {h0 m0 o0 : Nat} {f g : Nat → Nat} {H : Heap} (hP : va_P G.D vwCl (w91 G h0 m0 o0 f g) H) : va_P G.D vwCl (wd (ad0 h0 m0 o0 f g, G.2) S0) H := by
  intro k q hq
  obtain ⟨hk, rfl⟩ := wd_in hq
  clear hq
  match k, hk with
  | 0, _ => exact hP 0 _ rfl
  | 1, _ => exact hP 1 _ rfl
  | 2, _ => exact at_i (hP 2 _ rfl) (fun j hj => rfl)
  | 3, _ => exact at_i (hP 3 _ rfl) (fun j hj => rfl)
  | 4, _ => exact at_i (hP 4 _ rfl) (fun j hj => rfl)
  | 5, _ => exact at_i (hP 5 _ rfl) (fun j hj => rfl)
  | 6, _ => exact hP 6 _ rfl
  | 7, _ => exact at_q (hP 7 _ rfl) (fun j hj => by rcases (show j = 0 ∨ j = 1 ∨ j = 2 ∨ j = 3 ∨ j = 4 ∨ j = 5 ∨ j = 6 ∨ j = 7 by omega) with rfl | rfl | rfl | rfl | rfl | rfl | rfl | rfl <;> rfl)
  | 8, _ => exact hP 8 _ rfl
  | 9, _ => exact at_i (hP 9 _ rfl) (fun j hj => rfl)
  | 10, _ => exact at_i (hP 10 _ rfl) (fun j hj => rfl)
  | 11, _ => exact at_i (hP 11 _ rfl) (fun j hj => rfl)
  | 12, _ => exact at_i (hP 12 _ rfl) (fun j hj => rfl)
  | 13, _ => exact hP 13 _ rfl
  | 14, _ => exact at_i (hP 14 _ rfl) (fun j hj => rfl)
  | 15, _ => exact at_i (hP 15 _ rfl) (fun j hj => rfl)
  | 16, _ => exact at_i (hP 16 _ rfl) (fun j hj => rfl)
  | 17, _ => exact at_i (hP 17 _ rfl) (fun j hj => rfl)
  | 18, _ => exact hP 18 _ rfl
  | 19, _ => exact at_i (hP 19 _ rfl) (fun j hj => rfl)
  | 20, _ => exact at_i (hP 20 _ rfl) (fun j hj => rfl)
  | 21, _ => exact at_i (hP 21 _ rfl) (fun j hj => rfl)
  | 22, _ => exact at_i (hP 22 _ rfl) (fun j hj => rfl)
  | 23, _ => exact hP 23 _ rfl
  | 24, _ => exact at_i (hP 24 _ rfl) (fun j hj => rfl)
  | 25, _ => exact at_i (hP 25 _ rfl) (fun j hj => rfl)
  | 26, _ => exact at_i (hP 26 _ rfl) (fun j hj => rfl)
  | 27, _ => exact at_i (hP 27 _ rfl) (fun j hj => rfl)
  | 28, _ => exact hP 28 _ rfl
  | 29, _ => exact at_i (hP 29 _ rfl) (fun j hj => rfl)
  | 30, _ => exact at_i (hP 30 _ rfl) (fun j hj => rfl)
  | 31, _ => exact at_i (hP 31 _ rfl) (fun j hj => rfl)
  | 32, _ => exact at_i (hP 32 _ rfl) (fun j hj => rfl)
  | 33, _ => exact hP 33 _ rfl
  | 34, _ => exact at_i (hP 34 _ rfl) (fun j hj => rfl)
  | 35, _ => exact at_i (hP 35 _ rfl) (fun j hj => rfl)
  | 36, _ => exact at_i (hP 36 _ rfl) (fun j hj => rfl)
  | 37, _ => exact at_i (hP 37 _ rfl) (fun j hj => rfl)
  | 38, _ => exact hP 38 _ rfl
  | 39, _ => exact at_i (hP 39 _ rfl) (fun j hj => rfl)
  | 40, _ => exact at_i (hP 40 _ rfl) (fun j hj => rfl)
  | 41, _ => exact at_i (hP 41 _ rfl) (fun j hj => rfl)
  | 42, _ => exact at_i (hP 42 _ rfl) (fun j hj => rfl)
  | 43, _ => exact hP 43 _ rfl
  | 44, _ => exact at_i (hP 44 _ rfl) (fun j hj => rfl)
  | 45, _ => exact at_i (hP 45 _ rfl) (fun j hj => rfl)
  | 46, _ => exact at_i (hP 46 _ rfl) (fun j hj => rfl)
  | 47, _ => exact at_i (hP 47 _ rfl) (fun j hj => rfl)
  | 48, _ => exact hP 48 _ rfl
  | 49, _ => exact hP 49 _ rfl
  | 50, _ => exact at_i (hP 50 _ rfl) (fun j hj => rfl)
  | 51, _ => exact at_i (hP 51 _ rfl) (fun j hj => rfl)
  | 52, _ => exact at_i (hP 52 _ rfl) (fun j hj => rfl)
  | 53, _ => exact at_i (hP 53 _ rfl) (fun j hj => rfl)
  | 54, _ => exact hP 54 _ rfl
  | 55, _ => exact at_i (hP 55 _ rfl) (fun j hj => rfl)
  | 56, _ => exact at_i (hP 56 _ rfl) (fun j hj => rfl)
  | 57, _ => exact at_i (hP 57 _ rfl) (fun j hj => rfl)
  | 58, _ => exact hP 58 _ rfl
  | 59, _ => exact hP 59 _ rfl
  | 60, _ => exact at_i (hP 60 _ rfl) (fun j hj => rfl)
  | 61, _ => exact at_i (hP 61 _ rfl) (fun j hj => rfl)
  | 62, _ => exact at_i (hP 62 _ rfl) (fun j hj => rfl)
  | 63, _ => exact at_i (hP 63 _ rfl) (fun j hj => rfl)
  | 64, _ => exact hP 64 _ rfl
  | 65, _ => exact at_i (hP 65 _ rfl) (fun j hj => rfl)
  | 66, _ => exact at_i (hP 66 _ rfl) (fun j hj => rfl)
  | 67, _ => exact at_i (hP 67 _ rfl) (fun j hj => rfl)
  | 68, _ => exact hP 68 _ rfl
  | 69, _ => exact at_i (hP 69 _ rfl) (fun j hj => rfl)
  | 70, _ => exact at_q (hP 70 _ rfl) (fun j hj => rfl)
  | 71, _ => exact at_i (hP 71 _ rfl) (fun j hj => rfl)
  | 72, _ => exact at_i (hP 72 _ rfl) (fun j hj => rfl)
  | 73, _ => exact at_i (hP 73 _ rfl) (fun j hj => rfl)
  | 74, _ => exact at_i (hP 74 _ rfl) (fun j hj => rfl)
  | 75, _ => exact hP 75 _ rfl
  | 76, _ => exact at_i (hP 76 _ rfl) (fun j hj => rfl)
  | 77, _ => exact at_i (hP 77 _ rfl) (fun j hj => rfl)
  | 78, _ => exact at_i (hP 78 _ rfl) (fun j hj => rfl)
  | 79, _ => exact at_i (hP 79 _ rfl) (fun j hj => rfl)
  | 80, _ => exact at_i (hP 80 _ rfl) (fun j hj => rfl)
  | 81, _ => exact at_i (hP 81 _ rfl) (fun j hj => rfl)
  | 82, _ => exact at_i (hP 82 _ rfl) (fun j hj => rfl)
  | 83, _ => exact at_i (hP 83 _ rfl) (fun j hj => rfl)
  | 84, _ => exact at_i (hP 84 _ rfl) (fun j hj => rfl)
  | 85, _ => exact at_i (hP 85 _ rfl) (fun j hj => rfl)
  | 86, _ => exact at_i (hP 86 _ rfl) (fun j hj => rfl)
  | 87, _ => exact at_i (hP 87 _ rfl) (fun j hj => rfl)
  | 88, _ => exact at_i (hP 88 _ rfl) (fun j hj => rfl)
  | 89, _ => exact at_i (hP 89 _ rfl) (fun j hj => rfl)
  | 90, _ => exact hP 90 _ rfl
  | k + 91, hk => exact absurd hk (by show ¬ k + 91 < 91; omega)
set_option maxHeartbeats 16000000 in
set_option maxRecDepth 100000 in
theorem w91_get {G : Ga} {h0 m0 o0 : Nat} {f g : Nat → Nat} {k : Nat} (hk : k < NC) : ∃ e, (w91 G h0 m0 o0 f g)[k]? = some (ad0 h0 m0 o0 f g k, e) := by
  match k, hk with
  | 0, _ => exact ⟨_, rfl⟩
  | 1, _ => exact ⟨_, rfl⟩
  | 2, _ => exact ⟨_, rfl⟩
  | 3, _ => exact ⟨_, rfl⟩
  | 4, _ => exact ⟨_, rfl⟩
  | 5, _ => exact ⟨_, rfl⟩
  | 6, _ => exact ⟨_, rfl⟩
  | 7, _ => exact ⟨_, rfl⟩
  | 8, _ => exact ⟨_, rfl⟩
  | 9, _ => exact ⟨_, rfl⟩
  | 10, _ => exact ⟨_, rfl⟩
  | 11, _ => exact ⟨_, rfl⟩
  | 12, _ => exact ⟨_, rfl⟩
  | 13, _ => exact ⟨_, rfl⟩
  | 14, _ => exact ⟨_, rfl⟩
  | 15, _ => exact ⟨_, rfl⟩
  | 16, _ => exact ⟨_, rfl⟩
  | 17, _ => exact ⟨_, rfl⟩
  | 18, _ => exact ⟨_, rfl⟩
  | 19, _ => exact ⟨_, rfl⟩
  | 20, _ => exact ⟨_, rfl⟩
  | 21, _ => exact ⟨_, rfl⟩
  | 22, _ => exact ⟨_, rfl⟩
  | 23, _ => exact ⟨_, rfl⟩
  | 24, _ => exact ⟨_, rfl⟩
  | 25, _ => exact ⟨_, rfl⟩
  | 26, _ => exact ⟨_, rfl⟩
  | 27, _ => exact ⟨_, rfl⟩
  | 28, _ => exact ⟨_, rfl⟩
  | 29, _ => exact ⟨_, rfl⟩
  | 30, _ => exact ⟨_, rfl⟩
  | 31, _ => exact ⟨_, rfl⟩
  | 32, _ => exact ⟨_, rfl⟩
  | 33, _ => exact ⟨_, rfl⟩
  | 34, _ => exact ⟨_, rfl⟩
  | 35, _ => exact ⟨_, rfl⟩
  | 36, _ => exact ⟨_, rfl⟩
  | 37, _ => exact ⟨_, rfl⟩
  | 38, _ => exact ⟨_, rfl⟩
  | 39, _ => exact ⟨_, rfl⟩
  | 40, _ => exact ⟨_, rfl⟩
  | 41, _ => exact ⟨_, rfl⟩
  | 42, _ => exact ⟨_, rfl⟩
  | 43, _ => exact ⟨_, rfl⟩
  | 44, _ => exact ⟨_, rfl⟩
  | 45, _ => exact ⟨_, rfl⟩
  | 46, _ => exact ⟨_, rfl⟩
  | 47, _ => exact ⟨_, rfl⟩
  | 48, _ => exact ⟨_, rfl⟩
  | 49, _ => exact ⟨_, rfl⟩
  | 50, _ => exact ⟨_, rfl⟩
  | 51, _ => exact ⟨_, rfl⟩
  | 52, _ => exact ⟨_, rfl⟩
  | 53, _ => exact ⟨_, rfl⟩
  | 54, _ => exact ⟨_, rfl⟩
  | 55, _ => exact ⟨_, rfl⟩
  | 56, _ => exact ⟨_, rfl⟩
  | 57, _ => exact ⟨_, rfl⟩
  | 58, _ => exact ⟨_, rfl⟩
  | 59, _ => exact ⟨_, rfl⟩
  | 60, _ => exact ⟨_, rfl⟩
  | 61, _ => exact ⟨_, rfl⟩
  | 62, _ => exact ⟨_, rfl⟩
  | 63, _ => exact ⟨_, rfl⟩
  | 64, _ => exact ⟨_, rfl⟩
  | 65, _ => exact ⟨_, rfl⟩
  | 66, _ => exact ⟨_, rfl⟩
  | 67, _ => exact ⟨_, rfl⟩
  | 68, _ => exact ⟨_, rfl⟩
  | 69, _ => exact ⟨_, rfl⟩
  | 70, _ => exact ⟨_, rfl⟩
  | 71, _ => exact ⟨_, rfl⟩
  | 72, _ => exact ⟨_, rfl⟩
  | 73, _ => exact ⟨_, rfl⟩
  | 74, _ => exact ⟨_, rfl⟩
  | 75, _ => exact ⟨_, rfl⟩
  | 76, _ => exact ⟨_, rfl⟩
  | 77, _ => exact ⟨_, rfl⟩
  | 78, _ => exact ⟨_, rfl⟩
  | 79, _ => exact ⟨_, rfl⟩
  | 80, _ => exact ⟨_, rfl⟩
  | 81, _ => exact ⟨_, rfl⟩
  | 82, _ => exact ⟨_, rfl⟩
  | 83, _ => exact ⟨_, rfl⟩
  | 84, _ => exact ⟨_, rfl⟩
  | 85, _ => exact ⟨_, rfl⟩
  | 86, _ => exact ⟨_, rfl⟩
  | 87, _ => exact ⟨_, rfl⟩
  | 88, _ => exact ⟨_, rfl⟩
  | 89, _ => exact ⟨_, rfl⟩
  | 90, _ => exact ⟨_, rfl⟩
  | k + 91, hk => exact absurd hk (by show ¬ k + 91 < 91; omega)
theorem w91_D {G : Ga} {h0 m0 o0 : Nat} {f g : Nat → Nat} {A : Nat → Prop} (hD : va_D A (w91 G h0 m0 o0 f g)) : va_D A (wd (ad0 h0 m0 o0 f g, G.2) S0) := by
  refine ⟨fun i j x y hx hy e => ?_, fun k q hq => ?_⟩
  · obtain ⟨a1, rfl⟩ := wd_in hx
    obtain ⟨a2, rfl⟩ := wd_in hy
    obtain ⟨e1, h1⟩ := w91_get (G := G) (h0 := h0) (m0 := m0) (o0 := o0) (f := f) (g := g) a1
    obtain ⟨e2, h2⟩ := w91_get (G := G) (h0 := h0) (m0 := m0) (o0 := o0) (f := f) (g := g) a2
    exact hD.1 i j _ _ h1 h2 e
  · obtain ⟨a1, rfl⟩ := wd_in hq
    obtain ⟨e1, h1⟩ := w91_get (G := G) (h0 := h0) (m0 := m0) (o0 := o0) (f := f) (g := g) a1
    exact hD.2 k (ad0 h0 m0 o0 f g k, e1) h1
