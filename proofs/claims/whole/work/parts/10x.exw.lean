def exn (e : Nat) : String := if e = 0 then "java/lang/IndexOutOfBoundsException" else if e = 1 then "java/lang/IllegalArgumentException" else "java/lang/IllegalStateException"
def exi (e : Nat) : Nat := if e = 0 then 254 else if e = 1 then 64 else 75
def exA (e : Nat) : List Cond := vx_atS RX7 (exi e) (exn e) ["java/lang/RuntimeException", "java/lang/Exception"]
def exW : List Cond := (exA 0 ++ exA 1 ++ exA 2).filter (fun w => !goodWord w)
def isCD : Cond → Bool
  | .castable _ _ => true
  | .declares _ => true
  | _ => false
theorem exW_ok : exW.all isCD = true := by decide +kernel
theorem exA_good : ∀ e, e < 3 → ∀ w ∈ (exA e).filter goodWord, w ∈ tbG := by decide +kernel
theorem exA_ot : ∀ e, e < 3 → (exA e).all vx_ot = true := by decide +kernel
theorem exn_fit : ∀ e, e < 3 → Bundle.fit (exn e) = true := by decide +kernel
theorem exW_ot : exW.all (fun w => w.onTables) = true := by decide +kernel
theorem mcmax : Cond.static Lib.Math.max.name ∈ tbG ∧ Cond.code Lib.Math.max.name Lib.Math.max.code 2 (some .int) ∈ tbG := ⟨tb_in 349 (by decide +kernel) (by decide +kernel), tb_in 350 (by decide +kernel) (by decide +kernel)⟩
theorem mcmin : Cond.static Lib.Math.min.name ∈ tbG ∧ Cond.code Lib.Math.min.name Lib.Math.min.code 2 (some .int) ∈ tbG := ⟨tb_in 387 (by decide +kernel) (by decide +kernel), tb_in 388 (by decide +kernel) (by decide +kernel)⟩
theorem mcabs : Cond.static Lib.Math.abs.name ∈ tbG ∧ Cond.code Lib.Math.abs.name Lib.Math.abs.code 1 (some .int) ∈ tbG := ⟨tb_in 884 (by decide +kernel) (by decide +kernel), tb_in 885 (by decide +kernel) (by decide +kernel)⟩
theorem mcmaxl : Cond.static Lib.MathLoose.max_long.x ∈ tbG ∧ Cond.code Lib.MathLoose.max_long.x Lib.MathLoose.max_long.code 4 (some .long) ∈ tbG := ⟨tb_in 338 (by decide +kernel) (by decide +kernel), tb_in 339 (by decide +kernel) (by decide +kernel)⟩
