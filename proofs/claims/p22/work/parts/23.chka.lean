def pg_cM (mj n : Nat) : Bool := decide (1 ≤ mj ∧ mj < 318) && (plainName (pg_y mj).cls && (decide ((pg_y mj).cls ∈ pg_In) && (decide ((pg_y mj).cls ≠ "java/lang/invoke/MethodHandle" ∧ (pg_y mj).cls ≠ "java/lang/invoke/VarHandle" ∧ (parseMethodDescriptor (pg_y mj).desc).map (fun d => d.parameters.length) = some n) && Nat.ble (pm_max pg mj) 45)))
def pg_cH (mj : Nat) : Bool := cond (Nat.beq (pm_hom pg mj) 1000) (decide ((pg_y mj).cls = "java/lang/String")) (decide (pm_hom pg mj < 13) && decide (pg_R (pm_hom pg mj) = (pg_y mj).cls))
def pg_chk2 (mi : Nat) : Instr → Bool
  | .invokevirtual k => match pm_cal pg mi k with
    | some (mj, n) => pg_cM mj n && (decide (mj ∈ pg_Ii) && (decide (mj ∈ pg_Li) && pg_cH mj))
    | none => true
  | .invokestatic k => match pm_cal pg mi k with
    | some (mj, n) => pg_cM mj n && decide (mj ∈ pg_Si)
    | none => true
  | .invokespecial k => match pm_cal pg mi k with
    | some (mj, n) => Nat.beq mj 0 || (pg_cM mj n && (decide ((pg_y mj).name = "<init>") && (decide (mj ∈ pg_Ii) && decide (pm_ret pg mj = none))))
    | none => true
  | .newarray a => decide (newarray.typeOf a ∈ pg_Ar)
  | _ => true
def pg_chk1 (mi pc : Nat) : Bool := match pg_dec mi pc with
  | none => true
  | some i => (match decode (pg_cd mi) pc with
    | .ok (i', n) => decide (i' = i) && (Nat.beq (pm_sz i) 0 || Nat.beq n (pm_sz i))
    | .error _ => false) && pg_chk2 mi i
theorem pg_range {a n : Nat} {P : Nat → Bool} (h : (List.range' a n).all P = true) {k : Nat} (h1 : a ≤ k) (h2 : k < a + n) : P k = true := by
  rw [List.all_eq_true] at h
  exact h k (List.mem_range'_1.mpr ⟨h1, h2⟩)
