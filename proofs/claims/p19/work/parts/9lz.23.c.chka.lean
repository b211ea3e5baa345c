def pg_cM (mj n : Nat) : Bool := decide (1 ≤ mj ∧ mj < 318) && (plainName (pg_y mj).cls && (decide ((pg_y mj).cls ∈ pg_In) && (decide ((pg_y mj).cls ≠ "java/lang/invoke/MethodHandle" ∧ (pg_y mj).cls ≠ "java/lang/invoke/VarHandle" ∧ (parseMethodDescriptor (pg_y mj).desc).map (fun d => d.parameters.length) = some n) && Nat.ble (pm_max pg mj) 45)))
def pg_cH (mj : Nat) : Bool := cond (Nat.beq (pm_hom pg mj) 1000) (decide ((pg_y mj).cls = "java/lang/String")) (decide (pm_hom pg mj < 13) && decide (pg_R (pm_hom pg mj) = (pg_y mj).cls))
def pg_chk2 (mi : Nat) : Instr → Bool
  | .invokevirtual k => match pm_cal pg mi k with
    | some (mj, n) => pg_cM mj n && (decide (mj ∈ pg_Ii) && (decide (mj ∈ pg_Li) && pg_cH mj))
    | none => true
  | .invokestatic k => match pm_cal pg mi k with
    | some (mj, n) => pg_cM mj n && decide (mj ∈ pg_Si)
    | none => true
  | .invokespecial k => match pm_cal pg mi k with
    | some (mj, n) => Nat.beq mj 0 || (pg_cM mj n && (decide ((pg_y mj).name = "<init>") && (decide (mj ∈ pg_Ii) && decide (pm_ret pg mj = none))))
    | none => true
  | .newarray a => decide (newarray.typeOf a ∈ pg_Ar)
  | _ => true
def pg_chk1 (mi pc : Nat) : Bool := match pg_dec mi pc with
  | none => true
  | some i => (match decode (pg_cd mi) pc with
    | .ok (i', n) => decide (i' = i) && (Nat.beq (pm_sz i) 0 || Nat.beq n (pm_sz i))
    | .error _ => false) && pg_chk2 mi i
theorem pg_range {a n : Nat} {P : Nat → Bool} (h : (List.range' a n).all P = true) {k : Nat} (h1 : a ≤ k) (h2 : k < a + n) : P k = true := by
  rw [List.all_eq_true] at h
  exact h k (List.mem_range'_1.mpr ⟨h1, h2⟩)
def pg_nw2 (mi pc : Nat) (i : Instr) : Bool := match cbI (fun j => Nat.mod (Nat.div (pg_N mi) (Nat.pow 256 j)) 256) pc i with
  | some n => Nat.ble (pc + n) (pg_z mi) && (Nat.beq (pm_sz i) 0 || Nat.beq n (pm_sz i))
  | none => (match decode (pg_cd mi) pc with
    | .ok (i', n) => decide (i' = i) && (Nat.beq (pm_sz i) 0 || Nat.beq n (pm_sz i))
    | .error _ => false)
def pg_chkN (mi pc : Nat) : Bool := match pg_dec mi pc with
  | none => true
  | some i => pg_nw2 mi pc i && pg_chk2 mi i
theorem pg_chkO {mi pc : Nat} (hm : mi < 319) (h : pg_chkN mi pc = true) : pg_chk1 mi pc = true := by
  unfold pg_chkN at h
  unfold pg_chk1
  cases hd : pg_dec mi pc with
  | none => rfl
  | some i =>
    rw [hd] at h
    have h : (pg_nw2 mi pc i && pg_chk2 mi i) = true := h
    rw [Bool.and_eq_true] at h
    obtain ⟨h1, h2⟩ := h
    show (_ && pg_chk2 mi i) = true
    rw [h2, Bool.and_true]
    unfold pg_nw2 at h1
    cases hc : cbI (fun j => Nat.mod (Nat.div (pg_N mi) (Nat.pow 256 j)) 256) pc i with
    | none => rw [hc] at h1; exact h1
    | some n =>
      rw [hc] at h1
      have h1 : (Nat.ble (pc + n) (pg_z mi) && (Nat.beq (pm_sz i) 0 || Nat.beq n (pm_sz i))) = true := h1
      rw [Bool.and_eq_true] at h1
      obtain ⟨hb, hz⟩ := pg_byA hm
      rw [cbI_ok hb i n hc (by rw [hz]; exact Nat.le_of_ble_eq_true h1.1)]
      show (decide (i = i) && _) = true
      rw [decide_eq_true rfl, Bool.true_and]
      exact h1.2
