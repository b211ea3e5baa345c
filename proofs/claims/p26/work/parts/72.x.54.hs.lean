/-! ===== masks of bits ===== -/
section HSM
variable {x y z : Int32} {B b : Nat} {c d : Nat → Bool}
/-- x's bits below B are c, the rest is 0 -/
def MSK (x : Int32) (B : Nat) (c : Nat → Bool) : Prop := ∀ i, i < 32 → x.toBitVec.getLsbD i = (decide (i < B) && c i)
theorem i32_o (h : y.toInt = b) (hb : b < 32) : y = Int32.ofNat b := by
  apply Int32.toInt_inj.mp
  rw [h, Int32.toInt_ofNat_of_lt (by omega)]
theorem shr_b (h : y.toInt = b) (hb : b < 32) : (x >>> (y &&& 31)).toBitVec.getLsbD 0 = x.toBitVec.getLsbD b := by
  have e := i32_o h hb
  have t : (List.range 32).all (fun b => ((Int32.ofNat b &&& 31).toBitVec.smod 32).toNat == b) = true := by decide +kernel
  have t1 := eq_of_beq (List.all_eq_true.mp t b (List.mem_range.mpr hb))
  rw [e, Int32.toBitVec_shiftRight, BitVec.sshiftRight_eq', t1, BitVec.getLsbD_sshiftRight]
  rw [Nat.add_zero, if_pos hb]
  rfl
theorem and1 : (x &&& 1) = 1 ↔ x.toBitVec.getLsbD 0 = true := by
  have g : ∀ i, i < 32 → (x &&& 1).toBitVec.getLsbD i = (x.toBitVec.getLsbD 0 && decide (i = 0)) := by
    intro i hi
    rw [Int32.toBitVec_and, BitVec.getLsbD_and]
    have t : (List.range 32).all (fun i => (1 : Int32).toBitVec.getLsbD i == decide (i = 0)) = true := by decide +kernel
    rw [eq_of_beq (List.all_eq_true.mp t i (List.mem_range.mpr hi))]
    by_cases e : i = 0
    · rw [e]
    · rw [decide_eq_false e, Bool.and_false, Bool.and_false]
  constructor
  · intro e
    have q := g 0 (by decide)
    rw [e] at q
    rw [show (1 : Int32).toBitVec.getLsbD 0 = true by decide +kernel, decide_eq_true rfl, Bool.and_true] at q
    exact q.symm
  · intro e
    apply Int32.toBitVec_inj.mp
    apply BitVec.eq_of_getLsbD_eq
    intro i hi
    rw [g i hi, e, Bool.true_and]
    have t : (List.range 32).all (fun i => (1 : Int32).toBitVec.getLsbD i == decide (i = 0)) = true := by decide +kernel
    exact (eq_of_beq (List.all_eq_true.mp t i (List.mem_range.mpr hi))).symm
theorem and1z : (x &&& 1) = 0 ↔ x.toBitVec.getLsbD 0 = false := by
  constructor
  · intro e
    cases h : x.toBitVec.getLsbD 0 with
    | false => rfl
    | true =>
      rw [and1.mpr h] at e
      exact absurd e (by decide +kernel)
  · intro e
    apply Int32.toBitVec_inj.mp
    apply BitVec.eq_of_getLsbD_eq
    intro i hi
    rw [Int32.toBitVec_and, BitVec.getLsbD_and]
    have t : (List.range 32).all (fun i => (1 : Int32).toBitVec.getLsbD i == decide (i = 0)) = true := by decide +kernel
    rw [eq_of_beq (List.all_eq_true.mp t i (List.mem_range.mpr hi))]
    rw [show (0 : Int32).toBitVec = 0#32 from rfl, BitVec.getLsbD_zero]
    by_cases e2 : i = 0
    · rw [e2, e]; rfl
    · rw [decide_eq_false e2, Bool.and_false]
/-- a bit asked for -/
theorem MSK_t (h1 : MSK x B c) (h : y.toInt = b) (hb : b < B) (hB : B ≤ 32) : ((x >>> (y &&& 31)) &&& 1) = 1 ↔ c b = true := by
  rw [and1, shr_b h (by omega), h1 b (by omega), decide_eq_true hb, Bool.true_and]
theorem MSK_f (h1 : MSK x B c) (h : y.toInt = b) (hb : b < B) (hB : B ≤ 32) : ((x >>> (y &&& 31)) &&& 1) = 0 ↔ c b = false := by
  rw [and1z, shr_b h (by omega), h1 b (by omega), decide_eq_true hb, Bool.true_and]
end HSM
