/-! ===== masks of bits ===== -/
section HSM
variable {x y z : Int32} {B b : Nat} {c d : Nat → Bool}
/-- x's bits below B are c, the rest is 0 -/
def MSK (x : Int32) (B : Nat) (c : Nat → Bool) : Prop := ∀ i, i < 32 → x.toBitVec.getLsbD i = (decide (i < B) && c i)
theorem MSK_uq (h1 : MSK x B c) (h2 : MSK y B d) (h : ∀ b, b < B → c b = d b) : x = y := by
  apply Int32.toBitVec_inj.mp
  apply BitVec.eq_of_getLsbD_eq
  intro i hi
  rw [h1 i hi, h2 i hi]
  by_cases e : i < B
  · rw [h i e]
  · rw [decide_eq_false e]; rfl
theorem MSK_cg (h1 : MSK x B c) (h : ∀ b, b < B → d b = c b) : MSK x B d := by
  intro i hi
  rw [h1 i hi]
  by_cases e : i < B
  · rw [h i e]
  · rw [decide_eq_false e]; rfl
theorem MSK_0 : MSK 0 B (fun _ => false) := by
  intro i hi
  rw [Bool.and_false]
  show (0 : Int32).toBitVec.getLsbD i = false
  rw [show (0 : Int32).toBitVec = 0#32 from rfl]
  exact BitVec.getLsbD_zero
theorem MSK_or (h1 : MSK x B c) (h2 : MSK y B d) : MSK (x ||| y) B (fun q => c q || d q) := by
  intro i hi
  rw [Int32.toBitVec_or, BitVec.getLsbD_or, h1 i hi, h2 i hi]
  cases decide (i < B) <;> rfl
theorem i32_o (h : y.toInt = b) (hb : b < 32) : y = Int32.ofNat b := by
  apply Int32.toInt_inj.mp
  rw [h, Int32.toInt_ofNat_of_lt (by omega)]
theorem sh1_b (h : y.toInt = b) (hb : b < 32) (i : Nat) (hi : i < 32) : ((1 : Int32) <<< (y &&& 31)).toBitVec.getLsbD i = decide (i = b) := by
  have e := i32_o h hb
  have t : (List.range 32).all (fun b => (List.range 32).all (fun i => ((1 : Int32) <<< (Int32.ofNat b &&& 31)).toBitVec.getLsbD i == decide (i = b))) = true := by decide +kernel
  have t1 := List.all_eq_true.mp t b (List.mem_range.mpr hb)
  have t2 := List.all_eq_true.mp t1 i (List.mem_range.mpr hi)
  rw [e]
  exact eq_of_beq t2
theorem MSK_b (h : y.toInt = b) (hb : b < B) (hB : B ≤ 32) : MSK (1 <<< (y &&& 31)) B (fun q => decide (q = b)) := by
  intro i hi
  rw [sh1_b h (by omega) i hi]
  show decide (i = b) = (decide (i < B) && decide (i = b))
  by_cases e : i = b
  · rw [decide_eq_true e, decide_eq_true (show i < B by omega)]; rfl
  · rw [decide_eq_false e, Bool.and_false]
theorem MSK_ob (h1 : MSK x B c) (h : y.toInt = b) (hb : b < B) (hB : B ≤ 32) : MSK (x ||| (1 <<< (y &&& 31))) B (fun q => c q || decide (q = b)) := MSK_or h1 (MSK_b h hb hB)
theorem MSK_o0 (h1 : MSK x B c) : MSK (x ||| 0) B c := MSK_cg (MSK_or h1 MSK_0) (fun b _ => (Bool.or_false _).symm)
theorem MSK_cl (h1 : MSK x B c) (h : y.toInt = b) (hb : b < 32) : MSK (x &&& ((1 <<< (y &&& 31)) ^^^ (-1))) B (fun q => c q && !decide (q = b)) := by
  intro i hi
  rw [Int32.toBitVec_and, Int32.toBitVec_xor, BitVec.getLsbD_and, BitVec.getLsbD_xor, h1 i hi, sh1_b h hb i hi]
  have m : (-1 : Int32).toBitVec.getLsbD i = true := by
    have t : (List.range 32).all (fun i => (-1 : Int32).toBitVec.getLsbD i) = true := by decide +kernel
    exact List.all_eq_true.mp t i (List.mem_range.mpr hi)
  rw [m, Bool.xor_true, Bool.and_assoc]
theorem shr_b (h : y.toInt = b) (hb : b < 32) : (x >>> (y &&& 31)).toBitVec.getLsbD 0 = x.toBitVec.getLsbD b := by
  have e := i32_o h hb
  have t : (List.range 32).all (fun b => ((Int32.ofNat b &&& 31).toBitVec.smod 32).toNat == b) = true := by decide +kernel
  have t1 := eq_of_beq (List.all_eq_true.mp t b (List.mem_range.mpr hb))
  rw [e, Int32.toBitVec_shiftRight, BitVec.sshiftRight_eq', t1, BitVec.getLsbD_sshiftRight]
  rw [Nat.add_zero, if_pos hb]
  rfl
theorem and1 : (x &&& 1) = 1 ↔ x.toBitVec.getLsbD 0 = true := by
  have g : ∀ i, i < 32 → (x &&& 1).toBitVec.getLsbD i = (x.toBitVec.getLsbD 0 && decide (i = 0)) := by
    intro i hi
    rw [Int32.toBitVec_and, BitVec.getLsbD_and]
    have t : (List.range 32).all (fun i => (1 : Int32).toBitVec.getLsbD i == decide (i = 0)) = true := by decide +kernel
    rw [eq_of_beq (List.all_eq_true.mp t i (List.mem_range.mpr hi))]
    by_cases e : i = 0
    · rw [e]
    · rw [decide_eq_false e, Bool.and_false, Bool.and_false]
  constructor
  · intro e
    have q := g 0 (by decide)
    rw [e] at q
    rw [show (1 : Int32).toBitVec.getLsbD 0 = true by decide +kernel, decide_eq_true rfl, Bool.and_true] at q
    exact q.symm
  · intro e
    apply Int32.toBitVec_inj.mp
    apply BitVec.eq_of_getLsbD_eq
    intro i hi
    rw [g i hi, e, Bool.true_and]
    have t : (List.range 32).all (fun i => (1 : Int32).toBitVec.getLsbD i == decide (i = 0)) = true := by decide +kernel
    exact (eq_of_beq (List.all_eq_true.mp t i (List.mem_range.mpr hi))).symm
theorem and1z : (x &&& 1) = 0 ↔ x.toBitVec.getLsbD 0 = false := by
  constructor
  · intro e
    cases h : x.toBitVec.getLsbD 0 with
    | false => rfl
    | true =>
      rw [and1.mpr h] at e
      exact absurd e (by decide +kernel)
  · intro e
    apply Int32.toBitVec_inj.mp
    apply BitVec.eq_of_getLsbD_eq
    intro i hi
    rw [Int32.toBitVec_and, BitVec.getLsbD_and]
    have t : (List.range 32).all (fun i => (1 : Int32).toBitVec.getLsbD i == decide (i = 0)) = true := by decide +kernel
    rw [eq_of_beq (List.all_eq_true.mp t i (List.mem_range.mpr hi))]
    rw [show (0 : Int32).toBitVec = 0#32 from rfl, BitVec.getLsbD_zero]
    by_cases e2 : i = 0
    · rw [e2, e]; rfl
    · rw [decide_eq_false e2, Bool.and_false]
/-- a bit asked for -/
theorem MSK_t (h1 : MSK x B c) (h : y.toInt = b) (hb : b < B) (hB : B ≤ 32) : ((x >>> (y &&& 31)) &&& 1) = 1 ↔ c b = true := by
  rw [and1, shr_b h (by omega), h1 b (by omega), decide_eq_true hb, Bool.true_and]
theorem MSK_f (h1 : MSK x B c) (h : y.toInt = b) (hb : b < B) (hB : B ≤ 32) : ((x >>> (y &&& 31)) &&& 1) = 0 ↔ c b = false := by
  rw [and1z, shr_b h (by omega), h1 b (by omega), decide_eq_true hb, Bool.true_and]
end HSM
