/-! ===== rules over integers: a value's number is said as an Int ===== -/
theorem zi_bm {a : Int} (h1 : -2147483648 ≤ a) (h2 : a ≤ 2147483647) : a.bmod (2 ^ 32) = a := by
  have e : (2 ^ 32 : Nat) = 4294967296 := by decide
  rw [e]
  exact Int.bmod_eq_of_le (by omega) (by omega)
theorem zi_add {x y : Int32} {a b : Int} (hx : x.toInt = a) (hy : y.toInt = b) (h1 : -2147483648 ≤ a + b) (h2 : a + b ≤ 2147483647) : (x + y).toInt = a + b := by
  rw [Int32.toInt_add, hx, hy]
  exact zi_bm h1 h2
theorem zi_sub {x y : Int32} {a b : Int} (hx : x.toInt = a) (hy : y.toInt = b) (h1 : -2147483648 ≤ a - b) (h2 : a - b ≤ 2147483647) : (x - y).toInt = a - b := by
  rw [Int32.toInt_sub, hx, hy]
  exact zi_bm h1 h2
theorem zi_mul {x y : Int32} {a b : Int} (hx : x.toInt = a) (hy : y.toInt = b) (h1 : -2147483648 ≤ a * b) (h2 : a * b ≤ 2147483647) : (x * y).toInt = a * b := by
  rw [Int32.toInt_mul, hx, hy]
  exact zi_bm h1 h2
theorem zi_neg {x : Int32} {a : Int} (hx : x.toInt = a) (h1 : -2147483648 < a) (h2 : a ≤ 2147483647) : (-x).toInt = -a := by
  rw [Int32.toInt_neg, hx]
  exact zi_bm (by omega) (by omega)
theorem zi_lo (x : Int32) : -2147483648 ≤ x.toInt := by
  have h := Int32.le_toInt x
  have e : (-2 ^ 31 : Int) = -2147483648 := by decide
  omega
theorem zi_hi (x : Int32) : x.toInt ≤ 2147483647 := by
  have h := Int32.toInt_lt x
  have e : (2 ^ 31 : Int) = 2147483648 := by decide
  omega
theorem zi_in {x : Int32} {a : Int} {n : Nat} (hx : x.toInt = a) (h0 : 0 ≤ a) (h1 : a < n) : vp_in x n := by
  intro h
  rcases h with h | h
  · rw [Int32.lt_iff_toInt_lt, hx] at h
    have : (0 : Int32).toInt = 0 := by decide +kernel
    omega
  · have : x.toNatClampNeg = x.toInt.toNat := rfl
    omega
theorem zi_cl {x : Int32} {a : Int} (hx : x.toInt = a) : x.toNatClampNeg = a.toNat := by
  show x.toInt.toNat = _
  rw [hx]
section ZR
variable {G : pm_G} {X : pm_X} {tyl : List FieldType} {cl : List vw_C} {d mi pc : Nat} {ls ls' st : List Value} {w : pm_W} {Q : pm_R → Prop} {x y : Int32} {a b : Int}
theorem pz_add (hd : pm_dec G mi pc = some .iadd) (hx : x.toInt = a) (hy : y.toInt = b) (h1 : -2147483648 ≤ a + b) (h2 : a + b ≤ 2147483647) (k : ∀ z : Int32, z.toInt = a + b → pmE G X tyl cl d mi (pc + 1) ls (.int z :: st) w Q) : pmE G X tyl cl d mi pc ls (.int y :: .int x :: st) w Q := pe_iadd hd (k _ (zi_add hx hy h1 h2))
theorem pz_sub (hd : pm_dec G mi pc = some .isub) (hx : x.toInt = a) (hy : y.toInt = b) (h1 : -2147483648 ≤ a - b) (h2 : a - b ≤ 2147483647) (k : ∀ z : Int32, z.toInt = a - b → pmE G X tyl cl d mi (pc + 1) ls (.int z :: st) w Q) : pmE G X tyl cl d mi pc ls (.int y :: .int x :: st) w Q := pe_isub hd (k _ (zi_sub hx hy h1 h2))
theorem pz_mul (hd : pm_dec G mi pc = some .imul) (hx : x.toInt = a) (hy : y.toInt = b) (h1 : -2147483648 ≤ a * b) (h2 : a * b ≤ 2147483647) (k : ∀ z : Int32, z.toInt = a * b → pmE G X tyl cl d mi (pc + 1) ls (.int z :: st) w Q) : pmE G X tyl cl d mi pc ls (.int y :: .int x :: st) w Q := pe_imul hd (k _ (zi_mul hx hy h1 h2))
theorem pz_neg (hd : pm_dec G mi pc = some .ineg) (hx : x.toInt = a) (h1 : -2147483648 < a) (h2 : a ≤ 2147483647) (k : ∀ z : Int32, z.toInt = -a → pmE G X tyl cl d mi (pc + 1) ls (.int z :: st) w Q) : pmE G X tyl cl d mi pc ls (.int x :: st) w Q := pe_ineg hd (k _ (zi_neg hx h1 h2))
theorem pz_iinc {j : Nat} {n : Int} (hd : pm_dec G mi pc = some (.iinc j n)) (h : ls[j]? = some (.int x)) (hx : x.toInt = a) (hn : (Int32.ofInt n).toInt = n) (h1 : -2147483648 ≤ a + n) (h2 : a + n ≤ 2147483647) (k : ∀ z : Int32, z.toInt = a + n → pmE G X tyl cl d mi (pc + 3) (pm_st1 ls j (.int z)) st w Q) : pmE G X tyl cl d mi pc ls st w Q := pe_iinc hd h rfl (k _ (zi_add hx hn h1 h2))
theorem pz_icmp_eq {off : Int} {t : Nat} (hd : pm_dec G mi pc = some (.if_icmp .eq off)) (h0 : 0 ≤ (pc : Int) + off) (ht : ((pc : Int) + off).toNat = t) (hx : x.toInt = a) (hy : y.toInt = b) (kt : a = b → pmE G X tyl cl d mi t ls st w Q) (kf : a ≠ b → pmE G X tyl cl d mi (pc + 3) ls st w Q) : pmE G X tyl cl d mi pc ls (.int y :: .int x :: st) w Q := by
  subst hx; subst hy
  refine pe_icmp_eq hd h0 ht (fun h => kt ?_) (fun h => kf ?_) <;> rw [← Int32.toInt_inj] at h <;> omega
theorem pz_if_eq {off : Int} {t : Nat} (hd : pm_dec G mi pc = some (.ifCond .eq off)) (h0 : 0 ≤ (pc : Int) + off) (ht : ((pc : Int) + off).toNat = t) (hx : x.toInt = a) (kt : a = 0 → pmE G X tyl cl d mi t ls st w Q) (kf : a ≠ 0 → pmE G X tyl cl d mi (pc + 3) ls st w Q) : pmE G X tyl cl d mi pc ls (.int x :: st) w Q := by
  subst hx
  have e0 : (0 : Int32).toInt = 0 := by decide +kernel
  refine pe_if_eq hd h0 ht (fun h => kt ?_) (fun h => kf ?_) <;> rw [← Int32.toInt_inj, e0] at h <;> omega
theorem pz_icmp_ne {off : Int} {t : Nat} (hd : pm_dec G mi pc = some (.if_icmp .ne off)) (h0 : 0 ≤ (pc : Int) + off) (ht : ((pc : Int) + off).toNat = t) (hx : x.toInt = a) (hy : y.toInt = b) (kt : a ≠ b → pmE G X tyl cl d mi t ls st w Q) (kf : a = b → pmE G X tyl cl d mi (pc + 3) ls st w Q) : pmE G X tyl cl d mi pc ls (.int y :: .int x :: st) w Q := by
  subst hx; subst hy
  refine pe_icmp_ne hd h0 ht (fun h => kt ?_) (fun h => kf ?_) <;> rw [← Int32.toInt_inj] at h <;> omega
theorem pz_if_ne {off : Int} {t : Nat} (hd : pm_dec G mi pc = some (.ifCond .ne off)) (h0 : 0 ≤ (pc : Int) + off) (ht : ((pc : Int) + off).toNat = t) (hx : x.toInt = a) (kt : a ≠ 0 → pmE G X tyl cl d mi t ls st w Q) (kf : a = 0 → pmE G X tyl cl d mi (pc + 3) ls st w Q) : pmE G X tyl cl d mi pc ls (.int x :: st) w Q := by
  subst hx
  have e0 : (0 : Int32).toInt = 0 := by decide +kernel
  refine pe_if_ne hd h0 ht (fun h => kt ?_) (fun h => kf ?_) <;> rw [← Int32.toInt_inj, e0] at h <;> omega
theorem pz_icmp_lt {off : Int} {t : Nat} (hd : pm_dec G mi pc = some (.if_icmp .lt off)) (h0 : 0 ≤ (pc : Int) + off) (ht : ((pc : Int) + off).toNat = t) (hx : x.toInt = a) (hy : y.toInt = b) (kt : a < b → pmE G X tyl cl d mi t ls st w Q) (kf : b ≤ a → pmE G X tyl cl d mi (pc + 3) ls st w Q) : pmE G X tyl cl d mi pc ls (.int y :: .int x :: st) w Q := by
  subst hx; subst hy
  refine pe_icmp_lt hd h0 ht (fun h => kt ?_) (fun h => kf ?_) <;> rw [Int32.lt_iff_toInt_lt] at h <;> omega
theorem pz_if_lt {off : Int} {t : Nat} (hd : pm_dec G mi pc = some (.ifCond .lt off)) (h0 : 0 ≤ (pc : Int) + off) (ht : ((pc : Int) + off).toNat = t) (hx : x.toInt = a) (kt : a < 0 → pmE G X tyl cl d mi t ls st w Q) (kf : 0 ≤ a → pmE G X tyl cl d mi (pc + 3) ls st w Q) : pmE G X tyl cl d mi pc ls (.int x :: st) w Q := by
  subst hx
  have e0 : (0 : Int32).toInt = 0 := by decide +kernel
  refine pe_if_lt hd h0 ht (fun h => kt ?_) (fun h => kf ?_) <;> rw [Int32.lt_iff_toInt_lt, e0] at h <;> omega
theorem pz_icmp_ge {off : Int} {t : Nat} (hd : pm_dec G mi pc = some (.if_icmp .ge off)) (h0 : 0 ≤ (pc : Int) + off) (ht : ((pc : Int) + off).toNat = t) (hx : x.toInt = a) (hy : y.toInt = b) (kt : b ≤ a → pmE G X tyl cl d mi t ls st w Q) (kf : a < b → pmE G X tyl cl d mi (pc + 3) ls st w Q) : pmE G X tyl cl d mi pc ls (.int y :: .int x :: st) w Q := by
  subst hx; subst hy
  refine pe_icmp_ge hd h0 ht (fun h => kt ?_) (fun h => kf ?_) <;> rw [Int32.le_iff_toInt_le] at h <;> omega
theorem pz_if_ge {off : Int} {t : Nat} (hd : pm_dec G mi pc = some (.ifCond .ge off)) (h0 : 0 ≤ (pc : Int) + off) (ht : ((pc : Int) + off).toNat = t) (hx : x.toInt = a) (kt : 0 ≤ a → pmE G X tyl cl d mi t ls st w Q) (kf : a < 0 → pmE G X tyl cl d mi (pc + 3) ls st w Q) : pmE G X tyl cl d mi pc ls (.int x :: st) w Q := by
  subst hx
  have e0 : (0 : Int32).toInt = 0 := by decide +kernel
  refine pe_if_ge hd h0 ht (fun h => kt ?_) (fun h => kf ?_) <;> rw [Int32.le_iff_toInt_le, e0] at h <;> omega
theorem pz_icmp_gt {off : Int} {t : Nat} (hd : pm_dec G mi pc = some (.if_icmp .gt off)) (h0 : 0 ≤ (pc : Int) + off) (ht : ((pc : Int) + off).toNat = t) (hx : x.toInt = a) (hy : y.toInt = b) (kt : b < a → pmE G X tyl cl d mi t ls st w Q) (kf : a ≤ b → pmE G X tyl cl d mi (pc + 3) ls st w Q) : pmE G X tyl cl d mi pc ls (.int y :: .int x :: st) w Q := by
  subst hx; subst hy
  refine pe_icmp_gt hd h0 ht (fun h => kt ?_) (fun h => kf ?_) <;> rw [Int32.lt_iff_toInt_lt] at h <;> omega
theorem pz_if_gt {off : Int} {t : Nat} (hd : pm_dec G mi pc = some (.ifCond .gt off)) (h0 : 0 ≤ (pc : Int) + off) (ht : ((pc : Int) + off).toNat = t) (hx : x.toInt = a) (kt : 0 < a → pmE G X tyl cl d mi t ls st w Q) (kf : a ≤ 0 → pmE G X tyl cl d mi (pc + 3) ls st w Q) : pmE G X tyl cl d mi pc ls (.int x :: st) w Q := by
  subst hx
  have e0 : (0 : Int32).toInt = 0 := by decide +kernel
  refine pe_if_gt hd h0 ht (fun h => kt ?_) (fun h => kf ?_) <;> rw [Int32.lt_iff_toInt_lt, e0] at h <;> omega
theorem pz_icmp_le {off : Int} {t : Nat} (hd : pm_dec G mi pc = some (.if_icmp .le off)) (h0 : 0 ≤ (pc : Int) + off) (ht : ((pc : Int) + off).toNat = t) (hx : x.toInt = a) (hy : y.toInt = b) (kt : a ≤ b → pmE G X tyl cl d mi t ls st w Q) (kf : b < a → pmE G X tyl cl d mi (pc + 3) ls st w Q) : pmE G X tyl cl d mi pc ls (.int y :: .int x :: st) w Q := by
  subst hx; subst hy
  refine pe_icmp_le hd h0 ht (fun h => kt ?_) (fun h => kf ?_) <;> rw [Int32.le_iff_toInt_le] at h <;> omega
theorem pz_if_le {off : Int} {t : Nat} (hd : pm_dec G mi pc = some (.ifCond .le off)) (h0 : 0 ≤ (pc : Int) + off) (ht : ((pc : Int) + off).toNat = t) (hx : x.toInt = a) (kt : a ≤ 0 → pmE G X tyl cl d mi t ls st w Q) (kf : 0 < a → pmE G X tyl cl d mi (pc + 3) ls st w Q) : pmE G X tyl cl d mi pc ls (.int x :: st) w Q := by
  subst hx
  have e0 : (0 : Int32).toInt = 0 := by decide +kernel
  refine pe_if_le hd h0 ht (fun h => kt ?_) (fun h => kf ?_) <;> rw [Int32.le_iff_toInt_le, e0] at h <;> omega
theorem pz_iald {k n : Nat} {xs : List Int32} (hd : pm_dec G mi pc = some .iaload) (h : w[k]? = some (.inl (0, .inl xs))) (hn : xs.length = n) (hx : x.toInt = a) (h0 : 0 ≤ a) (h1 : a < n) (kk : ∀ v : Int32, v = xs.getD a.toNat 0 → pmE G X tyl cl d mi (pc + 1) ls (.int v :: st) w Q) : pmE G X tyl cl d mi pc ls (.int x :: .ref k :: st) w Q := by
  subst hn
  refine pe_iald hd h (zi_in hx h0 h1) (kk _ ?_)
  rw [zi_cl hx]
theorem pz_iast {k n : Nat} {v : Int32} {xs : List Int32} {w' : pm_W} (hd : pm_dec G mi pc = some .iastore) (h : w[k]? = some (.inl (0, .inl xs))) (hn : xs.length = n) (hx : x.toInt = a) (h0 : 0 ≤ a) (h1 : a < n) (hw : w.set k (.inl (0, .inl (xs.set a.toNat v))) = w') (kk : pmE G X tyl cl d mi (pc + 1) ls st w' Q) : pmE G X tyl cl d mi pc ls (.int v :: .int x :: .ref k :: st) w Q := by
  subst hn
  refine pe_iast hd h (zi_in hx h0 h1) ?_ kk
  rw [zi_cl hx]
  exact hw
end ZR
