/-! ===== rules over integers: a value's number is said as an Int ===== -/
theorem zi_bm {a : Int} (h1 : -2147483648 ≤ a) (h2 : a ≤ 2147483647) : a.bmod (2 ^ 32) = a := by
  have e : (2 ^ 32 : Nat) = 4294967296 := by decide
  rw [e]
  exact Int.bmod_eq_of_le (by omega) (by omega)
theorem zi_add {x y : Int32} {a b : Int} (hx : x.toInt = a) (hy : y.toInt = b) (h1 : -2147483648 ≤ a + b) (h2 : a + b ≤ 2147483647) : (x + y).toInt = a + b := by
  rw [Int32.toInt_add, hx, hy]
  exact zi_bm h1 h2
theorem zi_sub {x y : Int32} {a b : Int} (hx : x.toInt = a) (hy : y.toInt = b) (h1 : -2147483648 ≤ a - b) (h2 : a - b ≤ 2147483647) : (x - y).toInt = a - b := by
  rw [Int32.toInt_sub, hx, hy]
  exact zi_bm h1 h2
theorem zi_mul {x y : Int32} {a b : Int} (hx : x.toInt = a) (hy : y.toInt = b) (h1 : -2147483648 ≤ a * b) (h2 : a * b ≤ 2147483647) : (x * y).toInt = a * b := by
  rw [Int32.toInt_mul, hx, hy]
  exact zi_bm h1 h2
theorem zi_neg {x : Int32} {a : Int} (hx : x.toInt = a) (h1 : -2147483648 < a) (h2 : a ≤ 2147483647) : (-x).toInt = -a := by
  rw [Int32.toInt_neg, hx]
  exact zi_bm (by omega) (by omega)
theorem zi_lo (x : Int32) : -2147483648 ≤ x.toInt := by
  have h := Int32.le_toInt x
  have e : (-2 ^ 31 : Int) = -2147483648 := by decide
  omega
theorem zi_hi (x : Int32) : x.toInt ≤ 2147483647 := by
  have h := Int32.toInt_lt x
  have e : (2 ^ 31 : Int) = 2147483648 := by decide
  omega
theorem zi_in {x : Int32} {a : Int} {n : Nat} (hx : x.toInt = a) (h0 : 0 ≤ a) (h1 : a < n) : vp_in x n := by
  intro h
  rcases h with h | h
  · rw [Int32.lt_iff_toInt_lt, hx] at h
    have : (0 : Int32).toInt = 0 := by decide +kernel
    omega
  · have : x.toNatClampNeg = x.toInt.toNat := rfl
    omega
theorem zi_cl {x : Int32} {a : Int} (hx : x.toInt = a) : x.toNatClampNeg = a.toNat := by
  show x.toInt.toNat = _
  rw [hx]
section ZR
variable {G : pm_G} {X : pm_X} {tyl : List FieldType} {cl : List vw_C} {d mi pc : Nat} {ls ls' st : List Value} {w : pm_W} {Q : pm_R → Prop} {x y : Int32} {a b : Int}
theorem pz_add (hd : pm_dec G mi pc = some .iadd) (hx : x.toInt = a) (hy : y.toInt = b) (h1 : -2147483648 ≤ a + b) (h2 : a + b ≤ 2147483647) (k : ∀ z : Int32, z.toInt = a + b → pmE G X tyl cl d mi (pc + 1) ls (.int z :: st) w Q) : pmE G X tyl cl d mi pc ls (.int y :: .int x :: st) w Q := pe_iadd hd (k _ (zi_add hx hy h1 h2))
theorem pz_sub (hd : pm_dec G mi pc = some .isub) (hx : x.toInt = a) (hy : y.toInt = b) (h1 : -2147483648 ≤ a - b) (h2 : a - b ≤ 2147483647) (k : ∀ z : Int32, z.toInt = a - b → pmE G X tyl cl d mi (pc + 1) ls (.int z :: st) w Q) : pmE G X tyl cl d mi pc ls (.int y :: .int x :: st) w Q := pe_isub hd (k _ (zi_sub hx hy h1 h2))
theorem pz_mul (hd : pm_dec G mi pc = some .imul) (hx : x.toInt = a) (hy : y.toInt = b) (h1 : -2147483648 ≤ a * b) (h2 : a * b ≤ 2147483647) (k : ∀ z : Int32, z.toInt = a * b → pmE G X tyl cl d mi (pc + 1) ls (.int z :: st) w Q) : pmE G X tyl cl d mi pc ls (.int y :: .int x :: st) w Q := pe_imul hd (k _ (zi_mul hx hy h1 h2))
theorem pz_neg (hd : pm_dec G mi pc = some .ineg) (hx : x.toInt = a) (h1 : -2147483648 < a) (h2 : a ≤ 2147483647) (k : ∀ z : Int32, z.toInt = -a → pmE G X tyl cl d mi (pc + 1) ls (.int z :: st) w Q) : pmE G X tyl cl d mi pc ls (.int x :: st) w Q := pe_ineg hd (k _ (zi_neg hx h1 h2))
theorem pz_iinc {j : Nat} {n : Int} (hd : pm_dec G mi pc = some (.iinc j n)) (h : ls[j]? = some (.int x)) (hx : x.toInt = a) (hn : (Int32.ofInt n).toInt = n) (h1 : -2147483648 ≤ a + n) (h2 : a + n ≤ 2147483647) (k : ∀ z : Int32, z.toInt = a + n → pmE G X tyl cl d mi (pc + 3) (pm_st1 ls j (.int z)) st w Q) : pmE G X tyl cl d mi pc ls st w Q := pe_iinc hd h rfl (k _ (zi_add hx hn h1 h2))
theorem pz_icmp_eq {off : Int} {t : Nat} (hd : pm_dec G mi pc = some (.if_icmp .eq off)) (h0 : 0 ≤ (pc : Int) + off) (ht : ((pc : Int) + off).toNat = t) (hx : x.toInt = a) (hy : y.toInt = b) (kt : a = b → pmE G X tyl cl d mi t ls st w Q) (kf : a ≠ b → pmE G X tyl cl d mi (pc + 3) ls st w Q) : pmE G X tyl cl d mi pc ls (.int y :: .int x :: st) w Q := by
  subst hx; subst hy
  refine pe_icmp_eq hd h0 ht (fun h => kt ?_) (fun h => kf ?_) <;> rw [← Int32.toInt_inj] at h <;> omega
theorem pz_if_eq {off : Int} {t : Nat} (hd : pm_dec G mi pc = some (.ifCond .eq off)) (h0 : 0 ≤ (pc : Int) + off) (ht : ((pc : Int) + off).toNat = t) (hx : x.toInt = a) (kt : a = 0 → pmE G X tyl cl d mi t ls st w Q) (kf : a ≠ 0 → pmE G X tyl cl d mi (pc + 3) ls st w Q) : pmE G X tyl cl d mi pc ls (.int x :: st) w Q := by
  subst hx
  have e0 : (0 : Int32).toInt = 0 := by decide +kernel
  refine pe_if_eq hd h0 ht (fun h => kt ?_) (fun h => kf ?_) <;> rw [← Int32.toInt_inj, e0] at h <;> omega
theorem pz_icmp_ne {off : Int} {t : Nat} (hd : pm_dec G mi pc = some (.if_icmp .ne off)) (h0 : 0 ≤ (pc : Int) + off) (ht : ((pc : Int) + off).toNat = t) (hx : x.toInt = a) (hy : y.toInt = b) (kt : a ≠ b → pmE G X tyl cl d mi t ls st w Q) (kf : a = b → pmE G X tyl cl d mi (pc + 3) ls st w Q) : pmE G X tyl cl d mi pc ls (.int y :: .int x :: st) w Q := by
  subst hx; subst hy
  refine pe_icmp_ne hd h0 ht (fun h => kt ?_) (fun h => kf ?_) <;> rw [← Int32.toInt_inj] at h <;> omega
theorem pz_if_ne {off : Int} {t : Nat} (hd : pm_dec G mi pc = some (.ifCond .ne off)) (h0 : 0 ≤ (pc : Int) + off) (ht : ((pc : Int) + off).toNat = t) (hx : x.toInt = a) (kt : a ≠ 0 → pmE G X tyl cl d mi t ls st w Q) (kf : a = 0 → pmE G X tyl cl d mi (pc + 3) ls st w Q) : pmE G X tyl cl d mi pc ls (.int x :: st) w Q := by
  subst hx
  have e0 : (0 : Int32).toInt = 0 := by decide +kernel
  refine pe_if_ne hd h0 ht (fun h => kt ?_) (fun h => kf ?_) <;> rw [← Int32.toInt_inj, e0] at h <;> omega
theorem pz_icmp_lt {off : Int} {t : Nat} (hd : pm_dec G mi pc = some (.if_icmp .lt off)) (h0 : 0 ≤ (pc : Int) + off) (ht : ((pc : Int) + off).toNat = t) (hx : x.toInt = a) (hy : y.toInt = b) (kt : a < b → pmE G X tyl cl d mi t ls st w Q) (kf : b ≤ a → pmE G X tyl cl d mi (pc + 3) ls st w Q) : pmE G X tyl cl d mi pc ls (.int y :: .int x :: st) w Q := by
  subst hx; subst hy
  refine pe_icmp_lt hd h0 ht (fun h => kt ?_) (fun h => kf ?_) <;> rw [Int32.lt_iff_toInt_lt] at h <;> omega
theorem pz_if_lt {off : Int} {t : Nat} (hd : pm_dec G mi pc = some (.ifCond .lt off)) (h0 : 0 ≤ (pc : Int) + off) (ht : ((pc : Int) + off).toNat = t) (hx : x.toInt = a) (kt : a < 0 → pmE G X tyl cl d mi t ls st w Q) (kf : 0 ≤ a → pmE G X tyl cl d mi (pc + 3) ls st w Q) : pmE G X tyl cl d mi pc ls (.int x :: st) w Q := by
  subst hx
  have e0 : (0 : Int32).toInt = 0 := by decide +kernel
  refine pe_if_lt hd h0 ht (fun h => kt ?_) (fun h => kf ?_) <;> rw [Int32.lt_iff_toInt_lt, e0] at h <;> omega
theorem pz_icmp_ge {off : Int} {t : Nat} (hd : pm_dec G mi pc = some (.if_icmp .ge off)) (h0 : 0 ≤ (pc : Int) + off) (ht : ((pc : Int) + off).toNat = t) (hx : x.toInt = a) (hy : y.toInt = b) (kt : b ≤ a → pmE G X tyl cl d mi t ls st w Q) (kf : a < b → pmE G X tyl cl d mi (pc + 3) ls st w Q) : pmE G X tyl cl d mi pc ls (.int y :: .int x :: st) w Q := by
  subst hx; subst hy
  refine pe_icmp_ge hd h0 ht (fun h => kt ?_) (fun h => kf ?_) <;> rw [Int32.le_iff_toInt_le] at h <;> omega
theorem pz_if_ge {off : Int} {t : Nat} (hd : pm_dec G mi pc = some (.ifCond .ge off)) (h0 : 0 ≤ (pc : Int) + off) (ht : ((pc : Int) + off).toNat = t) (hx : x.toInt = a) (kt : 0 ≤ a → pmE G X tyl cl d mi t ls st w Q) (kf : a < 0 → pmE G X tyl cl d mi (pc + 3) ls st w Q) : pmE G X tyl cl d mi pc ls (.int x :: st) w Q := by
  subst hx
  have e0 : (0 : Int32).toInt = 0 := by decide +kernel
  refine pe_if_ge hd h0 ht (fun h => kt ?_) (fun h => kf ?_) <;> rw [Int32.le_iff_toInt_le, e0] at h <;> omega
theorem pz_icmp_gt {off : Int} {t : Nat} (hd : pm_dec G mi pc = some (.if_icmp .gt off)) (h0 : 0 ≤ (pc : Int) + off) (ht : ((pc : Int) + off).toNat = t) (hx : x.toInt = a) (hy : y.toInt = b) (kt : b < a → pmE G X tyl cl d mi t ls st w Q) (kf : a ≤ b → pmE G X tyl cl d mi (pc + 3) ls st w Q) : pmE G X tyl cl d mi pc ls (.int y :: .int x :: st) w Q := by
  subst hx; subst hy
  refine pe_icmp_gt hd h0 ht (fun h => kt ?_) (fun h => kf ?_) <;> rw [Int32.lt_iff_toInt_lt] at h <;> omega
theorem pz_if_gt {off : Int} {t : Nat} (hd : pm_dec G mi pc = some (.ifCond .gt off)) (h0 : 0 ≤ (pc : Int) + off) (ht : ((pc : Int) + off).toNat = t) (hx : x.toInt = a) (kt : 0 < a → pmE G X tyl cl d mi t ls st w Q) (kf : a ≤ 0 → pmE G X tyl cl d mi (pc + 3) ls st w Q) : pmE G X tyl cl d mi pc ls (.int x :: st) w Q := by
  subst hx
  have e0 : (0 : Int32).toInt = 0 := by decide +kernel
  refine pe_if_gt hd h0 ht (fun h => kt ?_) (fun h => kf ?_) <;> rw [Int32.lt_iff_toInt_lt, e0] at h <;> omega
theorem pz_icmp_le {off : Int} {t : Nat} (hd : pm_dec G mi pc = some (.if_icmp .le off)) (h0 : 0 ≤ (pc : Int) + off) (ht : ((pc : Int) + off).toNat = t) (hx : x.toInt = a) (hy : y.toInt = b) (kt : a ≤ b → pmE G X tyl cl d mi t ls st w Q) (kf : b < a → pmE G X tyl cl d mi (pc + 3) ls st w Q) : pmE G X tyl cl d mi pc ls (.int y :: .int x :: st) w Q := by
  subst hx; subst hy
  refine pe_icmp_le hd h0 ht (fun h => kt ?_) (fun h => kf ?_) <;> rw [Int32.le_iff_toInt_le] at h <;> omega
theorem pz_if_le {off : Int} {t : Nat} (hd : pm_dec G mi pc = some (.ifCond .le off)) (h0 : 0 ≤ (pc : Int) + off) (ht : ((pc : Int) + off).toNat = t) (hx : x.toInt = a) (kt : a ≤ 0 → pmE G X tyl cl d mi t ls st w Q) (kf : 0 < a → pmE G X tyl cl d mi (pc + 3) ls st w Q) : pmE G X tyl cl d mi pc ls (.int x :: st) w Q := by
  subst hx
  have e0 : (0 : Int32).toInt = 0 := by decide +kernel
  refine pe_if_le hd h0 ht (fun h => kt ?_) (fun h => kf ?_) <;> rw [Int32.le_iff_toInt_le, e0] at h <;> omega
theorem pz_iald {k n : Nat} {xs : List Int32} (hd : pm_dec G mi pc = some .iaload) (h : w[k]? = some (.inl (0, .inl xs))) (hn : xs.length = n) (hx : x.toInt = a) (h0 : 0 ≤ a) (h1 : a < n) (kk : ∀ v : Int32, v = xs.getD a.toNat 0 → pmE G X tyl cl d mi (pc + 1) ls (.int v :: st) w Q) : pmE G X tyl cl d mi pc ls (.int x :: .ref k :: st) w Q := by
  subst hn
  refine pe_iald hd h (zi_in hx h0 h1) (kk _ ?_)
  rw [zi_cl hx]
theorem pz_iast {k n : Nat} {v : Int32} {xs : List Int32} {w' : pm_W} (hd : pm_dec G mi pc = some .iastore) (h : w[k]? = some (.inl (0, .inl xs))) (hn : xs.length = n) (hx : x.toInt = a) (h0 : 0 ≤ a) (h1 : a < n) (hw : w.set k (.inl (0, .inl (xs.set a.toNat v))) = w') (kk : pmE G X tyl cl d mi (pc + 1) ls st w' Q) : pmE G X tyl cl d mi pc ls (.int v :: .int x :: .ref k :: st) w Q := by
  subst hn
  refine pe_iast hd h (zi_in hx h0 h1) ?_ kk
  rw [zi_cl hx]
  exact hw
end ZR
section WR
variable {G : pm_G} {X : pm_X} {tyl : List FieldType} {cl : List vw_C} {d mi pc : Nat} {ls ls' st : List Value} {w : pm_W} {Q : pm_R → Prop} {x y : Int32} {a b : Int}
theorem pw_add (hd : pm_dec G mi pc = some .iadd) (k : ∀ z : Int32, pmE G X tyl cl d mi (pc + 1) ls (.int z :: st) w Q) : pmE G X tyl cl d mi pc ls (.int y :: .int x :: st) w Q := pe_iadd hd (k _)
theorem pw_sub (hd : pm_dec G mi pc = some .isub) (k : ∀ z : Int32, pmE G X tyl cl d mi (pc + 1) ls (.int z :: st) w Q) : pmE G X tyl cl d mi pc ls (.int y :: .int x :: st) w Q := pe_isub hd (k _)
theorem pw_mul (hd : pm_dec G mi pc = some .imul) (k : ∀ z : Int32, pmE G X tyl cl d mi (pc + 1) ls (.int z :: st) w Q) : pmE G X tyl cl d mi pc ls (.int y :: .int x :: st) w Q := pe_imul hd (k _)
theorem pw_and (hd : pm_dec G mi pc = some .iand) (k : ∀ z : Int32, pmE G X tyl cl d mi (pc + 1) ls (.int z :: st) w Q) : pmE G X tyl cl d mi pc ls (.int y :: .int x :: st) w Q := pe_iand hd (k _)
theorem pw_or (hd : pm_dec G mi pc = some .ior) (k : ∀ z : Int32, pmE G X tyl cl d mi (pc + 1) ls (.int z :: st) w Q) : pmE G X tyl cl d mi pc ls (.int y :: .int x :: st) w Q := pe_ior hd (k _)
theorem pw_xor (hd : pm_dec G mi pc = some .ixor) (k : ∀ z : Int32, pmE G X tyl cl d mi (pc + 1) ls (.int z :: st) w Q) : pmE G X tyl cl d mi pc ls (.int y :: .int x :: st) w Q := pe_ixor hd (k _)
theorem pw_shl (hd : pm_dec G mi pc = some .ishl) (k : ∀ z : Int32, pmE G X tyl cl d mi (pc + 1) ls (.int z :: st) w Q) : pmE G X tyl cl d mi pc ls (.int y :: .int x :: st) w Q := pe_ishl hd (k _)
theorem pw_shr (hd : pm_dec G mi pc = some .ishr) (k : ∀ z : Int32, pmE G X tyl cl d mi (pc + 1) ls (.int z :: st) w Q) : pmE G X tyl cl d mi pc ls (.int y :: .int x :: st) w Q := pe_ishr hd (k _)
theorem pw_ushr (hd : pm_dec G mi pc = some .iushr) (k : ∀ z : Int32, pmE G X tyl cl d mi (pc + 1) ls (.int z :: st) w Q) : pmE G X tyl cl d mi pc ls (.int y :: .int x :: st) w Q := pe_iushr hd (k _)
theorem pw_neg (hd : pm_dec G mi pc = some .ineg) (k : ∀ z : Int32, pmE G X tyl cl d mi (pc + 1) ls (.int z :: st) w Q) : pmE G X tyl cl d mi pc ls (.int x :: st) w Q := pe_ineg hd (k _)
theorem pz_and1 (hd : pm_dec G mi pc = some .iand) (k : ∀ z : Int32, 0 ≤ z.toInt ∧ z.toInt ≤ 1 → pmE G X tyl cl d mi (pc + 1) ls (.int z :: st) w Q) : pmE G X tyl cl d mi pc ls (.int 1 :: .int x :: st) w Q := by
  refine pe_iand hd (k _ ?_)
  obtain ⟨j, hj, e⟩ := pk_andE x (m := 1) 1 (by decide +kernel)
  rw [e, nI_toInt (by omega)]
  omega
theorem zi_nat {x : Int32} {a : Int} (hx : x.toInt = a) (h0 : 0 ≤ a) : x = nI a.toNat ∧ a.toNat < 2 ^ 31 := by
  have h2 := zi_hi x
  have hlt : a.toNat < 2 ^ 31 := by
    have e : (2 ^ 31 : Nat) = 2147483648 := by decide
    omega
  refine ⟨?_, hlt⟩
  rw [← Int32.toInt_inj, nI_toInt hlt]
  omega
theorem pz_rem (hd : pm_dec G mi pc = some .irem) (hx : x.toInt = a) (hy : y.toInt = b) (h0 : 0 ≤ a) (hb : 0 < b) (k : ∀ z : Int32, z.toInt = a % b → 0 ≤ z.toInt → z.toInt < b → pmE G X tyl cl d mi (pc + 1) ls (.int z :: st) w Q) : pmE G X tyl cl d mi pc ls (.int y :: .int x :: st) w Q := by
  obtain ⟨ex, hxl⟩ := zi_nat hx h0
  obtain ⟨ey, hyl⟩ := zi_nat hy (by omega)
  have hy0 : ¬ y = 0 := by
    intro h
    rw [h] at hy
    have : (0 : Int32).toInt = 0 := by decide +kernel
    omega
  refine pe_irem hd hy0 ?_
  have e : x - x / y * y = nI (a.toNat % b.toNat) := by
    rw [ex, ey]
    exact pk_rem hxl (by omega) hyl
  have hm : a.toNat % b.toNat < b.toNat := Nat.mod_lt _ (by omega)
  have et : (nI (a.toNat % b.toNat)).toInt = a % b := by
    rw [nI_toInt (by omega)]
    have : ((a.toNat % b.toNat : Nat) : Int) = (a.toNat : Int) % (b.toNat : Int) := Int.natCast_emod _ _
    rw [this, Int.toNat_of_nonneg h0, Int.toNat_of_nonneg (by omega)]
  rw [e]
  exact k _ et (by rw [et]; exact Int.emod_nonneg _ (by omega)) (by rw [et]; exact Int.emod_lt_of_pos _ hb)
theorem pz_div (hd : pm_dec G mi pc = some .idiv) (hx : x.toInt = a) (hy : y.toInt = b) (h0 : 0 ≤ a) (hb : 0 < b) (k : ∀ z : Int32, z.toInt = a / b → pmE G X tyl cl d mi (pc + 1) ls (.int z :: st) w Q) : pmE G X tyl cl d mi pc ls (.int y :: .int x :: st) w Q := by
  obtain ⟨ex, hxl⟩ := zi_nat hx h0
  obtain ⟨ey, hyl⟩ := zi_nat hy (by omega)
  have hy0 : ¬ y = 0 := by
    intro h
    rw [h] at hy
    have : (0 : Int32).toInt = 0 := by decide +kernel
    omega
  refine pe_idiv hd hy0 ?_
  have e : x / y = nI (a.toNat / b.toNat) := by
    rw [ex, ey]
    exact pk_div hxl (by omega) hyl
  have hm : a.toNat / b.toNat ≤ a.toNat := Nat.div_le_self _ _
  have et : (nI (a.toNat / b.toNat)).toInt = a / b := by
    rw [nI_toInt (by omega)]
    have : ((a.toNat / b.toNat : Nat) : Int) = (a.toNat : Int) / (b.toNat : Int) := Int.natCast_ediv _ _
    rw [this, Int.toNat_of_nonneg h0, Int.toNat_of_nonneg (by omega)]
  rw [e]
  exact k _ et
theorem pw_iinc {j : Nat} {n : Int} (hd : pm_dec G mi pc = some (.iinc j n)) (h : ls[j]? = some (.int x)) (k : ∀ z : Int32, pmE G X tyl cl d mi (pc + 3) (pm_st1 ls j (.int z)) st w Q) : pmE G X tyl cl d mi pc ls st w Q := pe_iinc hd h rfl (k _)
theorem pz_shrl {n p : Nat} (hd : pm_dec G mi pc = some .ishr) (hx : x.toInt = a) (hs : ((y &&& 31).toBitVec.smod 32).toNat = n) (hp : 2 ^ n = p) (h0 : 0 ≤ a) (k : ∀ z : Int32, z.toInt = a / (p : Int) → pmE G X tyl cl d mi (pc + 1) ls (.int z :: st) w Q) : pmE G X tyl cl d mi pc ls (.int y :: .int x :: st) w Q := by
  obtain ⟨ex, hxl⟩ := zi_nat hx h0
  refine pe_ishr hd ?_
  have e : x >>> (y &&& 31) = nI (a.toNat / p) := by
    rw [ex, pk_shrN hxl _ n hs, hp]
  rw [e]
  refine k _ ?_
  have hm : a.toNat / p ≤ a.toNat := Nat.div_le_self _ _
  rw [nI_toInt (by omega)]
  have : ((a.toNat / p : Nat) : Int) = (a.toNat : Int) / (p : Int) := Int.natCast_ediv _ _
  rw [this, Int.toNat_of_nonneg h0]
theorem pz_ushr16 (hd : pm_dec G mi pc = some .iushr) (k : ∀ z : Int32, 0 ≤ z.toInt ∧ z.toInt ≤ 65535 → pmE G X tyl cl d mi (pc + 1) ls (.int z :: st) w Q) : pmE G X tyl cl d mi pc ls (.int 16 :: .int x :: st) w Q := by
  refine pe_iushr hd (k _ ?_)
  have hn : x = nI x.toBitVec.toNat := by
    apply Int32.toBitVec_inj.mp
    show x.toBitVec = (Int32.ofNat x.toBitVec.toNat).toBitVec
    simp
  rw [hn, pk_ushrN (by exact x.toBitVec.isLt) 16 16 (by decide +kernel)]
  have hlt := x.toBitVec.isLt
  have e : (2 ^ 32 : Nat) = 4294967296 := by decide
  have e2 : (2 ^ 16 : Nat) = 65536 := by decide
  rw [e2, nI_toInt (by have e3 : (2 ^ 31 : Nat) = 2147483648 := by decide
                       omega)]
  omega
theorem zi_lt9 {y : Int32} {b : Int} (hy : y.toInt = b) (h0 : 0 ≤ b) (h1 : b ≤ 8) : y = 0 ∨ y = 1 ∨ y = 2 ∨ y = 3 ∨ y = 4 ∨ y = 5 ∨ y = 6 ∨ y = 7 ∨ y = 8 := by
  have e0 : (0 : Int32).toInt = 0 := by decide +kernel
  have e1 : (1 : Int32).toInt = 1 := by decide +kernel
  have e2 : (2 : Int32).toInt = 2 := by decide +kernel
  have e3 : (3 : Int32).toInt = 3 := by decide +kernel
  have e4 : (4 : Int32).toInt = 4 := by decide +kernel
  have e5 : (5 : Int32).toInt = 5 := by decide +kernel
  have e6 : (6 : Int32).toInt = 6 := by decide +kernel
  have e7 : (7 : Int32).toInt = 7 := by decide +kernel
  have e8 : (8 : Int32).toInt = 8 := by decide +kernel
  simp only [← Int32.toInt_inj, e0, e1, e2, e3, e4, e5, e6, e7, e8]
  omega
theorem pz_shl1 (hd : pm_dec G mi pc = some .ishl) (hy : y.toInt = b) (h0 : 0 ≤ b) (h1 : b ≤ 8) (k : ∀ z : Int32, 1 ≤ z.toInt ∧ z.toInt ≤ 256 → pmE G X tyl cl d mi (pc + 1) ls (.int z :: st) w Q) : pmE G X tyl cl d mi pc ls (.int y :: .int 1 :: st) w Q := by
  refine pe_ishl hd (k _ ?_)
  rcases zi_lt9 hy h0 h1 with rfl | rfl | rfl | rfl | rfl | rfl | rfl | rfl | rfl <;> decide +kernel
theorem pz_or9 (hd : pm_dec G mi pc = some .ior) (hx : x.toInt = a) (hy : y.toInt = b) (h0 : 0 ≤ a) (h1 : a ≤ 511) (h2 : 0 ≤ b) (h3 : b ≤ 511) (k : ∀ z : Int32, a ≤ z.toInt ∧ b ≤ z.toInt ∧ z.toInt ≤ 511 → pmE G X tyl cl d mi (pc + 1) ls (.int z :: st) w Q) : pmE G X tyl cl d mi pc ls (.int y :: .int x :: st) w Q := by
  refine pe_ior hd (k _ ?_)
  obtain ⟨ex, hxl⟩ := zi_nat hx h0
  obtain ⟨ey, hyl⟩ := zi_nat hy h2
  have e31 : (2 ^ 31 : Nat) = 2147483648 := by decide
  have e32 : (2 ^ 32 : Nat) = 4294967296 := by decide
  have hlt : a.toNat ||| b.toNat < 2 ^ 9 := Nat.or_lt_two_pow (by omega) (by omega)
  have e9 : (2 ^ 9 : Nat) = 512 := by decide
  have e : x ||| y = nI (a.toNat ||| b.toNat) := by
    apply Int32.toBitVec_inj.mp
    apply BitVec.eq_of_toNat_eq
    rw [show (x ||| y).toBitVec = x.toBitVec ||| y.toBitVec from rfl, BitVec.toNat_or, ex, ey, pk_tn (by omega), pk_tn (by omega), pk_tn (by omega)]
  rw [e, nI_toInt (by omega)]
  have l1 : a.toNat ≤ a.toNat ||| b.toNat := Nat.left_le_or
  have l2 : b.toNat ≤ a.toNat ||| b.toNat := Nat.right_le_or
  omega
theorem nz_b {x : Int32} (h : 0 ≤ x.toInt ∧ x.toInt ≤ 1) : narrow .boolean (.int x) = .int x := by
  have : x = 0 ∨ x = 1 := by
    have e0 : (0 : Int32).toInt = 0 := by decide +kernel
    have e1 : (1 : Int32).toInt = 1 := by decide +kernel
    rw [← Int32.toInt_inj, ← Int32.toInt_inj, e0, e1]
    omega
  rcases this with rfl | rfl <;> decide +kernel
theorem pw_lmul {u v : Int64} (hd : pm_dec G mi pc = some .lmul) (k : ∀ z : Int64, pmE G X tyl cl d mi (pc + 1) ls (.long z :: st) w Q) : pmE G X tyl cl d mi pc ls (.long v :: .long u :: st) w Q := pe_lmul hd (k _)
theorem pw_i2l (hd : pm_dec G mi pc = some .i2l) (k : ∀ z : Int64, pmE G X tyl cl d mi (pc + 1) ls (.long z :: st) w Q) : pmE G X tyl cl d mi pc ls (.int x :: st) w Q := pe_i2l hd (k _)
theorem pw_lcmp {u v : Int64} (hd : pm_dec G mi pc = some .lcmp) (k : ∀ z : Int32, pmE G X tyl cl d mi (pc + 1) ls (.int z :: st) w Q) : pmE G X tyl cl d mi pc ls (.long v :: .long u :: st) w Q := pe_lcmp hd (k _)
theorem pw_lconst {n : Fin 2} (hd : pm_dec G mi pc = some (.lconst n)) (k : ∀ z : Int64, pmE G X tyl cl d mi (pc + 1) ls (.long z :: st) w Q) : pmE G X tyl cl d mi pc ls st w Q := pe_lconst hd (k _)
theorem pw_ldc2 {j : Nat} {v : Int64} (hd : pm_dec G mi pc = some (.ldc2_w j)) (h : pm_ld2 G mi j = some v) (k : ∀ z : Int64, pmE G X tyl cl d mi (pc + 3) ls (.long z :: st) w Q) : pmE G X tyl cl d mi pc ls st w Q := pe_ldc2 hd h (k _)
end WR
