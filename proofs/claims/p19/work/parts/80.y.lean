/-! ===== more rules: bytes, booleans, copies, greatest and least ===== -/
section YZ
variable {G : pm_G} {X : pm_X} {tyl : List FieldType} {cl : List vw_C} {d mi pc : Nat} {ls st : List Value} {w : pm_W} {Q : pm_R → Prop} {x y : Int32} {a b : Int}
theorem pz_bald {k n : Nat} {xs : List Int32} (hd : pm_dec G mi pc = some .baload) (h : w[k]? = some (.inl (1, .inl xs))) (hn : xs.length = n) (hx : x.toInt = a) (h0 : 0 ≤ a) (h1 : a < n) (kk : ∀ v : Int32, v = xs.getD a.toNat 0 → pmE G X tyl cl d mi (pc + 1) ls (.int v :: st) w Q) : pmE G X tyl cl d mi pc ls (.int x :: .ref k :: st) w Q := by
  subst hn
  have h2 : pm_iald X 1 pc ls (.int x :: .ref k :: st) w = some (pc + 1, ls, .int (xs.getD x.toNatClampNeg 0) :: st, w) := by
    unfold pm_iald
    simp only [h, pm_in_of (zi_in hx h0 h1), and_self, if_true]
  exact pmE.one hd (by simp only [pm_one, h2, pm_oc]) (kk (xs.getD x.toNatClampNeg 0) (by rw [zi_cl hx]))
theorem pz_zald {k n : Nat} {xs : List Int32} (hd : pm_dec G mi pc = some .baload) (h : w[k]? = some (.inl (2, .inl xs))) (hn : xs.length = n) (hx : x.toInt = a) (h0 : 0 ≤ a) (h1 : a < n) (kk : ∀ v : Int32, v = xs.getD a.toNat 0 → pmE G X tyl cl d mi (pc + 1) ls (.int v :: st) w Q) : pmE G X tyl cl d mi pc ls (.int x :: .ref k :: st) w Q := by
  subst hn
  exact pe_zaldv hd h rfl (pm_in_of (zi_in hx h0 h1)) rfl (kk _ (by rw [zi_cl hx]))
theorem pz_ialdX {j q n : Nat} {xs : List Int32} (hd : pm_dec G mi pc = some .iaload) (h : X j = some (0, xs, q)) (hn : xs.length = n) (hx : x.toInt = a) (h0 : 0 ≤ a) (h1 : a < n) (kk : ∀ v : Int32, v = xs.getD a.toNat 0 → pmE G X tyl cl d mi (pc + 1) ls (.int v :: st) w Q) : pmE G X tyl cl d mi pc ls (.int x :: .retAddr j :: st) w Q := by
  subst hn
  exact pe_ialdX hd h (zi_in hx h0 h1) (kk _ (by rw [zi_cl hx]))
theorem pz_baldX {j q n : Nat} {xs : List Int32} (hd : pm_dec G mi pc = some .baload) (h : X j = some (1, xs, q)) (hn : xs.length = n) (hx : x.toInt = a) (h0 : 0 ≤ a) (h1 : a < n) (kk : ∀ v : Int32, v = xs.getD a.toNat 0 → pmE G X tyl cl d mi (pc + 1) ls (.int v :: st) w Q) : pmE G X tyl cl d mi pc ls (.int x :: .retAddr j :: st) w Q := by
  subst hn
  have h2 : pm_iald X 1 pc ls (.int x :: .retAddr j :: st) w = some (pc + 1, ls, .int (xs.getD x.toNatClampNeg 0) :: st, w) := by
    unfold pm_iald
    simp only [h, pm_in_of (zi_in hx h0 h1), and_self, if_true]
  exact pmE.one hd (by simp only [pm_one, h2, pm_oc]) (kk (xs.getD x.toNatClampNeg 0) (by rw [zi_cl hx]))
theorem pz_bast {k n : Nat} {v : Int32} {xs : List Int32} {w' : pm_W} (hd : pm_dec G mi pc = some .bastore) (h : w[k]? = some (.inl (1, .inl xs))) (hn : xs.length = n) (hx : x.toInt = a) (h0 : 0 ≤ a) (h1 : a < n) (hw : w.set k (.inl (1, .inl (xs.set a.toNat (vp_nar .byte v)))) = w') (kk : pmE G X tyl cl d mi (pc + 1) ls st w' Q) : pmE G X tyl cl d mi pc ls (.int v :: .int x :: .ref k :: st) w Q := by
  subst hn
  refine pe_bast hd h rfl (pm_in_of (zi_in hx h0 h1)) ?_ kk
  rw [zi_cl hx]
  exact hw
theorem pz_zast {k n : Nat} {v : Int32} {xs : List Int32} {w' : pm_W} (hd : pm_dec G mi pc = some .bastore) (h : w[k]? = some (.inl (2, .inl xs))) (hn : xs.length = n) (hx : x.toInt = a) (h0 : 0 ≤ a) (h1 : a < n) (hw : w.set k (.inl (2, .inl (xs.set a.toNat (vp_nar .boolean v)))) = w') (kk : pmE G X tyl cl d mi (pc + 1) ls st w' Q) : pmE G X tyl cl d mi pc ls (.int v :: .int x :: .ref k :: st) w Q := by
  subst hn
  refine pe_zastK hd h rfl (pm_in_of (zi_in hx h0 h1)) (fun w2 e => ?_)
  rw [zi_cl hx, hw] at e
  subst e
  exact kk
theorem nb_rng (v : Int32) : -128 ≤ (vp_nar .byte v).toInt ∧ (vp_nar .byte v).toInt ≤ 127 := by
  rw [vp_nar_byte, Int8.toInt_toInt32]
  have h1 := Int8.le_toInt v.toInt8
  have h2 := Int8.toInt_lt v.toInt8
  omega
theorem nb_rgz (v : Int32) : 0 ≤ (vp_nar .boolean v).toInt ∧ (vp_nar .boolean v).toInt ≤ 1 := by
  have e : vp_nar .boolean v = v &&& 1 := rfl
  rw [e]
  obtain ⟨j, hj, e⟩ := pk_andE v (m := 1) 1 (by decide +kernel)
  rw [e, nI_toInt (by omega)]
  omega
theorem pw_rem (hd : pm_dec G mi pc = some .irem) (h : ¬ y = 0) (k : ∀ z : Int32, pmE G X tyl cl d mi (pc + 1) ls (.int z :: st) w Q) : pmE G X tyl cl d mi pc ls (.int y :: .int x :: st) w Q := pe_irem hd h (k _)
theorem pw_div (hd : pm_dec G mi pc = some .idiv) (h : ¬ y = 0) (k : ∀ z : Int32, pmE G X tyl cl d mi (pc + 1) ls (.int z :: st) w Q) : pmE G X tyl cl d mi pc ls (.int y :: .int x :: st) w Q := pe_idiv hd h (k _)
theorem pw_i2b (hd : pm_dec G mi pc = some .i2b) (k : ∀ z : Int32, -128 ≤ z.toInt ∧ z.toInt ≤ 127 → pmE G X tyl cl d mi (pc + 1) ls (.int z :: st) w Q) : pmE G X tyl cl d mi pc ls (.int x :: st) w Q := pe_i2b hd (k _ (by rw [← vp_nar_byte]; exact nb_rng x))
theorem pz_shl6 (hd : pm_dec G mi pc = some .ishl) (hy : y.toInt = b) (h0 : 0 ≤ b) (h1 : b ≤ 6) (k : ∀ z : Int32, 1 ≤ z.toInt ∧ z.toInt ≤ 64 → pmE G X tyl cl d mi (pc + 1) ls (.int z :: st) w Q) : pmE G X tyl cl d mi pc ls (.int y :: .int 1 :: st) w Q := by
  refine pe_ishl hd (k _ ?_)
  have e7 : (7 : Int32).toInt = 7 := by decide +kernel
  have e8 : (8 : Int32).toInt = 8 := by decide +kernel
  rcases zi_lt9 hy h0 (by omega) with rfl | rfl | rfl | rfl | rfl | rfl | rfl | rfl | rfl <;> first | decide +kernel | omega
theorem pz_shl7 (hd : pm_dec G mi pc = some .ishl) (hy : y.toInt = b) (h0 : 0 ≤ b) (h1 : b ≤ 7) (k : ∀ z : Int32, 1 ≤ z.toInt ∧ z.toInt ≤ 128 → pmE G X tyl cl d mi (pc + 1) ls (.int z :: st) w Q) : pmE G X tyl cl d mi pc ls (.int y :: .int 1 :: st) w Q := by
  refine pe_ishl hd (k _ ?_)
  have e8 : (8 : Int32).toInt = 8 := by decide +kernel
  rcases zi_lt9 hy h0 (by omega) with rfl | rfl | rfl | rfl | rfl | rfl | rfl | rfl | rfl <;> first | decide +kernel | omega
theorem pz_or7 (hd : pm_dec G mi pc = some .ior) (hx : x.toInt = a) (hy : y.toInt = b) (h0 : 0 ≤ a) (h1 : a ≤ 127) (h2 : 0 ≤ b) (h3 : b ≤ 127) (k : ∀ z : Int32, a ≤ z.toInt ∧ b ≤ z.toInt ∧ z.toInt ≤ 127 → pmE G X tyl cl d mi (pc + 1) ls (.int z :: st) w Q) : pmE G X tyl cl d mi pc ls (.int y :: .int x :: st) w Q := by
  refine pe_ior hd (k _ ?_)
  obtain ⟨ex, hxl⟩ := zi_nat hx h0
  obtain ⟨ey, hyl⟩ := zi_nat hy h2
  have e31 : (2 ^ 31 : Nat) = 2147483648 := by decide
  have e32 : (2 ^ 32 : Nat) = 4294967296 := by decide
  have hlt : a.toNat ||| b.toNat < 2 ^ 7 := Nat.or_lt_two_pow (by omega) (by omega)
  have e9 : (2 ^ 7 : Nat) = 128 := by decide
  have e : x ||| y = nI (a.toNat ||| b.toNat) := by
    apply Int32.toBitVec_inj.mp
    apply BitVec.eq_of_toNat_eq
    rw [show (x ||| y).toBitVec = x.toBitVec ||| y.toBitVec from rfl, BitVec.toNat_or, ex, ey, pk_tn (by omega), pk_tn (by omega), pk_tn (by omega)]
  rw [e, nI_toInt (by omega)]
  have l1 := @Nat.left_le_or a.toNat b.toNat
  have l2 := @Nat.right_le_or a.toNat b.toNat
  omega
theorem pz_and255 (hd : pm_dec G mi pc = some .iand) (k : ∀ z : Int32, 0 ≤ z.toInt ∧ z.toInt ≤ 255 → pmE G X tyl cl d mi (pc + 1) ls (.int z :: st) w Q) : pmE G X tyl cl d mi pc ls (.int 255 :: .int x :: st) w Q := by
  refine pe_iand hd (k _ ?_)
  obtain ⟨j, hj, e⟩ := pk_andE x (m := 255) 8 (by decide +kernel)
  rw [e, nI_toInt (by omega)]
  omega
theorem pz_i2c (hd : pm_dec G mi pc = some .i2c) (hx : x.toInt = a) (h0 : 0 ≤ a) (h1 : a ≤ 65535) (k : ∀ z : Int32, z = x → pmE G X tyl cl d mi (pc + 1) ls (.int z :: st) w Q) : pmE G X tyl cl d mi pc ls (.int x :: st) w Q := by
  refine pe_i2c hd (k _ ?_)
  obtain ⟨e, hl⟩ := zi_nat hx h0
  rw [e]
  apply Int32.toBitVec_inj.mp
  apply BitVec.eq_of_toNat_eq
  have e31 : (2 ^ 31 : Nat) = 2147483648 := by decide
  have e32 : (2 ^ 32 : Nat) = 4294967296 := by decide
  have h2 : (nI a.toNat).toBitVec.toNat = a.toNat := pk_tn (by omega)
  show ((nI a.toNat).toUInt32 % 65536).toBitVec.toNat = _
  rw [UInt32.toBitVec_mod, BitVec.toNat_umod]
  show (nI a.toNat).toBitVec.toNat % 65536 = _
  rw [h2]
  omega
theorem nz_c {x : Int32} (h : 0 ≤ x.toInt ∧ x.toInt ≤ 255) : narrow .char (.int x) = .int x := by
  have e : narrow .char (.int x) = .int (vp_nar .char x) := rfl
  rw [e, vp_nar_char]
  obtain ⟨e2, hl⟩ := zi_nat (a := x.toInt) rfl h.1
  congr 1
  apply Int32.toBitVec_inj.mp
  apply BitVec.eq_of_toNat_eq
  have e31 : (2 ^ 31 : Nat) = 2147483648 := by decide
  have e32 : (2 ^ 32 : Nat) = 4294967296 := by decide
  have h2 : x.toBitVec.toNat = x.toInt.toNat := by
    conv => lhs; rw [e2]
    exact pk_tn (by omega)
  show (x.toUInt32.toUInt16.toUInt32).toNat = _
  rw [UInt16.toNat_toUInt32, UInt32.toNat_toUInt16]
  show x.toBitVec.toNat % 2 ^ 16 = x.toBitVec.toNat
  rw [h2]
  omega
theorem pz_max {j : Nat} {c : Int} (hd : pm_dec G mi pc = some (.invokestatic j)) (hl : pm_nat G mi j = some 1) (h8 : pm_sum st ≤ 8) (hx : x.toInt = a) (hy : y.toInt = b) (h1 : a ≤ c) (h2 : b ≤ c) (k : ∀ z : Int32, a ≤ z.toInt ∧ b ≤ z.toInt ∧ z.toInt ≤ c → pmE G X tyl cl d mi (pc + 3) ls (.int z :: st) w Q) : pmE G X tyl cl d mi pc ls (.int y :: .int x :: st) w Q := by
  refine pe_mmax hd hl h8 (k _ ?_)
  by_cases h : x < y
  · rw [if_pos h]
    rw [Int32.lt_iff_toInt_lt] at h
    omega
  · rw [if_neg h]
    rw [Int32.lt_iff_toInt_lt] at h
    omega
theorem pz_min {j : Nat} {c : Int} (hd : pm_dec G mi pc = some (.invokestatic j)) (hl : pm_nat G mi j = some 2) (h8 : pm_sum st ≤ 8) (hx : x.toInt = a) (hy : y.toInt = b) (h1 : c ≤ a) (h2 : c ≤ b) (k : ∀ z : Int32, z.toInt ≤ a ∧ z.toInt ≤ b ∧ c ≤ z.toInt → pmE G X tyl cl d mi (pc + 3) ls (.int z :: st) w Q) : pmE G X tyl cl d mi pc ls (.int y :: .int x :: st) w Q := by
  refine pe_mmin hd hl h8 (k _ ?_)
  by_cases h : y < x
  · rw [if_pos h]
    rw [Int32.lt_iff_toInt_lt] at h
    omega
  · rw [if_neg h]
    rw [Int32.lt_iff_toInt_lt] at h
    omega
theorem pw_max {j : Nat} (hd : pm_dec G mi pc = some (.invokestatic j)) (hl : pm_nat G mi j = some 1) (h8 : pm_sum st ≤ 8) (k : ∀ z : Int32, pmE G X tyl cl d mi (pc + 3) ls (.int z :: st) w Q) : pmE G X tyl cl d mi pc ls (.int y :: .int x :: st) w Q := pe_mmax hd hl h8 (k _)
theorem pw_min {j : Nat} (hd : pm_dec G mi pc = some (.invokestatic j)) (hl : pm_nat G mi j = some 2) (h8 : pm_sum st ≤ 8) (k : ∀ z : Int32, pmE G X tyl cl d mi (pc + 3) ls (.int z :: st) w Q) : pmE G X tyl cl d mi pc ls (.int y :: .int x :: st) w Q := pe_mmin hd hl h8 (k _)
theorem pw_abs {j : Nat} (hd : pm_dec G mi pc = some (.invokestatic j)) (hl : pm_nat G mi j = some 3) (h8 : pm_sum st ≤ 8) (k : ∀ z : Int32, pmE G X tyl cl d mi (pc + 3) ls (.int z :: st) w Q) : pmE G X tyl cl d mi pc ls (.int x :: st) w Q := pe_mabs hd hl h8 (k _)
theorem pe_topV {u v : Value} (hv : u = v) (k : pmE G X tyl cl d mi pc ls (v :: st) w Q) : pmE G X tyl cl d mi pc ls (u :: st) w Q := by
  rw [hv]
  exact k
theorem pz_aald {q t n : Nat} {i : Nat} {C : String} {xs : List (Option Nat)} {k : Nat} (hd : pm_dec G mi pc = some .aaload) (h : w[k]? = some (.inl (t, .inr (.inr xs)))) (ht : tyl[t]? = some (.object C)) (hn : xs.length = n) (hx : x.toInt = a) (ha : a = i) (hi : i < n) (hv : xs.getD i none = some q) (kk : pmE G X tyl cl d mi (pc + 1) ls (.ref q :: st) w Q) : pmE G X tyl cl d mi pc ls (.int x :: .ref k :: st) w Q := by
  refine pe_aald hd h ht (zi_in hx (by omega) (by rw [hn]; omega)) ?_
  rw [zi_cl hx, ha, Int.toNat_natCast, hv]
  exact kk
theorem pz_copy {j k0 k1 t : Nat} {xs ys : List Int32} {sp dp n : Int32} {c : Int} {w' : pm_W} (hd : pm_dec G mi pc = some (.invokestatic j)) (hl : pm_nat G mi j = some 0) (h8 : pm_sum st ≤ 8) (hw0 : w[k0]? = some (.inl (t, .inl xs))) (hw1 : w[k1]? = some (.inl (t, .inl ys))) (ht : t < 2) (hsp : sp.toInt = a) (hdp : dp.toInt = b) (hn : n.toInt = c) (ha : 0 ≤ a) (hb : 0 ≤ b) (hc : 0 ≤ c) (hac : a + c ≤ xs.length) (hbc : b + c ≤ ys.length) (hf : t = 0 ∨ ∀ i, fits .byte (.int (xs.getD i 0)) = true) (hw : w.set k1 (.inl (t, .inl (pm_cpy xs ys a.toNat b.toNat c.toNat))) = w') (k : pmE G X tyl cl d mi (pc + 3) ls st w' Q) : pmE G X tyl cl d mi pc ls (.int n :: .int dp :: .ref k1 :: .int sp :: .ref k0 :: st) w Q := by
  refine pmE.one hd (i := .invokestatic j) ?_ k
  have e0 : (0 : Int32).toInt = 0 := by decide +kernel
  have n1 : ¬ sp < 0 := by rw [Int32.lt_iff_toInt_lt]; omega
  have n2 : ¬ dp < 0 := by rw [Int32.lt_iff_toInt_lt]; omega
  have n3 : ¬ n < 0 := by rw [Int32.lt_iff_toInt_lt]; omega
  simp only [pm_one, hl, pm_copy, hw0, hw1]
  rw [if_pos]
  · rw [zi_cl hsp, zi_cl hdp, zi_cl hn, hw]
  · refine ⟨trivial, ht, n1, n2, n3, ?_, ?_, ?_, h8⟩
    · rw [zi_cl hsp, zi_cl hn]; omega
    · rw [zi_cl hdp, zi_cl hn]; omega
    · rcases hf with hf | hf
      · exact Or.inl hf
      · refine Or.inr (List.all_eq_true.mpr (fun x hx => ?_))
        have h1 := List.mem_of_mem_drop (List.mem_of_mem_take hx)
        obtain ⟨i, hi, e⟩ := List.mem_iff_getElem.mp h1
        have h2 := hf i
        rw [List.getD_eq_getElem?_getD, List.getElem?_eq_getElem hi, Option.getD_some, e] at h2
        exact h2
theorem cpy_len {xs ys : List Int32} {sp dp n : Nat} (h1 : sp + n ≤ xs.length) (h2 : dp + n ≤ ys.length) : (pm_cpy xs ys sp dp n).length = ys.length := by
  unfold pm_cpy
  simp only [List.length_append, List.length_take, List.length_drop]
  omega
theorem cpy_get {xs ys : List Int32} {sp dp n : Nat} (h1 : sp + n ≤ xs.length) (h2 : dp + n ≤ ys.length) (i : Nat) : (pm_cpy xs ys sp dp n).getD i 0 = if dp ≤ i ∧ i < dp + n then xs.getD (sp + (i - dp)) 0 else ys.getD i 0 := by
  unfold pm_cpy
  simp only [List.getD_eq_getElem?_getD, List.getElem?_append, List.length_append, List.length_take, List.length_drop, List.getElem?_take, List.getElem?_drop]
  by_cases c1 : i < dp
  · rw [if_pos (by omega), if_pos (by omega), if_pos c1, if_neg (by omega)]
  · by_cases c2 : i < dp + n
    · rw [if_pos (by omega), if_neg (by omega), if_pos (by omega), if_pos (by omega)]
      congr 2
      omega
    · rw [if_neg (by omega), if_neg (by omega)]
      congr 2
      omega
theorem cpy_P {P : Nat → Int32 → Prop} {xs ys : List Int32} {sp dp n : Nat} (h1 : sp + n ≤ xs.length) (h2 : dp + n ≤ ys.length) (hx : ∀ i, i < n → P (dp + i) (xs.getD (sp + i) 0)) (hy : ∀ i, P i (ys.getD i 0)) (i : Nat) : P i ((pm_cpy xs ys sp dp n).getD i 0) := by
  rw [cpy_get h1 h2]
  by_cases c : dp ≤ i ∧ i < dp + n
  · rw [if_pos c]
    have h := hx (i - dp) (by omega)
    rw [show dp + (i - dp) = i by omega] at h
    exact h
  · rw [if_neg c]
    exact hy i
theorem fits_b {x : Int32} (h : -128 ≤ x.toInt ∧ x.toInt ≤ 127) : fits .byte (.int x) = true := by
  have e1 : (-128 : Int32).toInt = -128 := by decide +kernel
  have e2 : (127 : Int32).toInt = 127 := by decide +kernel
  simp [fits, Int32.le_iff_toInt_le, e1, e2]
  omega
end YZ
