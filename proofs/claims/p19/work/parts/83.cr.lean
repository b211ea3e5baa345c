/-! ===== rules for the class's runs ===== -/
theorem pm_fit_obj {C : String} {a : Nat} : pm_fit (.object C) (.ref a) = true := by simp [pm_fit, narrow, fits]
theorem pm_fit_ary {t : FieldType} {a : Nat} : pm_fit (.array t) (.ref a) = true := by simp [pm_fit, narrow, fits]
theorem pm_fit_lng {l : Int64} : pm_fit .long (.long l) = true := by simp [pm_fit, narrow, fits]
theorem ct0_m {i : Nat} {x : Int} (h : CT 0 i x) (hi : i % 4 < 2) : 0 ≤ x ∧ x ≤ 8 := h hi
theorem ct1_m {i : Nat} {x : Int} (h : CT 1 i x) (hi : i % 10 = 0) : 0 ≤ x ∧ x ≤ 6 := h.1 hi
theorem ct1_w {i : Nat} {x : Int} (h : CT 1 i x) (hi : 4 ≤ i % 10) : 0 ≤ x ∧ x ≤ 8 := h.2 hi
section YR
variable {G : pm_G} {X : pm_X} {tyl : List FieldType} {cl : List vw_C} {d mi pc : Nat} {ls st : List Value} {w : pm_W} {Q : pm_R → Prop} {x y : Int32} {a b : Int}
theorem pe_getT0 {j k i : Nat} {xs : List Int32} (hd : pm_dec G mi pc = some (.getfield k)) (h : X j = some (2, xs, i)) (hl : pm_gts G mi k = some 0) (kk : pmE G X tyl cl d mi (pc + 3) ls (.int 0 :: st) w Q) : pmE G X tyl cl d mi pc ls (.retAddr j :: st) w Q := pmE.one hd (by simp only [pm_one, h, hl]) kk
theorem pe_getT1 {j k i : Nat} {xs : List Int32} (hd : pm_dec G mi pc = some (.getfield k)) (h : X j = some (2, xs, i)) (hl : pm_gts G mi k = some 1) (kk : pmE G X tyl cl d mi (pc + 3) ls (.retAddr i :: st) w Q) : pmE G X tyl cl d mi pc ls (.retAddr j :: st) w Q := pmE.one hd (by simp only [pm_one, h, hl]) kk
theorem pe_xret {j : Nat} {C : String} (hd : pm_dec G mi pc = some .areturn) (hr : pm_ret G mi = some (.object C)) (k : Q (some (.retAddr j), w, 0, 0)) : pmE G X tyl cl d mi pc ls [.retAddr j] w Q := pmE.ends hd rfl rfl (by simp only [pm_end, hr]) k
theorem cll_T {j mj n a i : Nat} {xs : List Int32} {args st' : List Value} (hcal : pm_cal G mi j = some (mj, n)) (hst : st = args ++ .retAddr a :: st') (hn : args.length = n) (hr : X a = some (2, xs, i)) (hci : (pm_hom G mj == 1000) = true) (hs : pm_sum st' ≤ 8) (hm : (pm_arg (.retAddr a :: args.reverse)).length ≤ pm_max G mj) : pm_cll G X mi (.invokevirtual j) (d + 1) st w = some (mj, d, .retAddr a :: args.reverse, st') := by
  subst hst
  subst hn
  have e1 : (args ++ .retAddr a :: st').drop args.length = .retAddr a :: st' := by simp
  have e2 : (args ++ .retAddr a :: st').take args.length = args := by simp
  have hrc : pm_rcv G X w mj (.retAddr a) = true := by
    unfold pm_rcv
    simp only [hr, hci]
  unfold pm_cll
  simp only [hcal, e1, e2]
  rw [if_pos ⟨hrc, trivial, hs, hm⟩]
end YR
set_option maxRecDepth 100000 in
theorem fill_loop {X : pm_X} {d : Nat} {w0 : pm_W} {k n : Nat} {v : Int32} (hk : k < w0.length) (hn : n ≤ 100000) : ∀ (m : Nat) (i : Int32) (a : Int) (ys : List Int32), i.toInt = a → 0 ≤ a → a ≤ n → ys.length = n → (∀ j, j < a.toNat → ys.getD j 0 = v) → n - a < m → pmE pg X pg_tyl pg_cl d 20 5 [.ref k, .int v, .int i, .int (Int32.ofNat n)] [] (w0.set k (.inl (0, .inl ys))) (fun q => q = (none, w0.set k (.inl (0, .inl (List.replicate n v))), 0, 0)) := by
  have en : (Int32.ofNat n).toInt = (n : Int) := nI_toInt (by omega)
  intro m
  induction m with
  | zero =>
    intro i a ys hi h0 h1 hl hv hm
    omega
  | succ m ih =>
    intro i a ys hi h0 h1 hl hv hm
    have hw : (w0.set k (.inl (0, .inl ys)))[k]? = some (.inl (0, .inl ys)) := List.getElem?_set_self hk
    refine pe_iload_n (j := 2) (by decide +kernel) rfl ?_
    refine pe_iload_n (j := 3) (by decide +kernel) rfl ?_
    refine pz_icmp_ge (off := 13) (t := 20) (by decide +kernel) (by decide) rfl hi en (fun h => ?_) (fun h => ?_)
    · have e : ys = List.replicate n v := by
        apply List.ext_getElem?
        intro j
        by_cases hj : j < n
        · have h2 := hv j (by omega)
          rw [List.getD_eq_getElem?_getD, List.getElem?_eq_getElem (by omega), Option.getD_some] at h2
          rw [List.getElem?_eq_getElem (by omega), h2, List.getElem?_replicate, if_pos hj]
        · rw [List.getElem?_eq_none (by omega), List.getElem?_replicate, if_neg hj]
      rw [e]
      exact pe_vret (by decide +kernel) rfl rfl
    · refine pe_aload_n (j := 0) (by decide +kernel) rfl ?_
      refine pe_iload_n (j := 2) (by decide +kernel) rfl ?_
      refine pe_iload_n (j := 1) (by decide +kernel) rfl ?_
      refine pz_iast (w' := w0.set k (.inl (0, .inl (ys.set a.toNat v)))) (by decide +kernel) hw hl hi h0 h (by rw [List.set_set]) ?_
      refine pz_iinc (j := 2) (n := 1) (by decide +kernel) rfl hi (by decide +kernel) (by omega) (by omega) (fun z hz => ?_)
      refine pe_goto (off := -12) (t := 5) (by decide +kernel) (by decide) rfl ?_
      refine ih z (a + 1) (ys.set a.toNat v) hz (by omega) (by omega) (by rw [List.length_set]; exact hl) (fun j hj => ?_) (by omega)
      by_cases e : a.toNat = j
      · rw [← e]
        exact gz_eq (by omega)
      · rw [gz_ne e]
        exact hv j (by omega)
theorem fill_ok {X : pm_X} {d : Nat} {w0 : pm_W} {k n : Nat} {v : Int32} {xs : List Int32} (hw : w0[k]? = some (.inl (0, .inl xs))) (hl : xs.length = n) (hn : n ≤ 100000) : pmE pg X pg_tyl pg_cl d 20 0 (pm_ent (pm_max pg 20) [.ref k, .int v]) [] w0 (fun q => q = (none, w0.set k (.inl (0, .inl (List.replicate n v))), 0, 0)) := by
  have hk : k < w0.length := (List.getElem?_eq_some_iff.mp hw).1
  have e0 : (0 : Int32).toInt = 0 := by decide +kernel
  have es : w0.set k (.inl (0, .inl xs)) = w0 := by
    have h2 := (List.getElem?_eq_some_iff.mp hw).2
    rw [← h2]
    exact List.set_getElem_self hk
  show pmE pg X pg_tyl pg_cl d 20 0 [.ref k, .int v, pm_dead, pm_dead] [] w0 _
  refine pe_iconstv (n := 0) (v := 0) (by decide +kernel) (by decide +kernel) ?_
  refine pe_istore_n (j := 2) (ls' := [.ref k, .int v, .int 0, pm_dead]) (by decide +kernel) (Nat.le_of_ble_eq_true rfl) rfl ?_
  refine pe_aload_n (j := 0) (by decide +kernel) rfl ?_
  refine pe_alen (by decide +kernel) hw (by decide) ?_
  refine pe_istore_n (j := 3) (ls' := [.ref k, .int v, .int 0, .int (Int32.ofNat xs.length)]) (by decide +kernel) (Nat.le_of_ble_eq_true rfl) rfl ?_
  rw [hl]
  have h := fill_loop (X := X) (d := d) (v := v) hk hn (n + 1) 0 0 xs e0 (by omega) (by omega) hl (fun j hj => absurd hj (by omega)) (by omega)
  rw [es] at h
  exact h
theorem rep_P {P : Int32 → Prop} {n i : Nat} {v : Int32} (h1 : P v) (h0 : P 0) : P ((List.replicate n v).getD i 0) := by
  rw [List.getD_eq_getElem?_getD, List.getElem?_replicate]
  by_cases h : i < n
  · rw [if_pos h]
    exact h1
  · rw [if_neg h]
    exact h0
theorem ct0_z {i : Nat} : CT 0 i (0 : Int32).toInt := fun _ => by decide +kernel
theorem ct3_z {i : Nat} : CT 3 i (0 : Int32).toInt := (by decide +kernel : -1 ≤ (0 : Int32).toInt ∧ (0 : Int32).toInt ≤ 8)
theorem ct3_m {i : Nat} : CT 3 i (-1 : Int32).toInt := (by decide +kernel : -1 ≤ (-1 : Int32).toInt ∧ (-1 : Int32).toInt ≤ 8)
theorem ct4_z {i : Nat} : CT 4 i (0 : Int32).toInt := (by decide +kernel : -1 ≤ (0 : Int32).toInt ∧ (0 : Int32).toInt ≤ 11)
theorem ct4_m {i : Nat} : CT 4 i (-1 : Int32).toInt := (by decide +kernel : -1 ≤ (-1 : Int32).toInt ∧ (-1 : Int32).toInt ≤ 11)
section CF
variable {X : pm_X} {d mi pc : Nat} {ls st : List Value} {wr : pm_W} {f : Nat → Int32} {A : Nat → List Int32} {R : Nat → Value} {Q : pm_R → Prop}
theorem cz_fill {j k n d' : Nat} {v : Int32} {st' : List Value} (hd : pm_dec pg mi pc = some (.invokestatic j)) (hz : pm_nat pg mi j = none) (hc : pm_cll pg X mi (.invokestatic j) d st (cd f A R wr) = some (20, d', [.ref k, .int v], st')) (hw : (cd f A R wr)[k]? = some (.inl (0, .inl (A k)))) (hs : ∀ xs, (cd f A R wr).set k (.inl (0, .inl xs)) = cd f (upa A k xs) R wr) (hI : CI f A R) (hn : (A k).length = n) (hn2 : n ≤ 100000) (ht : ∀ p ∈ ktab, p.1 = k → ∀ i, CT p.2 i ((List.replicate n v).getD i 0).toInt) (kk : ∀ A' : Nat → List Int32, A' = upa A k (List.replicate n v) → CI f A' R → pmE pg X pg_tyl pg_cl d mi (pc + 3) ls st' (cd f A' R wr) Q) : pmE pg X pg_tyl pg_cl d mi pc ls st (cd f A R wr) Q := by
  refine pz_callS hd hz hc (fill_ok hw hn hn2) (fun r w' c m h => ?_)
  cases h
  refine ⟨rfl, rfl, ?_⟩
  rw [hs]
  exact kk _ rfl (ci_arr hI (by rw [List.length_replicate, hn]) ht)
theorem cz_copy {j k0 k1 t L0 L1 : Nat} {sp dp n : Int32} {a b c : Int} (hd : pm_dec pg mi pc = some (.invokestatic j)) (hl : pm_nat pg mi j = some 0) (h8 : pm_sum st ≤ 8) (hw0 : (cd f A R wr)[k0]? = some (.inl (t, .inl (A k0)))) (hw1 : (cd f A R wr)[k1]? = some (.inl (t, .inl (A k1)))) (ht : t < 2) (hs : ∀ xs, (cd f A R wr).set k1 (.inl (t, .inl xs)) = cd f (upa A k1 xs) R wr) (hI : CI f A R) (hl0 : (A k0).length = L0) (hl1 : (A k1).length = L1) (hsp : sp.toInt = a) (hdp : dp.toInt = b) (hn : n.toInt = c) (ha : 0 ≤ a) (hb : 0 ≤ b) (hc : 0 ≤ c) (hac : a + c ≤ L0) (hbc : b + c ≤ L1) (hf : t = 0 ∨ ∀ i, fits .byte (.int ((A k0).getD i 0)) = true) (hP : ∀ p ∈ ktab, p.1 = k1 → ∀ i, i < c.toNat → CT p.2 (b.toNat + i) ((A k0).getD (a.toNat + i) 0).toInt) (kk : ∀ A' : Nat → List Int32, A' = upa A k1 (pm_cpy (A k0) (A k1) a.toNat b.toNat c.toNat) → CI f A' R → pmE pg X pg_tyl pg_cl d mi (pc + 3) ls st (cd f A' R wr) Q) : pmE pg X pg_tyl pg_cl d mi pc ls (.int n :: .int dp :: .ref k1 :: .int sp :: .ref k0 :: st) (cd f A R wr) Q := by
  have g1 : a.toNat + c.toNat ≤ (A k0).length := by omega
  have g2 : b.toNat + c.toNat ≤ (A k1).length := by omega
  refine pz_copy hd hl h8 hw0 hw1 ht hsp hdp hn ha hb hc (by omega) (by omega) hf (hs _) (kk _ rfl (ci_arr hI (cpy_len g1 g2) (fun p hp e i => ?_)))
  refine cpy_P (P := fun i z => CT p.2 i z.toInt) g1 g2 (fun i hi => hP p hp e i hi) (fun i => ?_) i
  rw [← e]
  exact hI.2.2.1 p hp i
end CF
theorem el_eq2 {A A2 : Nat → List Int32} {k a i : Nat} {v : Int32} (e : A2 = upa A k ((A k).set a v)) (ha : a = i) (h : i < (A k).length) : (A2 k).getD i 0 = v := by
  subst ha
  exact el_eq e h
theorem ti_eq {x y : Int32} (h : x.toInt = y.toInt) : x = y := Int32.toInt_inj.mp h
theorem nar_1 : (vp_nar .boolean 1).toInt = 1 := by decide +kernel
theorem nar_0 : (vp_nar .boolean 0).toInt = 0 := by decide +kernel
theorem lt_all {xs : List Int32} {lo hi : Int} (h : xs.all (fun x => decide (lo ≤ x.toInt) && decide (x.toInt ≤ hi)) = true) (h0 : lo ≤ 0 ∧ 0 ≤ hi) (i : Nat) : lo ≤ (xs.getD i 0).toInt ∧ (xs.getD i 0).toInt ≤ hi := by
  rw [List.getD_eq_getElem?_getD]
  by_cases hi2 : i < xs.length
  · rw [List.getElem?_eq_getElem hi2, Option.getD_some]
    have h2 := List.all_eq_true.mp h xs[i] (List.getElem_mem hi2)
    simp at h2
    exact h2
  · rw [List.getElem?_eq_none (by omega), Option.getD_none]
    exact h0
section YM
variable {G : pm_G} {X : pm_X} {tyl : List FieldType} {cl : List vw_C} {d mi pc : Nat} {ls st : List Value} {w : pm_W} {Q : pm_R → Prop} {x y : Int32} {a b : Int}
theorem pz_minL {j : Nat} (hd : pm_dec G mi pc = some (.invokestatic j)) (hl : pm_nat G mi j = some 2) (h8 : pm_sum st ≤ 8) (hx : x.toInt = a) (hy : y.toInt = b) (h1 : a ≤ b) (k : pmE G X tyl cl d mi (pc + 3) ls (.int x :: st) w Q) : pmE G X tyl cl d mi pc ls (.int y :: .int x :: st) w Q := by
  refine pe_mmin hd hl h8 ?_
  rw [if_neg (by rw [Int32.lt_iff_toInt_lt]; omega)]
  exact k
theorem pz_minR {j : Nat} (hd : pm_dec G mi pc = some (.invokestatic j)) (hl : pm_nat G mi j = some 2) (h8 : pm_sum st ≤ 8) (hx : x.toInt = a) (hy : y.toInt = b) (h1 : b < a) (k : pmE G X tyl cl d mi (pc + 3) ls (.int y :: st) w Q) : pmE G X tyl cl d mi pc ls (.int y :: .int x :: st) w Q := by
  refine pe_mmin hd hl h8 ?_
  rw [if_pos (by rw [Int32.lt_iff_toInt_lt]; omega)]
  exact k
end YM
