section PE2
variable {G : pm_G} {X : pm_X} {tyl : List FieldType} {cl : List vw_C} {d mi pc : Nat} {ls ls' st : List Value} {w : pm_W} {Q : pm_R → Prop}
theorem pe_ialdXv {x v : Int32} {j q n : Nat} {xs : List Int32} (hd : pm_dec G mi pc = some .iaload) (h : X j = some (0, xs, q)) (hn : xs.length = n) (hi : pm_in x n = true) (hv : xs.getD x.toNatClampNeg 0 = v) (k : pmE G X tyl cl d mi (pc + 1) ls (.int v :: st) w Q) : pmE G X tyl cl d mi pc ls (.int x :: .retAddr j :: st) w Q := by
  subst hn; subst hv
  exact pe_ialdX hd h (pm_in_ok hi) k
theorem pe_alenXv {v : Int32} {j t q : Nat} {xs : List Int32} (hd : pm_dec G mi pc = some .arraylength) (h : X j = some (t, xs, q)) (ht : t < 2) (hv : Int32.ofNat xs.length = v) (k : pmE G X tyl cl d mi (pc + 1) ls (.int v :: st) w Q) : pmE G X tyl cl d mi pc ls (.retAddr j :: st) w Q := by
  subst hv
  exact pe_alenX hd h ht k
theorem pe_ialdv {x v : Int32} {a n : Nat} {xs : List Int32} (hd : pm_dec G mi pc = some .iaload) (h : w[a]? = some (.inl (0, .inl xs))) (hn : xs.length = n) (hi : pm_in x n = true) (hv : xs.getD x.toNatClampNeg 0 = v) (k : pmE G X tyl cl d mi (pc + 1) ls (.int v :: st) w Q) : pmE G X tyl cl d mi pc ls (.int x :: .ref a :: st) w Q := by
  subst hn; subst hv
  exact pe_iald hd h (pm_in_ok hi) k
theorem pe_bast {x i : Int32} {a n : Nat} {xs : List Int32} {w' : pm_W} (hd : pm_dec G mi pc = some .bastore) (h : w[a]? = some (.inl (1, .inl xs))) (hn : xs.length = n) (hi : pm_in i n = true) (hw : w.set a (.inl (1, .inl (xs.set i.toNatClampNeg (vp_nar .byte x)))) = w') (k : pmE G X tyl cl d mi (pc + 1) ls st w' Q) : pmE G X tyl cl d mi pc ls (.int x :: .int i :: .ref a :: st) w Q := by
  subst hn
  exact pmE.one hd (by simp only [pm_one, pm_iast, h, hi, and_self, if_true, hw, pm_oc]) k
theorem pe_iastv {x i : Int32} {a n : Nat} {xs : List Int32} {w' : pm_W} (hd : pm_dec G mi pc = some .iastore) (h : w[a]? = some (.inl (0, .inl xs))) (hn : xs.length = n) (hi : pm_in i n = true) (hw : w.set a (.inl (0, .inl (xs.set i.toNatClampNeg x))) = w') (k : pmE G X tyl cl d mi (pc + 1) ls st w' Q) : pmE G X tyl cl d mi pc ls (.int x :: .int i :: .ref a :: st) w Q := by
  subst hn
  exact pe_iast hd h (pm_in_ok hi) hw k
theorem pe_top {x v : Int32} (hv : x = v) (k : pmE G X tyl cl d mi pc ls (.int v :: st) w Q) : pmE G X tyl cl d mi pc ls (.int x :: st) w Q := by
  subst hv; exact k
theorem pe_iconstv {n : Int} {v : Int32} (hd : pm_dec G mi pc = some (.iconst n)) (hv : Int32.ofInt n = v) (k : pmE G X tyl cl d mi (pc + 1) ls (.int v :: st) w Q) : pmE G X tyl cl d mi pc ls st w Q := by
  subst hv; exact pe_iconst hd k
theorem pe_bipushv {n : Int} {v : Int32} (hd : pm_dec G mi pc = some (.bipush n)) (hv : (Int8.ofInt n).toInt32 = v) (k : pmE G X tyl cl d mi (pc + 2) ls (.int v :: st) w Q) : pmE G X tyl cl d mi pc ls st w Q := by
  subst hv; exact pe_bipush hd k
theorem pe_sipushv {n : Int} {v : Int32} (hd : pm_dec G mi pc = some (.sipush n)) (hv : (Int16.ofInt n).toInt32 = v) (k : pmE G X tyl cl d mi (pc + 3) ls (.int v :: st) w Q) : pmE G X tyl cl d mi pc ls st w Q := by
  subst hv; exact pe_sipush hd k
theorem pe_iincv {j : Nat} {n : Int} {x v : Int32} (hd : pm_dec G mi pc = some (.iinc j n)) (h : ls[j]? = some (.int x)) (hv : x + Int32.ofInt n = v) (hl : pm_st1 ls j (.int v) = ls') (k : pmE G X tyl cl d mi (pc + 3) ls' st w Q) : pmE G X tyl cl d mi pc ls st w Q := by
  subst hv; exact pe_iinc hd h hl k
end PE2
