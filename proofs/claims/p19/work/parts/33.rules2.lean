theorem pm_fit_int (x : Int32) : pm_fit .int (.int x) = true := by simp [pm_fit, narrow, fits]
section PE2
variable {G : pm_G} {X : pm_X} {tyl : List FieldType} {cl : List vw_C} {d mi pc : Nat} {ls ls' st : List Value} {w : pm_W} {Q : pm_R → Prop}
theorem pe_ialdXv {x v : Int32} {j q n : Nat} {xs : List Int32} (hd : pm_dec G mi pc = some .iaload) (h : X j = some (0, xs, q)) (hn : xs.length = n) (hi : pm_in x n = true) (hv : xs.getD x.toNatClampNeg 0 = v) (k : pmE G X tyl cl d mi (pc + 1) ls (.int v :: st) w Q) : pmE G X tyl cl d mi pc ls (.int x :: .retAddr j :: st) w Q := by
  subst hn; subst hv
  exact pe_ialdX hd h (pm_in_ok hi) k
theorem pe_alenXv {v : Int32} {j t q : Nat} {xs : List Int32} (hd : pm_dec G mi pc = some .arraylength) (h : X j = some (t, xs, q)) (ht : t < 2) (hv : Int32.ofNat xs.length = v) (k : pmE G X tyl cl d mi (pc + 1) ls (.int v :: st) w Q) : pmE G X tyl cl d mi pc ls (.retAddr j :: st) w Q := by
  subst hv
  exact pe_alenX hd h ht k
theorem pe_ialdv {x v : Int32} {a n : Nat} {xs : List Int32} (hd : pm_dec G mi pc = some .iaload) (h : w[a]? = some (.inl (0, .inl xs))) (hn : xs.length = n) (hi : pm_in x n = true) (hv : xs.getD x.toNatClampNeg 0 = v) (k : pmE G X tyl cl d mi (pc + 1) ls (.int v :: st) w Q) : pmE G X tyl cl d mi pc ls (.int x :: .ref a :: st) w Q := by
  subst hn; subst hv
  exact pe_iald hd h (pm_in_ok hi) k
theorem pe_bast {x i : Int32} {a n : Nat} {xs : List Int32} {w' : pm_W} (hd : pm_dec G mi pc = some .bastore) (h : w[a]? = some (.inl (1, .inl xs))) (hn : xs.length = n) (hi : pm_in i n = true) (hw : w.set a (.inl (1, .inl (xs.set i.toNatClampNeg (vp_nar .byte x)))) = w') (k : pmE G X tyl cl d mi (pc + 1) ls st w' Q) : pmE G X tyl cl d mi pc ls (.int x :: .int i :: .ref a :: st) w Q := by
  subst hn
  exact pmE.one hd (by simp only [pm_one, pm_iast, h, hi, and_self, if_true, hw, pm_oc]) k
theorem pe_iastv {x i : Int32} {a n : Nat} {xs : List Int32} {w' : pm_W} (hd : pm_dec G mi pc = some .iastore) (h : w[a]? = some (.inl (0, .inl xs))) (hn : xs.length = n) (hi : pm_in i n = true) (hw : w.set a (.inl (0, .inl (xs.set i.toNatClampNeg x))) = w') (k : pmE G X tyl cl d mi (pc + 1) ls st w' Q) : pmE G X tyl cl d mi pc ls (.int x :: .int i :: .ref a :: st) w Q := by
  subst hn
  exact pe_iast hd h (pm_in_ok hi) hw k
theorem pe_top {x v : Int32} (hv : x = v) (k : pmE G X tyl cl d mi pc ls (.int v :: st) w Q) : pmE G X tyl cl d mi pc ls (.int x :: st) w Q := by
  subst hv; exact k
theorem pe_iconstv {n : Int} {v : Int32} (hd : pm_dec G mi pc = some (.iconst n)) (hv : Int32.ofInt n = v) (k : pmE G X tyl cl d mi (pc + 1) ls (.int v :: st) w Q) : pmE G X tyl cl d mi pc ls st w Q := by
  subst hv; exact pe_iconst hd k
theorem pe_bipushv {n : Int} {v : Int32} (hd : pm_dec G mi pc = some (.bipush n)) (hv : (Int8.ofInt n).toInt32 = v) (k : pmE G X tyl cl d mi (pc + 2) ls (.int v :: st) w Q) : pmE G X tyl cl d mi pc ls st w Q := by
  subst hv; exact pe_bipush hd k
theorem pe_sipushv {n : Int} {v : Int32} (hd : pm_dec G mi pc = some (.sipush n)) (hv : (Int16.ofInt n).toInt32 = v) (k : pmE G X tyl cl d mi (pc + 3) ls (.int v :: st) w Q) : pmE G X tyl cl d mi pc ls st w Q := by
  subst hv; exact pe_sipush hd k
theorem pe_iincv {j : Nat} {n : Int} {x v : Int32} (hd : pm_dec G mi pc = some (.iinc j n)) (h : ls[j]? = some (.int x)) (hv : x + Int32.ofInt n = v) (hl : pm_st1 ls j (.int v) = ls') (k : pmE G X tyl cl d mi (pc + 3) ls' st w Q) : pmE G X tyl cl d mi pc ls st w Q := by
  subst hv; exact pe_iinc hd h hl k
theorem pe_zaldv {x v : Int32} {a n : Nat} {xs : List Int32} (hd : pm_dec G mi pc = some .baload) (h : w[a]? = some (.inl (2, .inl xs))) (hn : xs.length = n) (hi : pm_in x n = true) (hv : xs.getD x.toNatClampNeg 0 = v) (k : pmE G X tyl cl d mi (pc + 1) ls (.int v :: st) w Q) : pmE G X tyl cl d mi pc ls (.int x :: .ref a :: st) w Q := by
  subst hn; subst hv
  have h1 : pm_iald X 1 pc ls (.int x :: .ref a :: st) w = none := by
    unfold pm_iald
    simp [h]
  have h2 : pm_iald (fun _ => none) 2 pc ls (.int x :: .ref a :: st) w = some (pc + 1, ls, .int (xs.getD x.toNatClampNeg 0) :: st, w) := by
    unfold pm_iald
    simp only [h, hi, and_self, if_true]
  exact pmE.one hd (by simp only [pm_one, h1, h2, pm_oc]) k
/-- two closed runs, one behind the other, with the same answer -/
def pe_two (G : pm_G) (tyl : List FieldType) (cl : List vw_C) (f d m1 m2 : Nat) (l1 l2 : List Value) (w : pm_W) : Bool := match pm G (fun _ => none) tyl cl f d m1 0 l1 [] w with
  | some (some (.int a), w1, 0, 0) => match pm G (fun _ => none) tyl cl f d m2 0 l2 [] w1 with
    | some (some (.int c), _, 0, 0) => decide (a = c)
    | _ => false
  | _ => false
theorem pe_two_of {f m1 m2 : Nat} {l1 l2 : List Value} (h : pe_two G tyl cl f d m1 m2 l1 l2 w = true) : ∃ (a : Int32) (w1 w2 : pm_W), (∀ X : pm_X, pm G X tyl cl f d m1 0 l1 [] w = some (some (.int a), w1, 0, 0)) ∧ ∀ X : pm_X, pm G X tyl cl f d m2 0 l2 [] w1 = some (some (.int a), w2, 0, 0) := by
  unfold pe_two at h
  split at h
  · rename_i a w1 h1
    split at h
    · rename_i c w2 h2
      have e := of_decide_eq_true h
      subst e
      exact ⟨_, _, _, fun X => pm_moreX (fun j v h => by cases h) _ _ _ _ _ _ _ _ h1, fun X => pm_moreX (fun j v h => by cases h) _ _ _ _ _ _ _ _ h2⟩
    · cases h
  · cases h
end PE2
