/-! ===== worlds that are not written out: rules whose continuation gets the new world with its equation; a call whose receiver is looked up ===== -/
section PE3
variable {G : pm_G} {X : pm_X} {tyl : List FieldType} {cl : List vw_C} {d mi pc : Nat} {ls ls' st : List Value} {w : pm_W} {Q : pm_R → Prop}
theorem wk_ne {w : pm_W} {i j : Nat} {e : pm_E} (h : i ≠ j) : (w.set i e)[j]? = w[j]? := List.getElem?_set_ne h
theorem wk_eq {w : pm_W} {i : Nat} {e e' : pm_E} (h : w[i]? = some e') : (w.set i e)[i]? = some e := by
  obtain ⟨hi, _⟩ := List.getElem?_eq_some_iff.mp h
  exact List.getElem?_set_self hi
theorem pe_bastK {x i : Int32} {a n : Nat} {xs : List Int32} (hd : pm_dec G mi pc = some .bastore) (h : w[a]? = some (.inl (1, .inl xs))) (hn : xs.length = n) (hi : pm_in i n = true) (k : ∀ w' : pm_W, w.set a (.inl (1, .inl (xs.set i.toNatClampNeg (vp_nar .byte x)))) = w' → pmE G X tyl cl d mi (pc + 1) ls st w' Q) : pmE G X tyl cl d mi pc ls (.int x :: .int i :: .ref a :: st) w Q := pe_bast hd h hn hi rfl (k _ rfl)
theorem pe_iastK {x i : Int32} {a n : Nat} {xs : List Int32} (hd : pm_dec G mi pc = some .iastore) (h : w[a]? = some (.inl (0, .inl xs))) (hn : xs.length = n) (hi : pm_in i n = true) (k : ∀ w' : pm_W, w.set a (.inl (0, .inl (xs.set i.toNatClampNeg x))) = w' → pmE G X tyl cl d mi (pc + 1) ls st w' Q) : pmE G X tyl cl d mi pc ls (.int x :: .int i :: .ref a :: st) w Q := pe_iastv hd h hn hi rfl (k _ rfl)
theorem pe_putK {j a ci n : Nat} {ty : FieldType} {fs : List Value} {v : Value} (hd : pm_dec G mi pc = some (.putfield j)) (hl : pm_put G mi j = some (ci, n, ty)) (h : w[a]? = some (.inr (ci, fs))) (hn : n < fs.length) (hf : pm_fit ty v = true) (k : ∀ w' : pm_W, w.set a (.inr (ci, fs.set n v)) = w' → pmE G X tyl cl d mi (pc + 3) ls st w' Q) : pmE G X tyl cl d mi pc ls (v :: .ref a :: st) w Q := pe_put hd hl h hn hf rfl (k _ rfl)
theorem cll_V {j mj n a ci : Nat} {args st' : List Value} {fs : List Value} (hcal : pm_cal G mi j = some (mj, n)) (hst : st = args ++ .ref a :: st') (hn : args.length = n) (hr : w[a]? = some (.inr (ci, fs))) (hci : (ci == pm_hom G mj) = true) (hs : pm_sum st' ≤ 8) (hm : (pm_arg (.ref a :: args.reverse)).length ≤ pm_max G mj) : pm_cll G X mi (.invokevirtual j) (d + 1) st w = some (mj, d, .ref a :: args.reverse, st') := by
  subst hst
  subst hn
  have e1 : (args ++ .ref a :: st').drop args.length = .ref a :: st' := by simp
  have e2 : (args ++ .ref a :: st').take args.length = args := by simp
  have hrc : pm_rcv G X w mj (.ref a) = true := by
    unfold pm_rcv
    simp only [hr, hci]
  unfold pm_cll
  simp only [hcal, e1, e2]
  rw [if_pos ⟨hrc, trivial, hs, hm⟩]
theorem pe_zastK {x i : Int32} {a n : Nat} {xs : List Int32} (hd : pm_dec G mi pc = some .bastore) (h : w[a]? = some (.inl (2, .inl xs))) (hn : xs.length = n) (hi : pm_in i n = true) (k : ∀ w' : pm_W, w.set a (.inl (2, .inl (xs.set i.toNatClampNeg (vp_nar .boolean x)))) = w' → pmE G X tyl cl d mi (pc + 1) ls st w' Q) : pmE G X tyl cl d mi pc ls (.int x :: .int i :: .ref a :: st) w Q := by
  subst hn
  have h1 : pm_iast 1 (vp_nar .byte) pc ls (.int x :: .int i :: .ref a :: st) w = none := by
    unfold pm_iast
    simp [h]
  have h2 : pm_iast 2 (vp_nar .boolean) pc ls (.int x :: .int i :: .ref a :: st) w = some (pc + 1, ls, st, w.set a (.inl (2, .inl (xs.set i.toNatClampNeg (vp_nar .boolean x))))) := by
    unfold pm_iast
    simp only [h, hi, and_self, if_true]
  exact pmE.one hd (by simp only [pm_one, h1, h2, pm_oc]) (k _ rfl)
end PE3
