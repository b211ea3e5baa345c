/-! ===== worlds that are not written out: rules whose continuation gets the new world with its equation; a call whose receiver is looked up ===== -/
section PE3
variable {G : pm_G} {X : pm_X} {tyl : List FieldType} {cl : List vw_C} {d mi pc : Nat} {ls ls' st : List Value} {w : pm_W} {Q : pm_R → Prop}
theorem wk_ne {w : pm_W} {i j : Nat} {e : pm_E} (h : i ≠ j) : (w.set i e)[j]? = w[j]? := List.getElem?_set_ne h
theorem wk_eq {w : pm_W} {i : Nat} {e e' : pm_E} (h : w[i]? = some e') : (w.set i e)[i]? = some e := by
  obtain ⟨hi, _⟩ := List.getElem?_eq_some_iff.mp h
  exact List.getElem?_set_self hi
theorem pe_bastK {x i : Int32} {a n : Nat} {xs : List Int32} (hd : pm_dec G mi pc = some .bastore) (h : w[a]? = some (.inl (1, .inl xs))) (hn : xs.length = n) (hi : pm_in i n = true) (k : ∀ w' : pm_W, w.set a (.inl (1, .inl (xs.set i.toNatClampNeg (vp_nar .byte x)))) = w' → pmE G X tyl cl d mi (pc + 1) ls st w' Q) : pmE G X tyl cl d mi pc ls (.int x :: .int i :: .ref a :: st) w Q := pe_bast hd h hn hi rfl (k _ rfl)
theorem pe_iastK {x i : Int32} {a n : Nat} {xs : List Int32} (hd : pm_dec G mi pc = some .iastore) (h : w[a]? = some (.inl (0, .inl xs))) (hn : xs.length = n) (hi : pm_in i n = true) (k : ∀ w' : pm_W, w.set a (.inl (0, .inl (xs.set i.toNatClampNeg x))) = w' → pmE G X tyl cl d mi (pc + 1) ls st w' Q) : pmE G X tyl cl d mi pc ls (.int x :: .int i :: .ref a :: st) w Q := pe_iastv hd h hn hi rfl (k _ rfl)
theorem pe_putK {j a ci n : Nat} {ty : FieldType} {fs : List Value} {v : Value} (hd : pm_dec G mi pc = some (.putfield j)) (hl : pm_put G mi j = some (ci, n, ty)) (h : w[a]? = some (.inr (ci, fs))) (hn : n < fs.length) (hf : pm_fit ty v = true) (k : ∀ w' : pm_W, w.set a (.inr (ci, fs.set n v)) = w' → pmE G X tyl cl d mi (pc + 3) ls st w' Q) : pmE G X tyl cl d mi pc ls (v :: .ref a :: st) w Q := pe_put hd hl h hn hf rfl (k _ rfl)
theorem cll_V {j mj n a ci : Nat} {args st' : List Value} {fs : List Value} (hcal : pm_cal G mi j = some (mj, n)) (hst : st = args ++ .ref a :: st') (hn : args.length = n) (hr : w[a]? = some (.inr (ci, fs))) (hci : (ci == pm_hom G mj) = true) (hs : pm_sum st' ≤ 8) (hm : (pm_arg (.ref a :: args.reverse)).length ≤ pm_max G mj) : pm_cll G X mi (.invokevirtual j) (d + 1) st w = some (mj, d, .ref a :: args.reverse, st') := by
  subst hst
  subst hn
  have e1 : (args ++ .ref a :: st').drop args.length = .ref a :: st' := by simp
  have e2 : (args ++ .ref a :: st').take args.length = args := by simp
  have hrc : pm_rcv G X w mj (.ref a) = true := by
    unfold pm_rcv
    simp only [hr, hci]
  unfold pm_cll
  simp only [hcal, e1, e2]
  rw [if_pos ⟨hrc, trivial, hs, hm⟩]
/-- two closed runs, one behind the other, with the same answer; the second one's receiver stands in the world between -/
def pe_tw2 (G : pm_G) (tyl : List FieldType) (cl : List vw_C) (f d m1 m2 a2 : Nat) (l1 l2 : List Value) (w : pm_W) : Bool := match pm G (fun _ => none) tyl cl f d m1 0 l1 [] w with
  | some (some (.int a), w1, 0, 0) => (match w1[a2]? with
    | some (.inr (ci, _)) => ci == pm_hom G m2
    | _ => false) && (match pm G (fun _ => none) tyl cl f d m2 0 l2 [] w1 with
    | some (some (.int c), _, 0, 0) => decide (a = c)
    | _ => false)
  | _ => false
theorem pe_tw2_of {f m1 m2 a2 : Nat} {l1 l2 : List Value} (h : pe_tw2 G tyl cl f d m1 m2 a2 l1 l2 w = true) : ∃ (a : Int32) (w1 w2 : pm_W) (ci : Nat) (fs : List Value), (∀ X : pm_X, pm G X tyl cl f d m1 0 l1 [] w = some (some (.int a), w1, 0, 0)) ∧ (∀ X : pm_X, pm G X tyl cl f d m2 0 l2 [] w1 = some (some (.int a), w2, 0, 0)) ∧ w1[a2]? = some (.inr (ci, fs)) ∧ (ci == pm_hom G m2) = true := by
  unfold pe_tw2 at h
  split at h
  · rename_i a w1 h1
    rw [Bool.and_eq_true] at h
    obtain ⟨hr, h⟩ := h
    split at hr
    · rename_i ci fs hw
      split at h
      · rename_i c w2 h2
        have e := of_decide_eq_true h
        subst e
        exact ⟨_, _, _, _, _, fun X => pm_moreX (fun j v h => by cases h) _ _ _ _ _ _ _ _ h1, fun X => pm_moreX (fun j v h => by cases h) _ _ _ _ _ _ _ _ h2, hw, hr⟩
      · cases h
    · cases hr
  · cases h
end PE3
