/-! ===== the law's start, what holds between two calls ===== -/
def st_f (n : Nat) : Int32 := cond (List.elem n [80, 160, 384, 544, 752, 912, 1104, 1456, 1536, 1776, 1856, 2096, 2176]) 4 (cond (List.elem n [23, 1399, 1719, 2039]) (-1) 0)
def st_k (k : Nat) : Nat := (ltab.lookup k).getD 0
def st_A (k : Nat) : List Int32 := List.replicate (st_k k) 0
def st_R : Nat → Value
  | 0 => .ref 34
  | 1 => .ref 47
  | 2 => .ref 56
  | 3 => .ref 69
  | 4 => .ref 32
  | _ => .long 0
def st_g : Nat → Int32
  | 31 => -1
  | 32 => -1
  | _ => 0
def st_arr : pm_E → List Int32
  | .inl (_, .inl xs) => xs
  | _ => []
def st_B148 : List Int32 := st_arr (fw_2.getD 1 (.inr (0, [])))
def st_B (k : Nat) : List Int32 := cond (Nat.beq k 148) st_B148 (List.replicate (ml k) 0)
set_option maxRecDepth 1000000 in
theorem st_w : fw_0 = cd st_f st_A st_R (em st_g st_B) := fw_eqW_ok _ _ (by decide +kernel)
theorem rep_0 {n i : Nat} : (List.replicate n (0 : Int32)).getD i 0 = 0 := by
  rw [List.getD_eq_getElem?_getD, List.getElem?_replicate]
  split <;> rfl
theorem ct_0 (kd i : Nat) : CT kd i 0 := by
  unfold CT
  split <;> first | trivial | omega
set_option maxRecDepth 1000000 in
theorem st_CI : CI st_f st_A st_R := by
  refine ⟨fun p hp => ?_, fun p hp => ?_, fun p hp i => ?_, 0, rfl⟩
  · have h : ctab.all (fun p => decide (p.2.1 ≤ (st_f p.1).toInt) && decide ((st_f p.1).toInt ≤ p.2.2)) = true := by decide +kernel
    have q := List.all_eq_true.mp h p hp
    simp only [Bool.and_eq_true, decide_eq_true_eq] at q
    exact q
  · have h : ltab.all (fun p => Nat.beq (st_k p.1) p.2) = true := by decide +kernel
    have q := Nat.eq_of_beq_eq_true (List.all_eq_true.mp h p hp)
    unfold st_A
    rw [List.length_replicate]
    exact q
  · unfold st_A
    rw [rep_0]
    exact ct_0 p.2 i
set_option maxRecDepth 1000000 in
theorem st_z (j : Nat) (hj : j ≠ 4) : st_B148.getD j 0 = 0 := by
  have h : (st_B148.set 4 0).all (fun x => decide (x = 0)) = true := by decide +kernel
  have q : ∀ ys : List Int32, ys.all (fun x => decide (x = 0)) = true → ys.getD j 0 = 0 := by
    intro ys hy
    rw [List.getD_eq_getElem?_getD]
    cases e : ys[j]? with
    | none => rfl
    | some y =>
      have m := List.mem_of_getElem? e
      have z := List.all_eq_true.mp hy y m
      show y = 0
      exact of_decide_eq_true z
  have z := q _ h
  rw [gz_ne (Ne.symm hj)] at z
  exact z
theorem st_B8 : st_B 148 = st_B148 := rfl
theorem st_Bn {k : Nat} (h : k ≠ 148) : st_B k = List.replicate (ml k) 0 := by
  unfold st_B
  cases hb : Nat.beq k 148 with
  | false => rfl
  | true => exact absurd (Nat.eq_of_beq_eq_true hb) h
set_option maxRecDepth 1000000 in
theorem st_MI : MI st_g st_B := by
  refine ⟨fun j => ?_, fun k h1 h2 => ?_, fun c i hc hi => ?_, fun k i => ?_, fun c a b c0 c1 a0 b0 => ?_, fun c a w c1 a1 hw => ?_⟩
  · unfold MF
    split <;> first | trivial | decide +kernel
  · have h : (List.range' 148 19).all (fun k => Nat.beq (st_B k).length (ml k)) = true := by decide +kernel
    exact Nat.eq_of_beq_eq_true (List.all_eq_true.mp h k (by rw [List.mem_range'_1]; omega))
  · by_cases e : 1690 * c + i = 4
    · have ei : i = 4 := by omega
      subst ei
      generalize ((st_B 148).getD (1690 * c + 4) 0).toInt = x
      unfold MT
      omega
    · rw [st_B8, st_z _ e]
      show MT i 0
      unfold MT
      omega
  · by_cases e : k = 148
    · subst e
      exact trivial
    · rw [st_Bn e, rep_0]
      show MP k i 0
      unfold MP
      split <;> first | trivial | (simp only [MP_rings, MP_ringsThen, MP_round, MP_bestRound, MP_from0, MP_has]; omega)
  · rw [st_B8, st_z _ (by omega), st_z _ (by omega), st_z _ (by omega)]
    show MRA 0 0 0
    unfold MRA
    omega
  · rw [st_B8, st_z _ (by omega)] at hw
    have hw2 : (w : Int) < 0 := hw
    omega
def REL (f : Nat → Int32) (A : Nat → List Int32) (B : Nat → List Int32) : Prop := (f 21).toInt = fr (B 148) 2 ∧ (f 1397).toInt = fr (B 148) 1692 ∧ (f 1717).toInt = fr (B 148) 3382 ∧ (f 2037).toInt = fr (B 148) 5072 ∧ ((A 22).getD 0 0).toInt = fr (B 149) 0 ∧ ((A 22).getD 1 0).toInt = fr (B 149) 1 ∧ ((A 22).getD 2 0).toInt = fr (B 149) 2
def ST (f : Nat → Int32) (A : Nat → List Int32) (R : Nat → Value) (g : Nat → Int32) (B : Nat → List Int32) : Prop := CI f A R ∧ MI g B ∧ REL f A B
set_option maxRecDepth 1000000 in
theorem st_REL : REL st_f st_A st_B := by
  have z : ∀ j : Int, 0 ≤ j → j ≠ 4 → fr (st_B 148) j = 0 := by
    intro j j0 j4
    unfold fr
    rw [st_B8, st_z _ (by omega)]
    rfl
  unfold REL
  rw [z 2 (by decide) (by decide), z 1692 (by decide) (by decide), z 3382 (by decide) (by decide), z 5072 (by decide) (by decide)]
  decide +kernel
theorem st_ST : ST st_f st_A st_R st_g st_B := ⟨st_CI, st_MI, st_REL⟩
theorem REL_fr {f f' : Nat → Int32} {A A' B B' : Nat → List Int32} (h : REL f A B) (e0 : f' 21 = f 21) (e1 : f' 1397 = f 1397) (e2 : f' 1717 = f 1717) (e3 : f' 2037 = f 2037) (ea : A' 22 = A 22) (b8 : B' 148 = B 148) (b9 : B' 149 = B 149) : REL f' A' B' := by
  unfold REL
  rw [e0, e1, e2, e3, ea, b8, b9]
  exact h
set_option maxRecDepth 100000 in
theorem cc_len {f : Nat → Int32} {A : Nat → List Int32} {R : Nat → Value} : (cc f A R).length = 147 := rfl
theorem st_XO {xs : List Int32} : XO (pg_X xs) := by
  intro j hj
  unfold pg_X
  cases hb : Nat.beq j 0 with
  | false => rfl
  | true => exact absurd (Nat.eq_of_beq_eq_true hb) (by omega)
theorem pe_pop2 {G : pm_G} {X : pm_X} {tyl : List FieldType} {cl : List vw_C} {d mi pc : Nat} {ls st : List Value} {w : pm_W} {Q : pm_R → Prop} {a : Value} (hd : pm_dec G mi pc = some (.pop2)) (h : a.category = 2) (k : pmE G X tyl cl d mi (pc + 1) ls st w Q) : pmE G X tyl cl d mi pc ls (a :: st) w Q := pmE.one hd (by simp only [pm_one, if_pos h]) k
theorem img_rel {B B' : Nat → List Int32} {x : Int} (cp : CP (B' 148) (B 148) (B 148) (1690 * (x + 1)) (1690 * 0) 1690) (hx : 0 ≤ x ∧ x ≤ 2) : fr (B' 148) 2 = fr (B 148) 2 ∧ fr (B' 148) 1692 = (if x = 0 then fr (B 148) 2 else fr (B 148) 1692) ∧ fr (B' 148) 3382 = (if x = 1 then fr (B 148) 2 else fr (B 148) 3382) ∧ fr (B' 148) 5072 = (if x = 2 then fr (B 148) 2 else fr (B 148) 5072) := by
  have q := cp.1 2 (by decide) (by decide)
  rw [show (1690 : Int) * 0 + 2 = 2 by decide] at q
  refine ⟨cp.2 2 (by decide) (by omega), ?_, ?_, ?_⟩
  · by_cases e : x = 0
    · rw [if_pos e]
      rw [show 1690 * (x + 1) + 2 = 1692 by omega] at q
      exact q
    · rw [if_neg e]
      exact cp.2 1692 (by decide) (by omega)
  · by_cases e : x = 1
    · rw [if_pos e]
      rw [show 1690 * (x + 1) + 2 = 3382 by omega] at q
      exact q
    · rw [if_neg e]
      exact cp.2 3382 (by decide) (by omega)
  · by_cases e : x = 2
    · rw [if_pos e]
      rw [show 1690 * (x + 1) + 2 = 5072 by omega] at q
      exact q
    · rw [if_neg e]
      exact cp.2 5072 (by decide) (by omega)
theorem agn_rel {B B' : Nat → List Int32} {x : Int} (cp : CP (B' 148) (B 148) (B 148) (1690 * 0) (1690 * (x + 1)) 1690) (hx : 0 ≤ x ∧ x ≤ 2) : (x = 0 → fr (B' 148) 2 = fr (B 148) 1692) ∧ (x = 1 → fr (B' 148) 2 = fr (B 148) 3382) ∧ (x = 2 → fr (B' 148) 2 = fr (B 148) 5072) ∧ fr (B' 148) 1692 = fr (B 148) 1692 ∧ fr (B' 148) 3382 = fr (B 148) 3382 ∧ fr (B' 148) 5072 = fr (B 148) 5072 := by
  have q := cp.1 2 (by decide) (by decide)
  rw [show (1690 : Int) * 0 + 2 = 2 by decide] at q
  refine ⟨fun e => ?_, fun e => ?_, fun e => ?_, cp.2 1692 (by decide) (by omega), cp.2 3382 (by decide) (by omega), cp.2 5072 (by decide) (by omega)⟩
  · rw [show 1690 * (x + 1) + 2 = 1692 by omega] at q
    exact q
  · rw [show 1690 * (x + 1) + 2 = 3382 by omega] at q
    exact q
  · rw [show 1690 * (x + 1) + 2 = 5072 by omega] at q
    exact q
