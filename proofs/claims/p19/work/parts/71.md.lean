/-! ===== the reference: its object is cell 147, its arrays cells 148 to 166 (printed by gm.py) ===== -/
def mfl (f : Nat → Int32) : List Value := [.ref 148, .ref 149, .int (f 2), .int (f 3), .int (f 4), .int (f 5), .int (f 6), .int (f 7), .int (f 8), .int (f 9), .ref 150, .ref 151, .ref 152, .ref 153, .int (f 14), .int (f 15), .int (f 16), .ref 154, .ref 155, .ref 156, .ref 157, .ref 158, .ref 159, .int (f 23), .int (f 24), .ref 160, .ref 161, .ref 162, .ref 163, .ref 164, .ref 165, .int (f 31), .int (f 32), .int (f 33), .ref 166, .int (f 35)]
def em (f : Nat → Int32) (A : Nat → List Int32) : pm_W := [.inr (12, mfl f), .inl (0, .inl (A 148)), .inl (2, .inl (A 149)), .inl (0, .inl (A 150)), .inl (0, .inl (A 151)), .inl (0, .inl (A 152)), .inl (0, .inl (A 153)), .inl (0, .inl (A 154)), .inl (0, .inl (A 155)), .inl (0, .inl (A 156)), .inl (0, .inl (A 157)), .inl (0, .inl (A 158)), .inl (0, .inl (A 159)), .inl (0, .inl (A 160)), .inl (0, .inl (A 161)), .inl (0, .inl (A 162)), .inl (0, .inl (A 163)), .inl (0, .inl (A 164)), .inl (0, .inl (A 165)), .inl (0, .inl (A 166))]
def md (wc : pm_W) (f : Nat → Int32) (A : Nat → List Int32) : pm_W := wc ++ em f A
def upf (f : Nat → Int32) (k : Nat) (x : Int32) : Nat → Int32 := fun j => cond (Nat.beq j k) x (f j)
def upa (A : Nat → List Int32) (k : Nat) (x : List Int32) : Nat → List Int32 := fun j => cond (Nat.beq j k) x (A j)
theorem upf_eq {f : Nat → Int32} {k : Nat} {x : Int32} : upf f k x k = x := by
  unfold upf
  rw [Nat.beq_refl]
  rfl
theorem upf_ne {f : Nat → Int32} {k j : Nat} {x : Int32} (h : j ≠ k) : upf f k x j = f j := by
  unfold upf
  cases hb : Nat.beq j k with
  | false => rfl
  | true => exact absurd (Nat.eq_of_beq_eq_true hb) h
theorem upa_eq {A : Nat → List Int32} {k : Nat} {x : List Int32} : upa A k x k = x := by
  unfold upa
  rw [Nat.beq_refl]
  rfl
theorem upa_ne {A : Nat → List Int32} {k j : Nat} {x : List Int32} (h : j ≠ k) : upa A k x j = A j := by
  unfold upa
  cases hb : Nat.beq j k with
  | false => rfl
  | true => exact absurd (Nat.eq_of_beq_eq_true hb) h
theorem upf_fr {f f2 : Nat → Int32} {k j : Nat} {x : Int32} (e : f2 = upf f k x) (h : j ≠ k) : f2 j = f j := by
  rw [e]
  exact upf_ne h
theorem upf_at {f f2 : Nat → Int32} {k : Nat} {x : Int32} (e : f2 = upf f k x) : f2 k = x := by
  rw [e]
  exact upf_eq
theorem upa_fr {A A2 : Nat → List Int32} {k j : Nat} {x : List Int32} (e : A2 = upa A k x) (h : j ≠ k) : A2 j = A j := by
  rw [e]
  exact upa_ne h
theorem upa_at {A A2 : Nat → List Int32} {k : Nat} {x : List Int32} (e : A2 = upa A k x) : A2 k = x := by
  rw [e]
  exact upa_eq
section MD
variable {wc : pm_W} {f : Nat → Int32} {A : Nat → List Int32}
theorem md_o (hc : wc.length = 147) : (md wc f A)[147]? = some (.inr (12, mfl f)) := by
  unfold md
  rw [List.getElem?_append_right (by omega), hc]
  rfl
theorem md_a148 (hc : wc.length = 147) : (md wc f A)[148]? = some (.inl (0, .inl (A 148))) := by
  unfold md
  rw [List.getElem?_append_right (by omega), hc]
  rfl
theorem md_s148 {xs : List Int32} (hc : wc.length = 147) : (md wc f A).set 148 (.inl (0, .inl xs)) = md wc f (upa A 148 xs) := by
  unfold md
  refine (List.set_append_right 148 _ (by omega)).trans ?_
  rw [hc]
  rfl
theorem md_a149 (hc : wc.length = 147) : (md wc f A)[149]? = some (.inl (2, .inl (A 149))) := by
  unfold md
  rw [List.getElem?_append_right (by omega), hc]
  rfl
theorem md_s149 {xs : List Int32} (hc : wc.length = 147) : (md wc f A).set 149 (.inl (2, .inl xs)) = md wc f (upa A 149 xs) := by
  unfold md
  refine (List.set_append_right 149 _ (by omega)).trans ?_
  rw [hc]
  rfl
theorem md_a150 (hc : wc.length = 147) : (md wc f A)[150]? = some (.inl (0, .inl (A 150))) := by
  unfold md
  rw [List.getElem?_append_right (by omega), hc]
  rfl
theorem md_s150 {xs : List Int32} (hc : wc.length = 147) : (md wc f A).set 150 (.inl (0, .inl xs)) = md wc f (upa A 150 xs) := by
  unfold md
  refine (List.set_append_right 150 _ (by omega)).trans ?_
  rw [hc]
  rfl
theorem md_a151 (hc : wc.length = 147) : (md wc f A)[151]? = some (.inl (0, .inl (A 151))) := by
  unfold md
  rw [List.getElem?_append_right (by omega), hc]
  rfl
theorem md_s151 {xs : List Int32} (hc : wc.length = 147) : (md wc f A).set 151 (.inl (0, .inl xs)) = md wc f (upa A 151 xs) := by
  unfold md
  refine (List.set_append_right 151 _ (by omega)).trans ?_
  rw [hc]
  rfl
theorem md_a152 (hc : wc.length = 147) : (md wc f A)[152]? = some (.inl (0, .inl (A 152))) := by
  unfold md
  rw [List.getElem?_append_right (by omega), hc]
  rfl
theorem md_s152 {xs : List Int32} (hc : wc.length = 147) : (md wc f A).set 152 (.inl (0, .inl xs)) = md wc f (upa A 152 xs) := by
  unfold md
  refine (List.set_append_right 152 _ (by omega)).trans ?_
  rw [hc]
  rfl
theorem md_a153 (hc : wc.length = 147) : (md wc f A)[153]? = some (.inl (0, .inl (A 153))) := by
  unfold md
  rw [List.getElem?_append_right (by omega), hc]
  rfl
theorem md_s153 {xs : List Int32} (hc : wc.length = 147) : (md wc f A).set 153 (.inl (0, .inl xs)) = md wc f (upa A 153 xs) := by
  unfold md
  refine (List.set_append_right 153 _ (by omega)).trans ?_
  rw [hc]
  rfl
theorem md_a154 (hc : wc.length = 147) : (md wc f A)[154]? = some (.inl (0, .inl (A 154))) := by
  unfold md
  rw [List.getElem?_append_right (by omega), hc]
  rfl
theorem md_s154 {xs : List Int32} (hc : wc.length = 147) : (md wc f A).set 154 (.inl (0, .inl xs)) = md wc f (upa A 154 xs) := by
  unfold md
  refine (List.set_append_right 154 _ (by omega)).trans ?_
  rw [hc]
  rfl
theorem md_a155 (hc : wc.length = 147) : (md wc f A)[155]? = some (.inl (0, .inl (A 155))) := by
  unfold md
  rw [List.getElem?_append_right (by omega), hc]
  rfl
theorem md_s155 {xs : List Int32} (hc : wc.length = 147) : (md wc f A).set 155 (.inl (0, .inl xs)) = md wc f (upa A 155 xs) := by
  unfold md
  refine (List.set_append_right 155 _ (by omega)).trans ?_
  rw [hc]
  rfl
theorem md_a156 (hc : wc.length = 147) : (md wc f A)[156]? = some (.inl (0, .inl (A 156))) := by
  unfold md
  rw [List.getElem?_append_right (by omega), hc]
  rfl
theorem md_s156 {xs : List Int32} (hc : wc.length = 147) : (md wc f A).set 156 (.inl (0, .inl xs)) = md wc f (upa A 156 xs) := by
  unfold md
  refine (List.set_append_right 156 _ (by omega)).trans ?_
  rw [hc]
  rfl
theorem md_a157 (hc : wc.length = 147) : (md wc f A)[157]? = some (.inl (0, .inl (A 157))) := by
  unfold md
  rw [List.getElem?_append_right (by omega), hc]
  rfl
theorem md_s157 {xs : List Int32} (hc : wc.length = 147) : (md wc f A).set 157 (.inl (0, .inl xs)) = md wc f (upa A 157 xs) := by
  unfold md
  refine (List.set_append_right 157 _ (by omega)).trans ?_
  rw [hc]
  rfl
theorem md_a158 (hc : wc.length = 147) : (md wc f A)[158]? = some (.inl (0, .inl (A 158))) := by
  unfold md
  rw [List.getElem?_append_right (by omega), hc]
  rfl
theorem md_s158 {xs : List Int32} (hc : wc.length = 147) : (md wc f A).set 158 (.inl (0, .inl xs)) = md wc f (upa A 158 xs) := by
  unfold md
  refine (List.set_append_right 158 _ (by omega)).trans ?_
  rw [hc]
  rfl
theorem md_a159 (hc : wc.length = 147) : (md wc f A)[159]? = some (.inl (0, .inl (A 159))) := by
  unfold md
  rw [List.getElem?_append_right (by omega), hc]
  rfl
theorem md_s159 {xs : List Int32} (hc : wc.length = 147) : (md wc f A).set 159 (.inl (0, .inl xs)) = md wc f (upa A 159 xs) := by
  unfold md
  refine (List.set_append_right 159 _ (by omega)).trans ?_
  rw [hc]
  rfl
theorem md_a160 (hc : wc.length = 147) : (md wc f A)[160]? = some (.inl (0, .inl (A 160))) := by
  unfold md
  rw [List.getElem?_append_right (by omega), hc]
  rfl
theorem md_s160 {xs : List Int32} (hc : wc.length = 147) : (md wc f A).set 160 (.inl (0, .inl xs)) = md wc f (upa A 160 xs) := by
  unfold md
  refine (List.set_append_right 160 _ (by omega)).trans ?_
  rw [hc]
  rfl
theorem md_a161 (hc : wc.length = 147) : (md wc f A)[161]? = some (.inl (0, .inl (A 161))) := by
  unfold md
  rw [List.getElem?_append_right (by omega), hc]
  rfl
theorem md_s161 {xs : List Int32} (hc : wc.length = 147) : (md wc f A).set 161 (.inl (0, .inl xs)) = md wc f (upa A 161 xs) := by
  unfold md
  refine (List.set_append_right 161 _ (by omega)).trans ?_
  rw [hc]
  rfl
theorem md_a162 (hc : wc.length = 147) : (md wc f A)[162]? = some (.inl (0, .inl (A 162))) := by
  unfold md
  rw [List.getElem?_append_right (by omega), hc]
  rfl
theorem md_s162 {xs : List Int32} (hc : wc.length = 147) : (md wc f A).set 162 (.inl (0, .inl xs)) = md wc f (upa A 162 xs) := by
  unfold md
  refine (List.set_append_right 162 _ (by omega)).trans ?_
  rw [hc]
  rfl
theorem md_a163 (hc : wc.length = 147) : (md wc f A)[163]? = some (.inl (0, .inl (A 163))) := by
  unfold md
  rw [List.getElem?_append_right (by omega), hc]
  rfl
theorem md_s163 {xs : List Int32} (hc : wc.length = 147) : (md wc f A).set 163 (.inl (0, .inl xs)) = md wc f (upa A 163 xs) := by
  unfold md
  refine (List.set_append_right 163 _ (by omega)).trans ?_
  rw [hc]
  rfl
theorem md_a164 (hc : wc.length = 147) : (md wc f A)[164]? = some (.inl (0, .inl (A 164))) := by
  unfold md
  rw [List.getElem?_append_right (by omega), hc]
  rfl
theorem md_s164 {xs : List Int32} (hc : wc.length = 147) : (md wc f A).set 164 (.inl (0, .inl xs)) = md wc f (upa A 164 xs) := by
  unfold md
  refine (List.set_append_right 164 _ (by omega)).trans ?_
  rw [hc]
  rfl
theorem md_a165 (hc : wc.length = 147) : (md wc f A)[165]? = some (.inl (0, .inl (A 165))) := by
  unfold md
  rw [List.getElem?_append_right (by omega), hc]
  rfl
theorem md_s165 {xs : List Int32} (hc : wc.length = 147) : (md wc f A).set 165 (.inl (0, .inl xs)) = md wc f (upa A 165 xs) := by
  unfold md
  refine (List.set_append_right 165 _ (by omega)).trans ?_
  rw [hc]
  rfl
theorem md_a166 (hc : wc.length = 147) : (md wc f A)[166]? = some (.inl (0, .inl (A 166))) := by
  unfold md
  rw [List.getElem?_append_right (by omega), hc]
  rfl
theorem md_s166 {xs : List Int32} (hc : wc.length = 147) : (md wc f A).set 166 (.inl (0, .inl xs)) = md wc f (upa A 166 xs) := by
  unfold md
  refine (List.set_append_right 166 _ (by omega)).trans ?_
  rw [hc]
  rfl
theorem md_f2 {x : Int32} (hc : wc.length = 147) : (md wc f A).set 147 (.inr (12, (mfl f).set 2 (.int x))) = md wc (upf f 2 x) A := by
  unfold md
  refine (List.set_append_right 147 _ (by omega)).trans ?_
  rw [hc]
  rfl
theorem md_f3 {x : Int32} (hc : wc.length = 147) : (md wc f A).set 147 (.inr (12, (mfl f).set 3 (.int x))) = md wc (upf f 3 x) A := by
  unfold md
  refine (List.set_append_right 147 _ (by omega)).trans ?_
  rw [hc]
  rfl
theorem md_f4 {x : Int32} (hc : wc.length = 147) : (md wc f A).set 147 (.inr (12, (mfl f).set 4 (.int x))) = md wc (upf f 4 x) A := by
  unfold md
  refine (List.set_append_right 147 _ (by omega)).trans ?_
  rw [hc]
  rfl
theorem md_f5 {x : Int32} (hc : wc.length = 147) : (md wc f A).set 147 (.inr (12, (mfl f).set 5 (.int x))) = md wc (upf f 5 x) A := by
  unfold md
  refine (List.set_append_right 147 _ (by omega)).trans ?_
  rw [hc]
  rfl
theorem md_f6 {x : Int32} (hc : wc.length = 147) : (md wc f A).set 147 (.inr (12, (mfl f).set 6 (.int x))) = md wc (upf f 6 x) A := by
  unfold md
  refine (List.set_append_right 147 _ (by omega)).trans ?_
  rw [hc]
  rfl
theorem md_f7 {x : Int32} (hc : wc.length = 147) : (md wc f A).set 147 (.inr (12, (mfl f).set 7 (.int x))) = md wc (upf f 7 x) A := by
  unfold md
  refine (List.set_append_right 147 _ (by omega)).trans ?_
  rw [hc]
  rfl
theorem md_f8 {x : Int32} (hc : wc.length = 147) : (md wc f A).set 147 (.inr (12, (mfl f).set 8 (.int x))) = md wc (upf f 8 x) A := by
  unfold md
  refine (List.set_append_right 147 _ (by omega)).trans ?_
  rw [hc]
  rfl
theorem md_f9 {x : Int32} (hc : wc.length = 147) : (md wc f A).set 147 (.inr (12, (mfl f).set 9 (.int x))) = md wc (upf f 9 x) A := by
  unfold md
  refine (List.set_append_right 147 _ (by omega)).trans ?_
  rw [hc]
  rfl
theorem md_f14 {x : Int32} (hc : wc.length = 147) : (md wc f A).set 147 (.inr (12, (mfl f).set 14 (.int x))) = md wc (upf f 14 x) A := by
  unfold md
  refine (List.set_append_right 147 _ (by omega)).trans ?_
  rw [hc]
  rfl
theorem md_f15 {x : Int32} (hc : wc.length = 147) : (md wc f A).set 147 (.inr (12, (mfl f).set 15 (.int x))) = md wc (upf f 15 x) A := by
  unfold md
  refine (List.set_append_right 147 _ (by omega)).trans ?_
  rw [hc]
  rfl
theorem md_f16 {x : Int32} (hc : wc.length = 147) : (md wc f A).set 147 (.inr (12, (mfl f).set 16 (.int x))) = md wc (upf f 16 x) A := by
  unfold md
  refine (List.set_append_right 147 _ (by omega)).trans ?_
  rw [hc]
  rfl
theorem md_f23 {x : Int32} (hc : wc.length = 147) : (md wc f A).set 147 (.inr (12, (mfl f).set 23 (.int x))) = md wc (upf f 23 x) A := by
  unfold md
  refine (List.set_append_right 147 _ (by omega)).trans ?_
  rw [hc]
  rfl
theorem md_f24 {x : Int32} (hc : wc.length = 147) : (md wc f A).set 147 (.inr (12, (mfl f).set 24 (.int x))) = md wc (upf f 24 x) A := by
  unfold md
  refine (List.set_append_right 147 _ (by omega)).trans ?_
  rw [hc]
  rfl
theorem md_f31 {x : Int32} (hc : wc.length = 147) : (md wc f A).set 147 (.inr (12, (mfl f).set 31 (.int x))) = md wc (upf f 31 x) A := by
  unfold md
  refine (List.set_append_right 147 _ (by omega)).trans ?_
  rw [hc]
  rfl
theorem md_f32 {x : Int32} (hc : wc.length = 147) : (md wc f A).set 147 (.inr (12, (mfl f).set 32 (.int x))) = md wc (upf f 32 x) A := by
  unfold md
  refine (List.set_append_right 147 _ (by omega)).trans ?_
  rw [hc]
  rfl
theorem md_f33 {x : Int32} (hc : wc.length = 147) : (md wc f A).set 147 (.inr (12, (mfl f).set 33 (.int x))) = md wc (upf f 33 x) A := by
  unfold md
  refine (List.set_append_right 147 _ (by omega)).trans ?_
  rw [hc]
  rfl
theorem md_f35 {x : Int32} (hc : wc.length = 147) : (md wc f A).set 147 (.inr (12, (mfl f).set 35 (.int x))) = md wc (upf f 35 x) A := by
  unfold md
  refine (List.set_append_right 147 _ (by omega)).trans ?_
  rw [hc]
  rfl
end MD
def ml (k : Nat) : Nat := match k with
  | 148 => 6760
  | 149 => 3
  | 150 => 272
  | 151 => 8
  | 152 => 81
  | 153 => 400
  | 154 => 10
  | 155 => 9
  | 156 => 81
  | 157 => 400
  | 158 => 6
  | 159 => 6
  | 160 => 100
  | 161 => 100
  | 162 => 100
  | 163 => 10
  | 164 => 10
  | 165 => 10
  | 166 => 9
  | _ => 0
