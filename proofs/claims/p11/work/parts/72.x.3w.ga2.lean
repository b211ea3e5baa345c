section GA2
variable {X : pm_X} {k : Nat} {w0 w wE w' : pm_W} {r : Option Value} {p p1 p2 p3 f0 p0 f q : Int32} {bs : Nat → Int32} {n i v j m : Nat}
/-- behind j people of a ring: S the set of them -/
def RGI (w : pm_W) (bs : Nat → Int32) (n i : Nat) (f0 p0 : Int32) (j S : Nat) : Prop := RJ w bs n i 2 f0 p0 (2 + j) ∧ (∀ t, t < 8 → 2 + j ≤ t → ecl w t = -1) ∧ S < 512 ∧ ((fJ bs n i 2 f0 p0 (2 + j)).1 = 0 → j ≤ 6 ∧ (∀ t, t < 2 + j → ecl w t = ns32 bs n i t) ∧ (∀ t, 2 ≤ t → t < 2 + j → 0 ≤ nv bs n i t ∧ nv bs n i t ≤ 8) ∧ (∀ b, b < 9 → (S.testBit b = true ↔ ∃ t, 2 ≤ t ∧ t < 2 + j ∧ nv bs n i t = b)))
/-- the fault behind one person more -/
theorem RG_f {F P : Int32} {tw ou : Bool} {l : Nat} (hF : F ≠ 0 → P.toInt < q.toInt ∨ (P = q ∧ F = 2)) (hb : F = 0 → bJ bs n i 2 l = (tw || ou)) (ho : tw = true → ou = false) : (cond ou (alF (cond tw (alF (cond (decide (8 ≤ l)) (alF F P 3 q) F) (cond (decide (8 ≤ l)) (alP F P 3 q) P) 2 q) (cond (decide (8 ≤ l)) (alF F P 3 q) F)) (cond tw (alP (cond (decide (8 ≤ l)) (alF F P 3 q) F) (cond (decide (8 ≤ l)) (alP F P 3 q) P) 2 q) (cond (decide (8 ≤ l)) (alP F P 3 q) P)) 2 q) (cond tw (alF (cond (decide (8 ≤ l)) (alF F P 3 q) F) (cond (decide (8 ≤ l)) (alP F P 3 q) P) 2 q) (cond (decide (8 ≤ l)) (alF F P 3 q) F)) = ntF (decide (8 ≤ l)) 3 (ntF (bJ bs n i 2 l) 2 F)) ∧ (cond ou (alP (cond tw (alF (cond (decide (8 ≤ l)) (alF F P 3 q) F) (cond (decide (8 ≤ l)) (alP F P 3 q) P) 2 q) (cond (decide (8 ≤ l)) (alF F P 3 q) F)) (cond tw (alP (cond (decide (8 ≤ l)) (alF F P 3 q) F) (cond (decide (8 ≤ l)) (alP F P 3 q) P) 2 q) (cond (decide (8 ≤ l)) (alP F P 3 q) P)) 2 q) (cond tw (alP (cond (decide (8 ≤ l)) (alF F P 3 q) F) (cond (decide (8 ≤ l)) (alP F P 3 q) P) 2 q) (cond (decide (8 ≤ l)) (alP F P 3 q) P)) = ntP (decide (8 ≤ l)) q (ntF (bJ bs n i 2 l) 2 F) (ntP (bJ bs n i 2 l) q F P)) := by
  by_cases c : F = 0
  · subst c
    rw [hb rfl]
    have z3 : (3 : Int32) ≠ 0 := by decide +kernel
    have z2 : (2 : Int32) ≠ 0 := by decide +kernel
    have n0 : ∀ kd : Int32, ntF true kd 0 = kd := fun kd => by rw [ntF_t, if_pos rfl]
    have m0 : ∀ y : Int32, ntP true q 0 y = q := fun y => by rw [ntP_t, if_pos rfl]
    have n2 : ∀ b : Bool, ntF b 3 2 = 2 := fun b => by rw [ntF_any (b' := false) (kd' := 3) z2]; rfl
    have m2 : ∀ b : Bool, ∀ y : Int32, ntP b q 2 y = y := fun b y => by rw [ntP_any (b' := false) (q' := q) z2]; rfl
    cases hl : decide (8 ≤ l) <;> cases tw <;> cases ou <;> simp only [cond_true, cond_false, al_0, al_32, Bool.or_true, Bool.or_false, Bool.true_or, n0, m0, n2, m2] <;> first | exact ⟨rfl, rfl⟩ | exact (Bool.noConfusion (ho rfl)) | exact ⟨trivial, trivial⟩
  · have s3 := al_s (kd := 3) c (hF c) (by rw [three32]; decide)
    have s2 := al_s (kd := 2) c (hF c) (by rw [two32]; decide)
    have e1 : ∀ b b' : Bool, ntF b 3 (ntF b' 2 F) = F := fun b b' => by
      rw [ntF_any (b' := false) (kd' := 2) (b := b') c]
      rw [show ntF false 2 F = F from rfl, ntF_any (b' := false) (kd' := 3) c]
      rfl
    have e2 : ∀ b b' : Bool, ntP b q (ntF b' 2 F) (ntP b' q F P) = P := fun b b' => by
      rw [ntF_any (b' := false) (kd' := 2) (b := b') c, ntP_any (b' := false) (q' := q) (b := b') c]
      rw [show ntF false 2 F = F from rfl, show ntP false q F P = P from rfl, ntP_any (b' := false) (q' := q) c]
      rfl
    rw [e1, e2]
    cases decide (8 ≤ l) <;> cases tw <;> cases ou <;> simp only [cond_true, cond_false, s3, s2, s3.1, s3.2, s2.1, s2.2, and_self]
end GA2
