section
/-! ===== the class's reader: a number judged ===== -/
section FI
variable {X : pm_X} {k : Nat} {w w' : pm_W} {r : Option Value} {p p1 p2 p3 : Int32}
/-- a number that is told twice: two people alike, one in a ring already -/
def twi (v l : Nat) (x : Int32) (ns : Nat → Int32) : Prop := ((v = 0 ∨ v = 1 ∨ v = 7 ∨ v = 12) ∧ l = 1 ∧ x = ns 0) ∨ (v = 2 ∧ ∃ t, 2 ≤ t ∧ t < l ∧ t < 8 ∧ x = ns t)
def lwL (v l : Nat) : Int := ((xA pg_arr 2).getD (4 * v + min l 3) 0).toInt
def lwH (v l : Nat) : Int := ((xA pg_arr 3).getD (4 * v + min l 3) 0).toInt
def badN (v l : Nat) (x : Int32) (ns : Nat → Int32) : Prop := x.toInt < lwL v l ∨ lwH v l < x.toInt ∨ twi v l x ns
/-- the class's numbers -/
def cns (w : pm_W) (j : Nat) : Int32 := (gA w 31).getD j 0
theorem eight32 : (8 : Int32).toInt = 8 := by decide +kernel
theorem F48_54 {l : Nat} {i1 i2 : Int32} (hl : i2.toInt = l) : ∀ (k : Nat) (w : pm_W) (t : Nat) (x : Int32), SK w → x.toInt = t → (∀ u, 2 ≤ u → u < t → gI w 23 8 ≠ cns w u) → PS X k 48 54 [.ref 23, .int i1, .int i2, .int x] [] w r w' → w' = w ∧ ∃ b : Bool, r = some (.int (b2i b)) ∧ (b = true ↔ ∃ u, (2 ≤ u ∧ u < t ∧ False) ∨ (t ≤ u ∧ u < l ∧ u < 8 ∧ gI w 23 8 = cns w u)) := by
  intro k
  induction k with
  | zero => intro w t x hS hx hm h; exact (PS_0 h).elim
  | succ k ih =>
    intro w t x hS hx hm h
    have h := U48_54 hS h
    by_cases c1 : i2 ≤ x
    · rw [if_pos c1] at h
      rw [Int32.le_iff_toInt_le, hl, hx] at c1
      refine ⟨h.2, false, h.1, fun z => (Bool.false_ne_true z).elim, ?_⟩
      rintro ⟨u, ⟨_, _, z⟩ | ⟨z1, z2, _⟩⟩
      · exact z.elim
      · omega
    · rw [if_neg c1] at h
      rw [Int32.le_iff_toInt_le, hl, hx] at c1
      by_cases c2 : 8 ≤ x
      · rw [if_pos c2] at h
        rw [Int32.le_iff_toInt_le, eight32, hx] at c2
        refine ⟨h.2, false, h.1, fun z => (Bool.false_ne_true z).elim, ?_⟩
        rintro ⟨u, ⟨_, _, z⟩ | ⟨z1, z2, z3, _⟩⟩
        · exact z.elim
        · omega
      · rw [if_neg c2] at h
        rw [Int32.le_iff_toInt_le, eight32, hx] at c2
        have h := h.2
        have ea : aG w 31 x = cns w t := by
          unfold aG cns
          rw [i_nat hx]
        rw [ea] at h
        by_cases c3 : gI w 23 8 = cns w t
        · rw [if_pos c3] at h
          exact ⟨h.2, true, h.1, fun _ => ⟨t, Or.inr ⟨Nat.le_refl _, by omega, by omega, c3⟩⟩, fun _ => rfl⟩
        · rw [if_neg c3] at h
          obtain ⟨g1, b, g2, g3⟩ := ih w (t + 1) (x + 1) hS (by rw [zi_inc (n := 8) (by omega) (by omega), hx]; rfl) (fun u h1 h2 => by
            by_cases e : u = t
            · rw [e]; exact c3
            · exact hm u h1 (by omega)) h
          refine ⟨g1, b, g2, g3.trans ⟨?_, ?_⟩⟩
          · rintro ⟨u, ⟨_, _, z⟩ | ⟨z1, z2⟩⟩
            · exact z.elim
            · exact ⟨u, Or.inr ⟨by omega, z2⟩⟩
          · rintro ⟨u, ⟨_, _, z⟩ | ⟨z1, z2, z3, z4⟩⟩
            · exact z.elim
            · refine ⟨u, Or.inr ⟨?_, z2, z3, z4⟩⟩
              by_cases e : u = t
              · rw [e] at z4; exact absurd z4 c3
              · omega
theorem F48 {v l : Nat} (hS : SK w) (hv : p1.toInt = v) (hl : p2.toInt = l) (h : PS X k 48 0 [.ref 23, .int p1, .int p2, pm_dead] [] w r w') : w' = w ∧ ∃ b : Bool, r = some (.int (b2i b)) ∧ (b = true ↔ twi v l (gI w 23 8) (cns w)) := by
  cases k with
  | zero => exact (PS_0 h).elim
  | succ k =>
    have h := U48_0 hS h
    have g : ∀ (q : Int32) (n : Nat), q.toInt = n → (p1 = q ↔ v = n) := by
      intro q n hq
      rw [← Int32.toInt_inj, hv, hq]
      omega
    have g1 : p2 = 1 ↔ l = 1 := by
      rw [← Int32.toInt_inj, hl, o32]
      omega
    have e0 : aG w 31 0 = cns w 0 := by
      unfold aG cns
      rw [i_nat (n := 0) z32]
    rw [e0] at h
    unfold twi
    -- two people
    have two : (v = 0 ∨ v = 1 ∨ v = 7 ∨ v = 12) → (if p2 = 1 then (aI w 31 0 ∧ (if (gI w 23 8) = cns w 0 then (r = some (.int 1) ∧ w' = w) else (r = some (.int 0) ∧ w' = w))) else (r = some (.int 0) ∧ w' = w)) → w' = w ∧ ∃ b : Bool, r = some (.int (b2i b)) ∧ (b = true ↔ ((v = 0 ∨ v = 1 ∨ v = 7 ∨ v = 12) ∧ l = 1 ∧ gI w 23 8 = cns w 0) ∨ (v = 2 ∧ ∃ t, 2 ≤ t ∧ t < l ∧ t < 8 ∧ gI w 23 8 = cns w t)) := by
      intro hvv q
      by_cases c : p2 = 1
      · rw [if_pos c] at q
        rw [g1] at c
        have q := q.2
        by_cases c2 : gI w 23 8 = cns w 0
        · rw [if_pos c2] at q
          exact ⟨q.2, true, q.1, fun _ => Or.inl ⟨hvv, c, c2⟩, fun _ => rfl⟩
        · rw [if_neg c2] at q
          refine ⟨q.2, false, q.1, fun z => (Bool.false_ne_true z).elim, ?_⟩
          rintro (⟨_, _, z⟩ | ⟨z, _⟩)
          · exact absurd z c2
          · omega
      · rw [if_neg c] at q
        rw [g1] at c
        refine ⟨q.2, false, q.1, fun z => (Bool.false_ne_true z).elim, ?_⟩
        rintro (⟨_, z, _⟩ | ⟨z, _⟩)
        · exact absurd z c
        · omega
    by_cases c0 : p1 = 0
    · rw [if_pos c0] at h
      rw [g 0 0 z32] at c0
      exact two (Or.inl c0) h
    rw [if_neg c0] at h
    rw [g 0 0 z32] at c0
    by_cases c1 : p1 = 1
    · rw [if_pos c1] at h
      rw [g 1 1 o32] at c1
      exact two (Or.inr (Or.inl c1)) h
    rw [if_neg c1] at h
    rw [g 1 1 o32] at c1
    by_cases c7 : p1 = 7
    · rw [if_pos c7] at h
      rw [g 7 7 (by decide +kernel)] at c7
      exact two (Or.inr (Or.inr (Or.inl c7))) h
    rw [if_neg c7] at h
    rw [g 7 7 (by decide +kernel)] at c7
    by_cases c12 : p1 = 12
    · rw [if_pos c12] at h
      rw [g 12 12 (by decide +kernel)] at c12
      exact two (Or.inr (Or.inr (Or.inr c12))) h
    rw [if_neg c12] at h
    rw [g 12 12 (by decide +kernel)] at c12
    by_cases c2 : p1 = 2
    · rw [if_pos c2] at h
      rw [g 2 2 two32] at c2
      obtain ⟨z1, b, z2, z3⟩ := F48_54 hl _ _ 2 _ hS two32 (fun u h1 h2 => by omega) h
      refine ⟨z1, b, z2, z3.trans ⟨?_, ?_⟩⟩
      · rintro ⟨u, ⟨_, _, z⟩ | z⟩
        · exact z.elim
        · exact Or.inr ⟨c2, u, z⟩
      · rintro (⟨z, _⟩ | ⟨_, u, z⟩)
        · omega
        · exact ⟨u, Or.inr z⟩
    · rw [if_neg c2] at h
      rw [g 2 2 two32] at c2
      refine ⟨h.2, false, h.1, fun z => (Bool.false_ne_true z).elim, ?_⟩
      rintro (⟨z, _⟩ | ⟨z, _⟩)
      · omega
      · exact absurd z c2
/-- a fault of this kind, if there is none yet -/
def ntF (b : Bool) (kd f : Int32) : Int32 := cond (b && decide (f = 0)) kd f
def ntP (b : Bool) (q f p : Int32) : Int32 := cond (b && decide (f = 0)) q p
theorem ntF_t {kd f : Int32} : ntF true kd f = (if f = 0 then kd else f) := by
  unfold ntF
  by_cases c : f = 0
  · rw [if_pos c, decide_eq_true c]; rfl
  · rw [if_neg c, decide_eq_false c]; rfl
theorem ntP_t {q f p : Int32} : ntP true q f p = (if f = 0 then q else p) := by
  unfold ntP
  by_cases c : f = 0
  · rw [if_pos c, decide_eq_true c]; rfl
  · rw [if_neg c, decide_eq_false c]; rfl
theorem F47 {v l : Nat} (hX : XO X) (hS : SK w) (hv : p1.toInt = v) (h12 : v ≤ 12) (hl : p2.toInt = l) (h : PS X k 47 0 [.ref 23, .int p1, .int p2, pm_dead] [] w r w') : r = none ∧ FM [(23, 10), (23, 11)] [] w w' ∧ ∃ b : Bool, (b = true ↔ badN v l (gI w 23 8) (cns w)) ∧ gI w' 23 10 = ntF (decide (8 ≤ l)) 3 (ntF b 2 (gI w 23 10)) ∧ gI w' 23 11 = ntP (decide (8 ≤ l)) (gI w 23 7) (ntF b 2 (gI w 23 10)) (ntP b (gI w 23 7) (gI w 23 10) (gI w 23 11)) := by
  cases k with
  | zero => exact (PS_0 h).elim
  | succ k =>
    have h := U47_0 hS h
    have e3 : (3 : Int32).toInt = 3 := by decide +kernel
    have e4 : (4 : Int32).toInt = 4 := by decide +kernel
    have em : (if 3 < p2 then 3 else p2).toInt = (min l 3 : Nat) := by
      by_cases c : 3 < p2
      · rw [if_pos c]
        rw [Int32.lt_iff_toInt_lt, e3, hl] at c
        omega
      · rw [if_neg c]
        rw [Int32.lt_iff_toInt_lt, e3, hl] at c
        omega
    have ei : ((p1 * 4) + (if 3 < p2 then 3 else p2)).toInt = (4 * v + min l 3 : Nat) := by
      rw [zi_add (zi_mul hv e4 (by omega) (by omega)) em (by omega) (by omega)]
      omega
    rw [i_nat ei, (XO_A hX (j := 2) (by decide)).1, (XO_A hX (j := 3) (by decide)).1] at h
    have h := h.2
    -- from label 52 on: eight numbers already
    have s52 : ∀ (w2 : pm_W) (j : Nat) (x3 : Int32), SK w2 → PS X j 47 52 [.ref 23, .int p1, .int p2, .int x3] [] w2 r w' → r = none ∧ FM [(23, 10), (23, 11)] [] w2 w' ∧ gI w' 23 10 = ntF (decide (8 ≤ l)) 3 (gI w2 23 10) ∧ gI w' 23 11 = ntP (decide (8 ≤ l)) (gI w2 23 7) (gI w2 23 10) (gI w2 23 11) := by
      intro w2 j x3 hS2 q
      cases j with
      | zero => exact (PS_0 q).elim
      | succ j =>
        have q := U47_52 hS2 q
        have f67 : ∀ (w3 : pm_W), SK w3 → PS X j 47 67 [.ref 23, .int p1, .int p2, .int x3] [] w3 r w' → r = none ∧ w' = w3 := by
          intro w3 hS3 z
          cases j with
          | zero => exact (PS_0 z).elim
          | succ j => exact U47_67 hS3 z
        by_cases c : p2 < 8
        · rw [if_pos c] at q
          rw [Int32.lt_iff_toInt_lt, eight32, hl] at c
          obtain ⟨z1, z2⟩ := f67 _ hS2 q
          rw [z2, decide_eq_false (by omega)]
          exact ⟨z1, FM_refl hS2, rfl, rfl⟩
        · rw [if_neg c] at q
          rw [Int32.lt_iff_toInt_lt, eight32, hl] at c
          obtain ⟨r1, w3, q1, q2⟩ := q
          obtain ⟨e, f, g1, g2⟩ := F46 hS2 q1
          obtain ⟨z1, z2⟩ := f67 _ f.2.2.2 (q2 e f.2.2.2)
          rw [z2, decide_eq_true (by omega), ntF_t, ntP_t]
          exact ⟨z1, f, g1, g2⟩
    have s43 : ∀ (j : Nat) (x3 : Int32), PS X j 47 43 [.ref 23, .int p1, .int p2, .int x3] [] w r w' → badN v l (gI w 23 8) (cns w) → r = none ∧ FM [(23, 10), (23, 11)] [] w w' ∧ ∃ b : Bool, (b = true ↔ badN v l (gI w 23 8) (cns w)) ∧ gI w' 23 10 = ntF (decide (8 ≤ l)) 3 (ntF b 2 (gI w 23 10)) ∧ gI w' 23 11 = ntP (decide (8 ≤ l)) (gI w 23 7) (ntF b 2 (gI w 23 10)) (ntP b (gI w 23 7) (gI w 23 10) (gI w 23 11)) := by
      intro j x3 q hb
      cases j with
      | zero => exact (PS_0 q).elim
      | succ j =>
        obtain ⟨r1, w3, q1, q2⟩ := U47_43 hS q
        obtain ⟨e, f, g1, g2⟩ := F46 hS q1
        obtain ⟨z1, z2, z3, z4⟩ := s52 w3 j x3 f.2.2.2 (q2 e f.2.2.2)
        refine ⟨z1, FM_trans f z2, true, ⟨fun _ => hb, fun _ => rfl⟩, ?_, ?_⟩
        · rw [z3, g1, ntF_t]
        · rw [z4, g1, g2, ntF_t, ntP_t, FM_i f (by decide)]
    by_cases c1 : (gI w 23 8) < ((xA pg_arr 2).getD (4 * v + min l 3) 0)
    · rw [if_pos c1] at h
      rw [Int32.lt_iff_toInt_lt] at c1
      exact s43 _ _ h (Or.inl c1)
    · rw [if_neg c1] at h
      rw [Int32.lt_iff_toInt_lt] at c1
      have h := h.2
      by_cases c2 : ((xA pg_arr 3).getD (4 * v + min l 3) 0) < (gI w 23 8)
      · rw [if_pos c2] at h
        rw [Int32.lt_iff_toInt_lt] at c2
        exact s43 _ _ h (Or.inr (Or.inl c2))
      · rw [if_neg c2] at h
        rw [Int32.lt_iff_toInt_lt] at c2
        obtain ⟨r1, w3, q1, q2⟩ := h
        obtain ⟨e, b, e2, hb⟩ := F48 hS hv hl q1
        subst w3
        have h := q2 _ e2 hS
        cases b with
        | true =>
          rw [if_neg (by decide +kernel)] at h
          exact s43 _ _ h (Or.inr (Or.inr (hb.mp rfl)))
        | false =>
          rw [if_pos (by decide +kernel)] at h
          obtain ⟨z1, z2, z3, z4⟩ := s52 _ _ _ hS h
          refine ⟨z1, z2, false, ⟨fun z => (Bool.false_ne_true z).elim, ?_⟩, z3, z4⟩
          rintro (z | z | z)
          · exact absurd z c1
          · exact absurd z c2
          · exact hb.mpr z
end FI
end
section
/-! ===== the class's reader: a sentence's numbers ===== -/
section FJ
variable {X : pm_X} {k : Nat} {w0 w w' : pm_W} {r : Option Value} {p p1 p2 p3 : Int32} {bs : Nat → Int32} {n i : Nat}
/-- where the j-th token behind i begins to be looked for -/
def tP (bs : Nat → Int32) (n i : Nat) : Nat → Nat
  | 0 => i
  | j + 1 => tkN bs n (tP bs n i j)
def nv (bs : Nat → Int32) (n i j : Nat) : Int := tkV bs n (tP bs n i (j + 1))
def badI (v l : Nat) (x : Int) (ns : Nat → Int) : Prop := x < lwL v l ∨ lwH v l < x ∨ ((v = 0 ∨ v = 1 ∨ v = 7 ∨ v = 12) ∧ l = 1 ∧ x = ns 0) ∨ (v = 2 ∧ ∃ t, 2 ≤ t ∧ t < l ∧ t < 8 ∧ x = ns t)
theorem badN_I {v l : Nat} {x : Int32} {ns : Nat → Int32} {y : Int} {NS : Nat → Int} (hx : x.toInt = y) (hns : ∀ t, t < l → t < 8 → (ns t).toInt = NS t) : badN v l x ns ↔ badI v l y NS := by
  unfold badN badI twi
  rw [hx]
  constructor
  · rintro (h | h | ⟨h1, h2, h3⟩ | ⟨h1, t, h2, h3, h4, h5⟩)
    · exact Or.inl h
    · exact Or.inr (Or.inl h)
    · exact Or.inr (Or.inr (Or.inl ⟨h1, h2, by rw [← hns 0 (by omega) (by omega), ← h3]; exact hx.symm⟩))
    · exact Or.inr (Or.inr (Or.inr ⟨h1, t, h2, h3, h4, by rw [← hns t h3 h4, ← h5]; exact hx.symm⟩))
  · rintro (h | h | ⟨h1, h2, h3⟩ | ⟨h1, t, h2, h3, h4, h5⟩)
    · exact Or.inl h
    · exact Or.inr (Or.inl h)
    · exact Or.inr (Or.inr (Or.inl ⟨h1, h2, Int32.toInt_inj.mp (by rw [hx, hns 0 (by omega) (by omega)]; exact h3)⟩))
    · exact Or.inr (Or.inr (Or.inr ⟨h1, t, h2, h3, h4, Int32.toInt_inj.mp (by rw [hx, hns t h3 h4]; exact h5)⟩))
noncomputable def bJ (bs : Nat → Int32) (n i v l : Nat) : Bool := @decide (badI v l (nv bs n i l) (nv bs n i)) (Classical.propDecidable _)
theorem bJ_iff {v l : Nat} : bJ bs n i v l = true ↔ badI v l (nv bs n i l) (nv bs n i) := @decide_eq_true_iff _ (Classical.propDecidable _)
def pl (bs : Nat → Int32) (n i : Nat) : Int32 := Int32.ofNat (tkS bs n i)
/-- the fault, its place, behind l numbers -/
noncomputable def fJ (bs : Nat → Int32) (n i v : Nat) (f p : Int32) : Nat → Int32 × Int32
  | 0 => (f, p)
  | l + 1 => (ntF (decide (8 ≤ l)) 3 (ntF (bJ bs n i v l) 2 (fJ bs n i v f p l).1), ntP (decide (8 ≤ l)) (pl bs n (tP bs n i (l + 1))) (ntF (bJ bs n i v l) 2 (fJ bs n i v f p l).1) (ntP (bJ bs n i v l) (pl bs n (tP bs n i (l + 1))) (fJ bs n i v f p l).1 (fJ bs n i v f p l).2))
def fl6 : List (Nat × Nat) := [(23, 5), (23, 6), (23, 7), (23, 8), (23, 10), (23, 11)]
/-- behind j numbers -/
def RI (w0 w : pm_W) (bs : Nat → Int32) (n i v : Nat) (f p : Int32) (j : Nat) : Prop := FM fl6 [31] w0 w ∧ CTk w bs n (tP bs n i (j + 1)) ∧ gI w 23 10 = (fJ bs n i v f p j).1 ∧ gI w 23 11 = (fJ bs n i v f p j).2 ∧ ∀ t, t < j → t < 8 → (cns w t).toInt = nv bs n i t
theorem i32_of {x : Int32} {m : Nat} (h : x.toInt = m) (hm : m ≤ 2147483647) : x = Int32.ofNat m := by
  refine Int32.toInt_inj.mp ?_
  rw [h]
  exact (nI_toInt (by have e : (2 ^ 31 : Nat) = 2147483648 := by decide
                      omega)).symm
theorem tP_le (hi : i ≤ n) : ∀ j, tP bs n i j ≤ n
  | 0 => hi
  | j + 1 => (tkN_n (tP_le hi j)).2
theorem tP_grow : ∀ j, (∀ t, t < j → tkK bs n (tP bs n i t) ≠ 0) → i + j ≤ tP bs n i j
  | 0, h => Nat.le_refl _
  | j + 1, h => by
    have q := tP_grow j (fun t ht => h t (by omega))
    have b := tkN_b (h j (by omega))
    have s := tkS_b (bs := bs) (n := n) (i := tP bs n i j)
    show i + (j + 1) ≤ tkN bs n (tP bs n i j)
    omega
theorem CT_FM {w1 : pm_W} {fs : List (Nat × Nat)} {as : List Nat} (h : CTk w bs n i) (f : FM fs as w w1) (h5 : (23, 5) ∉ fs) (h6 : (23, 6) ∉ fs) (h7 : (23, 7) ∉ fs) (h8 : (23, 8) ∉ fs) : CTk w1 bs n i := by
  unfold CTk
  rw [FM_i f h5, FM_i f h6, FM_i f h7, FM_i f h8]
  exact h
/-- the class's next token, as CTk says it -/
theorem CT_next (hS : SK w) (hc : cb w = bs) (hn : cn w = n) (hT : CTk w bs n i) (h : PS X k 23 0 [.ref 23, pm_dead] [] w r w') : r = none ∧ FM [(23, 5), (23, 6), (23, 7), (23, 8)] [] w w' ∧ CTk w' bs n (tkN bs n i) := by
  obtain ⟨z1, z2, z3⟩ := F23 hS (by rw [hT.2.2.1]; omega) h
  have ec : cat w = tkN bs n i := by unfold cat; rw [hT.2.2.1]; omega
  unfold TKc at z3
  rw [hc, hn, ec] at z3
  exact ⟨z1, z2, z3⟩
def dueN (v : Nat) : Nat := ((xA pg_arr 1).getD v 0).toInt.toNat
theorem dueN_i {v : Nat} (h : v ≤ 12) : ((xA pg_arr 1).getD v 0).toInt = dueN v ∧ dueN v ≤ 4 := thirteen (P := fun v => ((xA pg_arr 1).getD v 0).toInt = dueN v ∧ dueN v ≤ 4) h (by decide +kernel) (by decide +kernel) (by decide +kernel) (by decide +kernel) (by decide +kernel) (by decide +kernel) (by decide +kernel) (by decide +kernel) (by decide +kernel) (by decide +kernel) (by decide +kernel) (by decide +kernel) (by decide +kernel)
theorem F29_39 (hX : XO X) {v : Nat} {f p s0 : Int32} (hc0 : cb w0 = bs) (hn0 : cn w0 = n) (hq0 : gR w0 23 3 ≠ 31) (hn6 : n ≤ 600) (hi : i ≤ n) (hv : p2.toInt = v) (h12 : v ≤ 12) (hk0 : tkK bs n i = 1) : ∀ (k : Nat) (w : pm_W) (j : Nat) (x y : Int32), RI w0 w bs n i v f p j → (∀ t, t < j → tkK bs n (tP bs n i (t + 1)) = 2) → (v ≠ 2 → j ≤ dueN v) → x.toInt = j → y.toInt = j → PS X k 29 39 [.ref 23, .int s0, .int p2, .int x, .int y] [] w r w' → ∃ m, (∀ t, t < m → tkK bs n (tP bs n i (t + 1)) = 2) ∧ (v ≠ 2 → m ≤ dueN v) ∧ ((v ≠ 2 ∧ m = dueN v ∧ tkK bs n (tP bs n i (m + 1)) = 2 ∧ r = some (.int 0) ∧ RI w0 w' bs n i v f p m) ∨ (tkK bs n (tP bs n i (m + 1)) ≠ 2 ∧ ∃ (k' : Nat) (w1 : pm_W) (x' y' : Int32), x'.toInt = m ∧ RI w0 w1 bs n i v f p m ∧ PS X k' 29 107 [.ref 23, .int s0, .int p2, .int x', .int y'] [] w1 r w')) := by
  intro k
  induction k with
  | zero => intro w j x y hR ht hd hx hy h; exact (PS_0 h).elim
  | succ k ih =>
    intro w j x y hR ht hd hx hy h
    obtain ⟨fm, hT, hf, hp, hns⟩ := hR
    have hS := fm.2.2.2
    have h := U29_39 hS h
    have hcw : cb w = bs := (cb_FM fm (by decide) (by intro z; exact hq0 (List.mem_singleton.mp z))).trans hc0
    have hnw : cn w = n := (cn_FM fm (by decide)).trans hn0
    have h4 : ((gI w 23 4).toInt.toNat : Nat) = n := hnw
    have stop : tkK bs n (tP bs n i (j + 1)) ≠ 2 → PS X k 29 107 [.ref 23, .int s0, .int p2, .int x, .int y] [] w r w' → ∃ m, (∀ t, t < m → tkK bs n (tP bs n i (t + 1)) = 2) ∧ (v ≠ 2 → m ≤ dueN v) ∧ ((v ≠ 2 ∧ m = dueN v ∧ tkK bs n (tP bs n i (m + 1)) = 2 ∧ r = some (.int 0) ∧ RI w0 w' bs n i v f p m) ∨ (tkK bs n (tP bs n i (m + 1)) ≠ 2 ∧ ∃ (k' : Nat) (w1 : pm_W) (x' y' : Int32), x'.toInt = m ∧ RI w0 w1 bs n i v f p m ∧ PS X k' 29 107 [.ref 23, .int s0, .int p2, .int x', .int y'] [] w1 r w')) := fun hk q => ⟨j, ht, hd, Or.inr ⟨hk, k, w, x, y, hx, ⟨fm, hT, hf, hp, hns⟩, q⟩⟩
    by_cases c1 : gI w 23 4 ≤ y
    · rw [if_pos c1] at h
      rw [Int32.le_iff_toInt_le, hy] at c1
      refine stop ?_ h
      intro hk
      have g := tP_grow (bs := bs) (n := n) (i := i) (j + 1) (fun t htt => by
        cases t with
        | zero => show tkK bs n i ≠ 0; rw [hk0]; decide
        | succ t => rw [ht t (by omega)]; decide)
      have b := tkN_b (bs := bs) (n := n) (i := tP bs n i (j + 1)) (by rw [hk]; decide)
      have s := tkS_b (bs := bs) (n := n) (i := tP bs n i (j + 1))
      omega
    · rw [if_neg c1] at h
      by_cases c2 : gI w 23 6 = 2
      · rw [if_pos c2] at h
        rw [hT.1, show (2 : Int32) = Int32.ofNat 2 from by decide +kernel, tkK_inj tkK_4 (by decide)] at c2
        rw [i_nat hv, (XO_A hX (j := 1) (by decide)).1] at h
        have h := h.2
        obtain ⟨dd, d4⟩ := dueN_i h12
        -- one number more
        have more : PS X k 29 72 [.ref 23, .int s0, .int p2, .int x, .int y] [] w r w' → (v ≠ 2 → j + 1 ≤ dueN v) → ∃ m, (∀ t, t < m → tkK bs n (tP bs n i (t + 1)) = 2) ∧ (v ≠ 2 → m ≤ dueN v) ∧ ((v ≠ 2 ∧ m = dueN v ∧ tkK bs n (tP bs n i (m + 1)) = 2 ∧ r = some (.int 0) ∧ RI w0 w' bs n i v f p m) ∨ (tkK bs n (tP bs n i (m + 1)) ≠ 2 ∧ ∃ (k' : Nat) (w1 : pm_W) (x' y' : Int32), x'.toInt = m ∧ RI w0 w1 bs n i v f p m ∧ PS X k' 29 107 [.ref 23, .int s0, .int p2, .int x', .int y'] [] w1 r w')) := by
          intro q hd2
          cases k with
          | zero => exact (PS_0 q).elim
          | succ k =>
            obtain ⟨r1, w2, q1, q2⟩ := U29_72 hS q
            obtain ⟨z1, f2, b, hb, g1, g2⟩ := F47 hX hS hv h12 hx q1
            have hS2 := f2.2.2.2
            have q := q2 z1 hS2
            have f2' : FM fl6 [31] w w2 := FM_mono f2 (by decide) (by decide)
            have eb : b = bJ bs n i v j := by
              have e := hb.trans (badN_I (y := nv bs n i j) (NS := nv bs n i) (hT.2.2.2 c2) hns)
              rw [← bJ_iff] at e
              exact Bool.eq_iff_iff.mpr e
            have hpl : gI w 23 7 = pl bs n (tP bs n i (j + 1)) := i32_of hT.2.1 (by have := (tkN_n (bs := bs) (tP_le (bs := bs) hi (j + 1))).1; omega)
            rw [eb, hf] at g1
            rw [eb, hf, hp, hpl] at g2
            have hT2 : CTk w2 bs n (tP bs n i (j + 1)) := CT_FM hT f2 (by decide) (by decide) (by decide) (by decide)
            -- from label 94 on
            have s94 : ∀ w3 : pm_W, FM fl6 [31] w w3 → gI w3 23 10 = (fJ bs n i v f p (j + 1)).1 → gI w3 23 11 = (fJ bs n i v f p (j + 1)).2 → CTk w3 bs n (tP bs n i (j + 1)) → (∀ t, t < j + 1 → t < 8 → (cns w3 t).toInt = nv bs n i t) → PS X k 29 94 [.ref 23, .int s0, .int p2, .int x, .int y] [] w3 r w' → ∃ m, (∀ t, t < m → tkK bs n (tP bs n i (t + 1)) = 2) ∧ (v ≠ 2 → m ≤ dueN v) ∧ ((v ≠ 2 ∧ m = dueN v ∧ tkK bs n (tP bs n i (m + 1)) = 2 ∧ r = some (.int 0) ∧ RI w0 w' bs n i v f p m) ∨ (tkK bs n (tP bs n i (m + 1)) ≠ 2 ∧ ∃ (k' : Nat) (w1 : pm_W) (x' y' : Int32), x'.toInt = m ∧ RI w0 w1 bs n i v f p m ∧ PS X k' 29 107 [.ref 23, .int s0, .int p2, .int x', .int y'] [] w1 r w')) := by
              intro w3 f3 e10 e11 hT3 hns3 z
              cases k with
              | zero => exact (PS_0 z).elim
              | succ k =>
                have hS3 := f3.2.2.2
                have f03 := FM_trans fm f3
                have hcw3 : cb w3 = bs := (cb_FM f03 (by decide) (by intro z; exact hq0 (List.mem_singleton.mp z))).trans hc0
                have hnw3 : cn w3 = n := (cn_FM f03 (by decide)).trans hn0
                obtain ⟨r4, w4, z1, z2⟩ := U29_94 hS3 z
                obtain ⟨u1, u2, u3⟩ := CT_next hS3 hcw3 hnw3 hT3 z1
                have z := z2 u1 u2.2.2.2
                have n6 := hn6
                have jn : j < 2147483647 := by
                  have := zi_hi x
                  have g := tP_grow (bs := bs) (n := n) (i := i) (j + 1) (fun t htt => by
                    cases t with
                    | zero => show tkK bs n i ≠ 0; rw [hk0]; decide
                    | succ t => rw [ht t (by omega)]; decide)
                  have := tP_le (bs := bs) hi (j + 1)
                  omega
                refine ih w4 (j + 1) (x + 1) (y + 1) ⟨FM_trans f03 (FM_mono u2 (by decide) (by decide)), u3, by rw [FM_i u2 (by decide)]; exact e10, by rw [FM_i u2 (by decide)]; exact e11, fun t h1 h2 => ?_⟩ (fun t htt => ?_) hd2 ?_ ?_ (PS_mono (by omega) z)
                · have e : cns w4 t = cns w3 t := by unfold cns; rw [FM_a u2 (by decide)]
                  rw [e]
                  exact hns3 t h1 h2
                · by_cases e : t = j
                  · rw [e]; exact c2
                  · exact ht t (by omega)
                · rw [zi_inc (n := 2147483647) (by omega) (by omega), hx]; rfl
                · rw [zi_inc (n := 2147483647) (by omega) (by omega), hy]; rfl
            have hns2 : ∀ t, t < j → t < 8 → (cns w2 t).toInt = nv bs n i t := by
              intro t h1 h2
              have e : cns w2 t = cns w t := by unfold cns; rw [FM_a f2 (by decide)]
              rw [e]
              exact hns t h1 h2
            by_cases c8 : 8 ≤ x
            · rw [if_pos c8] at q
              rw [Int32.le_iff_toInt_le, eight32, hx] at c8
              exact s94 w2 f2' g1 g2 hT2 (fun t h1 h2 => hns2 t (by omega) h2) q
            · rw [if_neg c8] at q
              rw [Int32.le_iff_toInt_le, eight32, hx] at c8
              have q3 := q.2 _ rfl
              have hI := q.1
              obtain ⟨w3, e3⟩ : ∃ w3, w3 = aS w2 31 x (gI w2 23 8) := ⟨_, rfl⟩
              rw [← e3] at q3
              have f3 : FM fl6 [31] w2 w3 := by rw [e3]; exact FM_aS hS2 (by decide)
              have i3 : ∀ a m, gI w3 a m = gI w2 a m := fun a m => by rw [e3]; exact gI_aS
              refine s94 w3 (FM_trans f2' f3) (by rw [i3]; exact g1) (by rw [i3]; exact g2) (by unfold CTk; rw [i3, i3, i3, i3]; exact hT2) (fun t h1 h2 => ?_) q3
              have ea : gA w3 31 = (gA w2 31).set j (gI w2 23 8) := by
                rw [e3, gA_aS (aI_isA hI), i_nat hx]
              unfold cns
              rw [ea]
              by_cases e : t = j
              · rw [e, gz_eq (by unfold aI iN at hI; omega), FM_i f2 (by decide)]
                exact hT.2.2.2 c2
              · rw [gz_ne (fun z => e z.symm)]
                exact hns2 t (by omega) h2
        by_cases c3 : x < ((xA pg_arr 1).getD v 0)
        · rw [if_pos c3] at h
          rw [Int32.lt_iff_toInt_lt, dd, hx] at c3
          exact more h (fun _ => by omega)
        · rw [if_neg c3] at h
          rw [Int32.lt_iff_toInt_lt, dd, hx] at c3
          by_cases c4 : p2 = 2
          · rw [if_pos c4] at h
            have e2 : v = 2 := by
              have := congrArg Int32.toInt c4
              rw [hv, two32] at this
              omega
            exact more h (fun z => absurd e2 z)
          · rw [if_neg c4] at h
            have e2 : v ≠ 2 := by
              intro z
              refine c4 (Int32.toInt_inj.mp ?_)
              rw [hv, two32, z]
              rfl
            refine ⟨j, ht, hd, Or.inl ⟨e2, by have := hd e2; omega, c2, h.1, ?_⟩⟩
            rw [h.2]
            exact ⟨fm, hT, hf, hp, hns⟩
      · rw [if_neg c2] at h
        rw [hT.1, show (2 : Int32) = Int32.ofNat 2 from by decide +kernel, tkK_inj tkK_4 (by decide)] at c2
        exact stop c2 h
end FJ
end
section
/-! ===== the class's reader: what a sentence leaves ===== -/
theorem ofN_i {m : Nat} (h : m ≤ 2147483647) : (Int32.ofNat m).toInt = m := by
  have e : (2 ^ 31 : Nat) = 2147483648 := by decide
  exact nI_toInt (by omega)
theorem four32 : (4 : Int32).toInt = 4 := by decide +kernel
theorem three32 : (3 : Int32).toInt = 3 := by decide +kernel
theorem aG_n {w : pm_W} {x : Int32} {m a : Nat} (h : x.toInt = m) : aG w a x = (gA w a).getD m 0 := by
  unfold aG
  rw [i_nat h]
section FZ
variable {X : pm_X} {k : Nat} {w0 w w' : pm_W} {r : Option Value} {p p1 p2 p3 : Int32} {a b v : Nat}
theorem F52 (hS : SK w) (h : PS X k 52 0 [.int p1, .int p2] [] w r w') : r = some (.int (p1 * 9 + p2)) ∧ w' = w := by
  cases k with
  | zero => exact (PS_0 h).elim
  | succ k => exact U52_0 hS h
/-- a village's cells, as the reference numbers them -/
def vcl (w : pm_W) (v k : Nat) : Int32 := if k = 0 then gI w v 0 else if k = 1 then gI w v 2 else if k = 2 then gI w v 1 else if k < 84 then (gA w (gR w v 3)).getD (k - 3) 0 else if k < 93 then (gA w (gR w v 4)).getD (k - 84) 0 else if k < 102 then (gA w (gR w v 5)).getD (k - 93) 0 else if k < 130 then (gA w (gR w v 6)).getD (k - 102) 0 else 0
def updc (c : Nat → Int32) (k : Nat) (x : Int32) : Nat → Int32 := fun j => if j = k then x else c j
theorem getD_set {xs : List Int32} {i j : Nat} {x : Int32} (h : i < xs.length) : (xs.set i x).getD j 0 = if j = i then x else xs.getD j 0 := by
  by_cases e : j = i
  · rw [if_pos e, e]
    exact gz_eq h
  · rw [if_neg e]
    exact gz_ne (fun z => e z.symm)
theorem cpy_getF {xs ys : List Int32} {sp dp n q : Nat} (h1 : sp + n ≤ xs.length) (h2 : dp + n ≤ ys.length) : (pm_cpy xs ys sp dp n).getD q 0 = if dp ≤ q ∧ q < dp + n then xs.getD (sp + (q - dp)) 0 else ys.getD q 0 := by
  unfold pm_cpy
  have l1 : (ys.take dp).length = dp := by rw [List.length_take]; omega
  have l2 : ((xs.drop sp).take n).length = n := by rw [List.length_take, List.length_drop]; omega
  rw [List.getD_eq_getElem?_getD, List.getD_eq_getElem?_getD, List.getD_eq_getElem?_getD]
  by_cases c1 : q < dp
  · rw [if_neg (by omega), List.getElem?_append_left (by rw [List.length_append, l1]; omega), List.getElem?_append_left (by omega), List.getElem?_take_of_lt c1]
  · by_cases c2 : q < dp + n
    · rw [if_pos ⟨by omega, c2⟩, List.getElem?_append_left (by rw [List.length_append, l1, l2]; omega), List.getElem?_append_right (by omega), l1, List.getElem?_take_of_lt (by omega), List.getElem?_drop]
    · rw [if_neg (by omega), List.getElem?_append_right (by rw [List.length_append, l1, l2]; omega), List.length_append, l1, l2, List.getElem?_drop, show dp + n + (q - (dp + n)) = q by omega]
theorem cpS_A {a0 a1 : Nat} {sp dp n : Int32} (h : cpI w a0 a1 sp dp n) (hA : isA w a1) : gA (cpS w a0 a1 sp dp n) a1 = pm_cpy (gA w a0) (gA w a1) sp.toInt.toNat dp.toInt.toNat n.toInt.toNat := gA_sA hA
theorem FM_cpS {fs : List (Nat × Nat)} {as : List Nat} {a0 a1 : Nat} {sp dp n : Int32} (hc : cpI w a0 a1 sp dp n) (hS : SK w) (h : a1 ∈ as) : FM fs as w (cpS w a0 a1 sp dp n) := FM_sA (cpS_len hc) hS h
/-- an array filled -/
theorem F20_5 {i1 : Int32} {N : Nat} {y : Int32} (hy : y.toInt = N) : ∀ (k : Nat) (w : pm_W) (j : Nat) (x : Int32), SK w → x.toInt = j → j ≤ N → PS X k 20 5 [.ref a, .int i1, .int x, .int y] [] w r w' → r = none ∧ FM [] [a] w w' ∧ (gA w' a).length = (gA w a).length ∧ (∀ q, q < j → (gA w' a).getD q 0 = (gA w a).getD q 0) ∧ (∀ q, j ≤ q → q < N → (gA w' a).getD q 0 = i1) := by
  intro k
  induction k with
  | zero => intro w j x hS hx hj h; exact (PS_0 h).elim
  | succ k ih =>
    intro w j x hS hx hj h
    have h := U20_5 hS h
    by_cases c : y ≤ x
    · rw [if_pos c] at h
      rw [Int32.le_iff_toInt_le, hy, hx] at c
      rw [h.2]
      exact ⟨h.1, FM_refl hS, rfl, fun _ _ => rfl, fun q h1 h2 => by omega⟩
    · rw [if_neg c] at h
      rw [Int32.le_iff_toInt_le, hy, hx] at c
      have hI := h.1
      have h := h.2 _ rfl
      have hh := zi_hi y
      obtain ⟨w1, e⟩ : ∃ w1, w1 = aS w a x i1 := ⟨_, rfl⟩
      rw [← e] at h
      have hS1 : SK w1 := by rw [e]; exact SK_aS hS
      have g1 : gA w1 a = (gA w a).set j i1 := by rw [e, gA_aS (aI_isA hI), i_nat hx]
      have lj : j < (gA w a).length := by
        unfold aI iN at hI
        omega
      obtain ⟨z1, z2, z3, z4, z5⟩ := ih w1 (j + 1) (x + 1) hS1 (by rw [zi_inc (n := N) (by omega) (by omega), hx]; rfl) (by omega) h
      refine ⟨z1, FM_trans (by rw [e]; exact FM_aS hS (by simp)) z2, by rw [z3, g1, List.length_set], fun q hq => ?_, fun q h1 h2 => ?_⟩
      · rw [z4 q (by omega), g1, gz_ne (by omega)]
      · by_cases e2 : q = j
        · rw [z4 q (by omega), g1, e2, gz_eq lj]
        · exact z5 q (by omega) h2
theorem gN_A (h : isA w a) : gN w a = (gA w a).length := by
  obtain ⟨t, ys, hw⟩ := h
  unfold gN gA
  rw [hw]
  rfl
theorem F20 (hS : SK w) (hA : isA w a) (hl : (gA w a).length ≤ 1000) (h : PS X k 20 0 [.ref a, .int p, pm_dead, pm_dead] [] w r w') : r = none ∧ FM [] [a] w w' ∧ (gA w' a).length = (gA w a).length ∧ (∀ q, q < (gA w a).length → (gA w' a).getD q 0 = p) := by
  cases k with
  | zero => exact (PS_0 h).elim
  | succ k =>
    have h := U20_0 hS h
    rw [gN_A hA] at h
    have e : (Int32.ofNat (gA w a).length).toInt = ((gA w a).length : Nat) := ofN_i (by omega)
    obtain ⟨z1, z2, z3, _, z5⟩ := F20_5 e _ _ 0 _ hS z32 (by omega) h
    exact ⟨z1, z2, z3, fun q hq => z5 q (by omega) hq⟩
/-- of Reader's village -/
theorem SK_R24 (hS : SK w) : gR w 24 3 = 25 ∧ gR w 24 4 = 26 ∧ gR w 24 5 = 27 ∧ gR w 24 6 = 28 := ⟨sk_fix hS (by decide +kernel) (by decide), sk_fix hS (by decide +kernel) (by decide), sk_fix hS (by decide +kernel) (by decide), sk_fix hS (by decide +kernel) (by decide)⟩
theorem vcl_24 (hS : SK w) (k : Nat) : vcl w 24 k = if k = 0 then gI w 24 0 else if k = 1 then gI w 24 2 else if k = 2 then gI w 24 1 else if k < 84 then (gA w 25).getD (k - 3) 0 else if k < 93 then (gA w 26).getD (k - 84) 0 else if k < 102 then (gA w 27).getD (k - 93) 0 else if k < 130 then (gA w 28).getD (k - 102) 0 else 0 := by
  obtain ⟨h1, h2, h3, h4⟩ := SK_R24 hS
  unfold vcl
  rw [h1, h2, h3, h4]
/-- what a verb of a village does to its cells -/
def kS (v : Nat) (c ns : Nat → Int32) : Nat → Int32 := match v with
  | 6 => updc c 0 (ns 0)
  | 7 => updc c (3 + (9 * (ns 0).toInt.toNat + (ns 1).toInt.toNat)) (ns 2)
  | 8 => fun k => if 3 ≤ k ∧ k < 84 then (if (k - 3) % 10 = 0 then 0 else ns 0) else c k
  | 9 => updc c (84 + (ns 0).toInt.toNat) (ns 1)
  | 10 => updc c (93 + (ns 0).toInt.toNat) (ns 1)
  | 11 => updc c 2 (ns 0)
  | _ => fun k => if k = 1 then c 1 + 1 else if 102 + 4 * (c 1).toInt.toNat ≤ k ∧ k < 106 + 4 * (c 1).toInt.toNat then ns (k - (102 + 4 * (c 1).toInt.toNat)) else c k
/-- the greatest person named -/
def gS (v : Nat) (g : Int) (ns : Nat → Int32) : Int := match v with
  | 7 => max g (max (ns 0).toInt (ns 1).toInt)
  | 12 => max g (max (ns 0).toInt (ns 1).toInt)
  | 9 => max g (ns 0).toInt
  | 10 => max g (ns 0).toInt
  | _ => g
theorem mx32 {x y : Int32} : (if x < y then y else x).toInt = max x.toInt y.toInt := by
  by_cases c : x < y
  · rw [if_pos c]
    rw [Int32.lt_iff_toInt_lt] at c
    omega
  · rw [if_neg c]
    rw [Int32.lt_iff_toInt_lt] at c
    omega
/-- all words -/
theorem F53_2 {x : Int32} : ∀ (k : Nat) (w : pm_W), SK w → (gA w 25).length = 81 → (∀ (a : Nat) (i : Int32) (u : Value), i.toInt = a → a ≤ 9 → PS X k 53 2 [.ref 24, .int x, .int i, u] [] w r w' → r = none ∧ FM [] [25] w w' ∧ (gA w' 25).length = 81 ∧ ∀ q, q < 81 → (gA w' 25).getD q 0 = if q < 9 * a then (gA w 25).getD q 0 else if q % 10 = 0 then 0 else x) ∧ (∀ (a b : Nat) (i j : Int32), i.toInt = a → a ≤ 8 → j.toInt = b → b ≤ 9 → PS X k 53 10 [.ref 24, .int x, .int i, .int j] [] w r w' → r = none ∧ FM [] [25] w w' ∧ (gA w' 25).length = 81 ∧ ∀ q, q < 81 → (gA w' 25).getD q 0 = if q < 9 * a + b then (gA w 25).getD q 0 else if q % 10 = 0 then 0 else x) := by
  intro k
  have e9 : (9 : Int32).toInt = 9 := by decide +kernel
  induction k with
  | zero => intro w hS hl; exact ⟨fun a i u h1 h2 h => (PS_0 h).elim, fun a b i j h1 h2 h3 h4 h => (PS_0 h).elim⟩
  | succ k ih =>
    intro w hS hl
    refine ⟨fun a i u h1 h2 h => ?_, fun a b i j h1 h2 h3 h4 h => ?_⟩
    · have h := U53_2 hS h
      by_cases c : 9 ≤ i
      · rw [if_pos c] at h
        rw [Int32.le_iff_toInt_le, e9, h1] at c
        rw [h.2]
        exact ⟨h.1, FM_refl hS, hl, fun q hq => by rw [if_pos (by omega)]⟩
      · rw [if_neg c] at h
        rw [Int32.le_iff_toInt_le, e9, h1] at c
        exact (ih w hS hl).2 a 0 i 0 h1 (by omega) z32 (by omega) h
    · have h := U53_10 hS h
      by_cases c : 9 ≤ j
      · rw [if_pos c] at h
        rw [Int32.le_iff_toInt_le, e9, h3] at c
        have e : b = 9 := by omega
        obtain ⟨z1, z2, z3, z4⟩ := (ih w hS hl).1 (a + 1) (i + 1) _ (by rw [zi_inc (n := 9) (by omega) (by omega), h1]; rfl) (by omega) h
        refine ⟨z1, z2, z3, fun q hq => ?_⟩
        rw [z4 q hq, e, show 9 * (a + 1) = 9 * a + 9 by omega]
      · rw [if_neg c] at h
        rw [Int32.le_iff_toInt_le, e9, h3] at c
        have h := use_p hS h (fun _ _ q => F52 hS q)
        have ec : (i * 9 + j).toInt = (9 * a + b : Nat) := by
          rw [zi_add (zi_mul h1 e9 (by omega) (by omega)) h3 (by omega) (by omega)]
          omega
        have e25 := (SK_R24 hS).1
        rw [e25] at h
        have go : ∀ (y : Int32), y = (if (9 * a + b) % 10 = 0 then 0 else x) → aI w 25 (i * 9 + j) → PS X k 53 10 [.ref 24, .int x, .int i, .int (j + 1)] [] (aS w 25 (i * 9 + j) y) r w' → r = none ∧ FM [] [25] w w' ∧ (gA w' 25).length = 81 ∧ ∀ q, q < 81 → (gA w' 25).getD q 0 = if q < 9 * a + b then (gA w 25).getD q 0 else if q % 10 = 0 then 0 else x := by
          intro y hy hI z
          have g1 : gA (aS w 25 (i * 9 + j) y) 25 = (gA w 25).set (9 * a + b) y := by rw [gA_aS (aI_isA hI), i_nat ec]
          obtain ⟨z1, z2, z3, z4⟩ := (ih _ (SK_aS hS) (by rw [g1, List.length_set]; exact hl)).2 a (b + 1) i (j + 1) h1 h2 (by rw [zi_inc (n := 9) (by omega) (by omega), h3]; rfl) (by omega) z
          refine ⟨z1, FM_trans (FM_aS hS (by decide)) z2, z3, fun q hq => ?_⟩
          rw [z4 q hq, g1, getD_set (by omega)]
          by_cases c1 : q = 9 * a + b
          · rw [if_pos (by omega), if_pos c1, if_neg (by omega), c1]
            exact hy
          · by_cases c2 : q < 9 * a + b
            · rw [if_pos (by omega), if_neg c1, if_pos c2]
            · rw [if_neg (by omega), if_neg c2]
        by_cases c2 : i = j
        · rw [if_pos c2] at h
          have eab : a = b := by
            have := congrArg Int32.toInt c2
            omega
          exact go 0 (by rw [if_pos (by omega)]) h.1 (h.2 _ rfl)
        · rw [if_neg c2] at h
          have eab : a ≠ b := by
            intro z
            exact c2 (Int32.toInt_inj.mp (by omega))
          exact go x (by rw [if_neg (by omega)]) h.1 (h.2 _ rfl)
/-- a further want -/
theorem F54 (hS : SK w) (hl : (gA w 28).length = 28) (c0 : 0 ≤ (gI w 24 2).toInt) (c7 : (gI w 24 2).toInt < 7) (h : PS X k 54 0 [.ref 24, .ref 31] [] w r w') : r = none ∧ FM [(24, 2)] [28] w w' ∧ gI w' 24 2 = gI w 24 2 + 1 ∧ (gA w' 28).length = 28 ∧ ∀ q, q < 28 → (gA w' 28).getD q 0 = if 4 * (gI w 24 2).toInt.toNat ≤ q ∧ q < 4 * (gI w 24 2).toInt.toNat + 4 then cns w (q - 4 * (gI w 24 2).toInt.toNat) else (gA w 28).getD q 0 := by
  cases k with
  | zero => exact (PS_0 h).elim
  | succ k =>
    have h := U54_0 hS h
    have e7 : (7 : Int32).toInt = 7 := by decide +kernel
    rw [if_neg (by rw [Int32.le_iff_toInt_le, e7]; omega), (SK_R24 hS).2.2.2] at h
    have hI := h.1
    have h := h.2 _ rfl _ rfl
    have hA : isA w 28 := SK_isA hS (by decide +kernel)
    have ga := cpS_A hI hA
    have e4 : (gI w 24 2 * 4).toInt = (gI w 24 2).toInt * 4 := zi_mul rfl four32 (by omega) (by omega)
    have l0 : 4 ≤ (gA w 31).length := by
      obtain ⟨_, _, _, q, _⟩ := hI
      rw [z32, four32] at q
      omega
    rw [z32, e4, four32] at ga
    have ga2 : gA w' 28 = gA (cpS w 31 28 0 (gI w 24 2 * 4) 4) 28 := by rw [h.2, gA_sI]
    have hS1 : SK (cpS w 31 28 0 (gI w 24 2 * 4) 4) := SK_cpS hI hS
    refine ⟨h.1, ?_, ?_, ?_, fun q hq => ?_⟩
    · rw [h.2]
      exact FM_trans (FM_cpS hI hS (by decide)) (FM_sI hS1 (by decide))
    · rw [h.2, gI_sI (SK_isF hS1 (by decide +kernel))]
      congr 1
      exact gI_sA
    · rw [ga2, ga]
      unfold pm_cpy
      rw [List.length_append, List.length_append, List.length_take, List.length_take, List.length_drop, List.length_drop]
      omega
    · rw [ga2, ga, cpy_getF (by omega) (by omega)]
      by_cases c : 4 * (gI w 24 2).toInt.toNat ≤ q ∧ q < 4 * (gI w 24 2).toInt.toNat + 4
      · rw [if_pos c, if_pos (by omega)]
        unfold cns
        congr 1
        omega
      · rw [if_neg c, if_neg (by omega)]
/-- a further act -/
theorem F50_32 {v m b0 : Nat} {i1 i3 i4 : Int32} (hm : i3.toInt = m) (hb : i4.toInt = b0) (hb2 : b0 + 9 ≤ 270) : ∀ (k : Nat) (w : pm_W) (j : Nat) (x : Int32), SK w → (gA w 30).length = 270 → (gI w 29 0).toInt ≤ 29 → x.toInt = j → j ≤ 8 → PS X k 50 32 [.ref 29, .int i1, .ref 31, .int i3, .int i4, .int x] [] w r w' → r = none ∧ FM [(29, 0)] [30] w w' ∧ gI w' 29 0 = gI w 29 0 + 1 ∧ (gA w' 30).length = 270 ∧ ∀ q, (gA w' 30).getD q 0 = if b0 + 1 + j ≤ q ∧ q < b0 + 9 then (if q < b0 + 1 + m then cns w (q - (b0 + 1)) else -1) else (gA w 30).getD q 0 := by
  intro k
  induction k with
  | zero => intro w j x hS hl h29 hx hj h; exact (PS_0 h).elim
  | succ k ih =>
    intro w j x hS hl h29 hx hj h
    have h := U50_32 hS h
    have e30 : gR w 29 1 = 30 := sk_fix hS (by decide +kernel) (by decide)
    rw [e30] at h
    by_cases c : 8 ≤ x
    · rw [if_pos c] at h
      rw [Int32.le_iff_toInt_le, eight32, hx] at c
      have h := h _ rfl
      rw [h.2]
      refine ⟨h.1, FM_sI hS (by decide), gI_sI (SK_isF hS (by decide +kernel)), by rw [gA_sI]; exact hl, fun q => ?_⟩
      rw [gA_sI, if_neg (by omega)]
    · rw [if_neg c] at h
      rw [Int32.le_iff_toInt_le, eight32, hx] at c
      have ei : (i4 + 1 + x).toInt = (b0 + 1 + j : Nat) := by
        rw [zi_add (zi_add hb o32 (by omega) (by omega)) hx (by omega) (by omega)]
        omega
      have go : ∀ (y : Int32), y = (if j < m then cns w j else -1) → aI w 30 (i4 + 1 + x) → PS X k 50 32 [.ref 29, .int i1, .ref 31, .int i3, .int i4, .int (x + 1)] [] (aS w 30 (i4 + 1 + x) y) r w' → r = none ∧ FM [(29, 0)] [30] w w' ∧ gI w' 29 0 = gI w 29 0 + 1 ∧ (gA w' 30).length = 270 ∧ ∀ q, (gA w' 30).getD q 0 = if b0 + 1 + j ≤ q ∧ q < b0 + 9 then (if q < b0 + 1 + m then cns w (q - (b0 + 1)) else -1) else (gA w 30).getD q 0 := by
        intro y hy hI z
        have g1 : gA (aS w 30 (i4 + 1 + x) y) 30 = (gA w 30).set (b0 + 1 + j) y := by rw [gA_aS (aI_isA hI), i_nat ei]
        have gc : ∀ t, cns (aS w 30 (i4 + 1 + x) y) t = cns w t := by
          intro t
          unfold cns
          rw [gA_aS_ne (by decide)]
        obtain ⟨z1, z2, z3, z4, z5⟩ := ih _ (j + 1) (x + 1) (SK_aS hS) (by rw [g1, List.length_set]; exact hl) (by rw [gI_aS]; exact h29) (by rw [zi_inc (n := 8) (by omega) (by omega), hx]; rfl) (by omega) z
        refine ⟨z1, FM_trans (FM_aS hS (by decide)) z2, by rw [z3, gI_aS], z4, fun q => ?_⟩
        rw [z5 q, g1, getD_set (by omega)]
        by_cases c1 : q = b0 + 1 + j
        · rw [if_neg (by omega), if_pos c1, if_pos (by omega), hy, c1]
          by_cases c2 : j < m
          · rw [if_pos c2, if_pos (by omega), show b0 + 1 + j - (b0 + 1) = j by omega]
          · rw [if_neg c2, if_neg (by omega)]
        · by_cases c2 : b0 + 1 + j ≤ q ∧ q < b0 + 9
          · rw [if_pos (by omega), if_pos c2, gc]
          · rw [if_neg (by omega), if_neg c1, if_neg c2]
      by_cases c3 : i3 ≤ x
      · rw [if_pos c3] at h
        rw [Int32.le_iff_toInt_le, hm, hx] at c3
        exact go (-1) (by rw [if_neg (by omega)]) h.1 (h.2 _ rfl)
      · rw [if_neg c3] at h
        rw [Int32.le_iff_toInt_le, hm, hx] at c3
        have h := h.2
        refine go _ ?_ h.1 (h.2 _ rfl)
        rw [if_pos (by omega), aG_n (m := j) hx]
        rfl
theorem F50 {v m : Nat} (hS : SK w) (hl : (gA w 30).length = 270) (hm : p3.toInt = m) (h0 : 0 ≤ (gI w 29 0).toInt) (h29 : (gI w 29 0).toInt ≤ 29) (h : PS X k 50 0 [.ref 29, .int p1, .ref 31, .int p3, pm_dead, pm_dead] [] w r w') : r = none ∧ FM [(29, 0)] [30] w w' ∧ gI w' 29 0 = gI w 29 0 + 1 ∧ (gA w' 30).length = 270 ∧ ∀ q, (gA w' 30).getD q 0 = if q = 9 * (gI w 29 0).toInt.toNat then p1 else if 9 * (gI w 29 0).toInt.toNat + 1 ≤ q ∧ q < 9 * (gI w 29 0).toInt.toNat + 9 then (if q < 9 * (gI w 29 0).toInt.toNat + 1 + m then cns w (q - (9 * (gI w 29 0).toInt.toNat + 1)) else -1) else (gA w 30).getD q 0 := by
  cases k with
  | zero => exact (PS_0 h).elim
  | succ k =>
    have h := U50_0 hS h
    have e30 : gR w 29 1 = 30 := sk_fix hS (by decide +kernel) (by decide)
    have t30 : (30 : Int32).toInt = 30 := by decide +kernel
    have e9 : (9 : Int32).toInt = 9 := by decide +kernel
    rw [if_pos (by rw [Int32.lt_iff_toInt_lt, t30]; omega), e30] at h
    have eb : (gI w 29 0 * 9).toInt = (9 * (gI w 29 0).toInt.toNat : Nat) := by
      rw [zi_mul rfl e9 (by omega) (by omega)]
      omega
    have eb0 : (gI w 29 0 * 9 + 0).toInt = (9 * (gI w 29 0).toInt.toNat : Nat) := by
      rw [zi_add eb z32 (by omega) (by omega)]
      omega
    have hI := h.1
    have h := h.2 _ rfl
    have g1 : gA (aS w 30 (gI w 29 0 * 9 + 0) p1) 30 = (gA w 30).set (9 * (gI w 29 0).toInt.toNat) p1 := by rw [gA_aS (aI_isA hI), i_nat eb0]
    have gc : ∀ t, cns (aS w 30 (gI w 29 0 * 9 + 0) p1) t = cns w t := by
      intro t
      unfold cns
      rw [gA_aS_ne (by decide)]
    obtain ⟨z1, z2, z3, z4, z5⟩ := F50_32 (v := v) hm eb (by omega) _ _ 0 _ (SK_aS hS) (by rw [g1, List.length_set]; exact hl) (by rw [gI_aS]; exact h29) z32 (by omega) h
    refine ⟨z1, FM_trans (FM_aS hS (by decide)) z2, by rw [z3, gI_aS], z4, fun q => ?_⟩
    rw [z5 q, g1, getD_set (by omega)]
    by_cases c1 : q = 9 * (gI w 29 0).toInt.toNat
    · rw [if_neg (by omega), if_pos c1, if_pos c1]
    · rw [if_neg c1, if_neg c1]
      by_cases c2 : 9 * (gI w 29 0).toInt.toNat + 1 ≤ q ∧ q < 9 * (gI w 29 0).toInt.toNat + 9
      · rw [if_pos (by omega), if_pos c2, gc]
      · rw [if_neg (by omega), if_neg c2]
end FZ
end
section
section GA
variable {X : pm_X} {k : Nat} {w0 w w' : pm_W} {r : Option Value} {p p1 p2 p3 : Int32} {a b : Nat}
/-- the cells of Reader's village, piece by piece -/
theorem vcl_pc (hS : SK w) (hS' : SK w') {c0 c1 c2 : Int32} {dw df dr da : Nat → Int32} (e0 : gI w' 24 0 = c0) (e1 : gI w' 24 2 = c1) (e2 : gI w' 24 1 = c2) (hw : ∀ q, q < 81 → (gA w' 25).getD q 0 = dw q) (hf : ∀ q, q < 9 → (gA w' 26).getD q 0 = df q) (hr : ∀ q, q < 9 → (gA w' 27).getD q 0 = dr q) (ha : ∀ q, q < 28 → (gA w' 28).getD q 0 = da q) (k : Nat) : vcl w' 24 k = if k = 0 then c0 else if k = 1 then c1 else if k = 2 then c2 else if k < 84 then dw (k - 3) else if k < 93 then df (k - 84) else if k < 102 then dr (k - 93) else if k < 130 then da (k - 102) else 0 := by
  rw [vcl_24 hS']
  by_cases q0 : k = 0
  · rw [if_pos q0, if_pos q0]; exact e0
  rw [if_neg q0, if_neg q0]
  by_cases q1 : k = 1
  · rw [if_pos q1, if_pos q1]; exact e1
  rw [if_neg q1, if_neg q1]
  by_cases q2 : k = 2
  · rw [if_pos q2, if_pos q2]; exact e2
  rw [if_neg q2, if_neg q2]
  by_cases q3 : k < 84
  · rw [if_pos q3, if_pos q3]; exact hw _ (by omega)
  rw [if_neg q3, if_neg q3]
  by_cases q4 : k < 93
  · rw [if_pos q4, if_pos q4]; exact hf _ (by omega)
  rw [if_neg q4, if_neg q4]
  by_cases q5 : k < 102
  · rw [if_pos q5, if_pos q5]; exact hr _ (by omega)
  rw [if_neg q5, if_neg q5]
  by_cases q6 : k < 130
  · rw [if_pos q6, if_pos q6]; exact ha _ (by omega)
  rw [if_neg q6, if_neg q6]
def HL (w : pm_W) : Prop := (gA w 25).length = 81 ∧ (gA w 26).length = 9 ∧ (gA w 27).length = 9 ∧ (gA w 28).length = 28 ∧ (gA w 30).length = 270 ∧ 0 ≤ (gI w 24 2).toInt ∧ (gI w 24 2).toInt ≤ 7 ∧ 0 ≤ (gI w 29 0).toInt ∧ (gI w 29 0).toInt ≤ 30
/-- numbers that people may have -/
def goodN (v : Nat) (ns : Nat → Int32) : Prop := (v = 7 ∨ v = 12 → 0 ≤ (ns 0).toInt ∧ (ns 0).toInt ≤ 8 ∧ 0 ≤ (ns 1).toInt ∧ (ns 1).toInt ≤ 8) ∧ (v = 9 ∨ v = 10 → 0 ≤ (ns 0).toInt ∧ (ns 0).toInt ≤ 8)
def fl49 : List (Nat × Nat) := [(23, 9), (24, 0), (24, 1), (24, 2), (29, 0)]
def al49 : List Nat := [25, 26, 27, 28, 30]
/-- what the row's parts are behind a further act -/
def rowN (c : Nat → Int32) (b0 : Nat) (p1 : Int32) (m : Nat) (ns : Nat → Int32) (q : Nat) : Int32 := if q = 9 * b0 then p1 else if 9 * b0 + 1 ≤ q ∧ q < 9 * b0 + 9 then (if q < 9 * b0 + 1 + m then ns (q - (9 * b0 + 1)) else -1) else c q
theorem F49 {v m : Nat} (hS : SK w) (hH : HL w) (hv : p1.toInt = v) (h12 : v ≤ 12) (hm : p2.toInt = m) (h : PS X k 49 0 [.ref 23, .int p1, .int p2] [] w r w') : r = none ∧ FM fl49 al49 w w' ∧ (v ≤ 5 → (gI w 29 0).toInt < 30 → FM [(29, 0)] [30] w w' ∧ gI w' 29 0 = gI w 29 0 + 1 ∧ (gA w' 30).length = 270 ∧ ∀ q, (gA w' 30).getD q 0 = rowN (fun q => (gA w 30).getD q 0) (gI w 29 0).toInt.toNat p1 m (cns w) q) ∧ (6 ≤ v → (v = 12 → (gI w 24 2).toInt < 7) → goodN v (cns w) → FM [(23, 9), (24, 0), (24, 1), (24, 2)] [25, 26, 27, 28] w w' ∧ HL w' ∧ (∀ q, vcl w' 24 q = kS v (vcl w 24) (cns w) q) ∧ (gI w' 23 9).toInt = gS v (gI w 23 9).toInt (cns w)) := by
  cases k with
  | zero => exact (PS_0 h).elim
  | succ k =>
    obtain ⟨l25, l26, l27, l28, l30, w0, w7, a0, a30⟩ := hH
    have h := U49_0 hS h
    have h := use_p hS h (fun _ _ q => F45 hS q)
    rw [hv] at h
    by_cases c5 : v ≤ 5
    · rw [decide_eq_true (show (v : Int) ≤ 5 by omega), if_neg (by decide +kernel)] at h
      obtain ⟨r1, w1, q1, q2⟩ := h
      by_cases c30 : (gI w 29 0).toInt < 30
      · obtain ⟨z1, z2, z3, z4, z5⟩ := F50 (v := v) hS l30 hm a0 (by omega) q1
        have q := q2 z1 z2.2.2.2
        rw [q.2]
        exact ⟨q.1, FM_mono z2 (by decide) (by decide), fun _ _ => ⟨z2, z3, z4, z5⟩, fun z => absurd z (by omega)⟩
      · cases k with
        | zero => exact (PS_0 q1).elim
        | succ k =>
          have z := U50_0 hS q1
          have t30 : (30 : Int32).toInt = 30 := by decide +kernel
          rw [if_neg (by rw [Int32.lt_iff_toInt_lt, t30]; exact c30)] at z
          have q := q2 z.1 (by rw [z.2]; exact hS)
          rw [q.2, z.2]
          exact ⟨q.1, FM_refl hS, fun _ y => absurd y c30, fun y => absurd y (by omega)⟩
    · rw [decide_eq_false (show ¬ (v : Int) ≤ 5 by omega), if_pos (by decide +kernel)] at h
      have g : ∀ (q : Int32) (n : Nat), q.toInt = n → (p1 = q ↔ v = n) := by
        intro q n hq
        rw [← Int32.toInt_inj, hv, hq]
        omega
      have f283 : ∀ (w4 : pm_W), SK w4 → PS X k 49 283 [.ref 23, .int p1, .int p2] [] w4 r w' → r = none ∧ w' = w4 := by
        intro w4 hS4 z
        cases k with
        | zero => exact (PS_0 z).elim
        | succ k => exact U49_283 hS4 z
      have n0 : ∀ u : pm_W, aG u 31 0 = cns u 0 := fun u => aG_n (m := 0) z32
      have n1 : ∀ u : pm_W, aG u 31 1 = cns u 1 := fun u => aG_n (m := 1) o32
      have n2 : ∀ u : pm_W, aG u 31 2 = cns u 2 := fun u => aG_n (m := 2) two32
      rw [n0, n1] at h
      -- what is to be shown, of a world
      have fin : ∀ (w4 : pm_W) (fs : List (Nat × Nat)) (as : List Nat), r = none ∧ w' = w4 → FM fs as w w4 → (∀ q ∈ fs, q ∈ [(23, 9), (24, 0), (24, 1), (24, 2)]) → (∀ q ∈ as, q ∈ [25, 26, 27, 28]) → ((v = 12 → (gI w 24 2).toInt < 7) → goodN v (cns w) → HL w4 ∧ (∀ q, vcl w4 24 q = kS v (vcl w 24) (cns w) q) ∧ (gI w4 23 9).toInt = gS v (gI w 23 9).toInt (cns w)) → r = none ∧ FM fl49 al49 w w' ∧ (v ≤ 5 → (gI w 29 0).toInt < 30 → FM [(29, 0)] [30] w w' ∧ gI w' 29 0 = gI w 29 0 + 1 ∧ (gA w' 30).length = 270 ∧ ∀ q, (gA w' 30).getD q 0 = rowN (fun q => (gA w 30).getD q 0) (gI w 29 0).toInt.toNat p1 m (cns w) q) ∧ (6 ≤ v → (v = 12 → (gI w 24 2).toInt < 7) → goodN v (cns w) → FM [(23, 9), (24, 0), (24, 1), (24, 2)] [25, 26, 27, 28] w w' ∧ HL w' ∧ (∀ q, vcl w' 24 q = kS v (vcl w 24) (cns w) q) ∧ (gI w' 23 9).toInt = gS v (gI w 23 9).toInt (cns w)) := by
        rintro w4 fs as ⟨z1, z2⟩ hF hf ha hx
        have hF2 : FM [(23, 9), (24, 0), (24, 1), (24, 2)] [25, 26, 27, 28] w w4 := FM_mono hF hf ha
        rw [z2]
        exact ⟨z1, FM_mono hF2 (by decide) (by decide), fun y => absurd y (by omega), fun _ y1 y2 => ⟨hF2, hx y1 y2⟩⟩
      by_cases c6 : p1 = 6
      · rw [if_pos c6] at h
        have hv6 := (g 6 6 (by decide +kernel)).mp c6
        subst hv6
        have h := h.2 _ rfl
        have hS4 : SK (sI w 24 0 (cns w 0)) := SK_sI hS
        refine fin _ [(24, 0)] [] (f283 _ hS4 h) (FM_sI hS (by decide)) (by decide) (by decide) (fun _ _ => ⟨?_, fun q => ?_, ?_⟩)
        · exact ⟨by rw [gA_sI]; exact l25, by rw [gA_sI]; exact l26, by rw [gA_sI]; exact l27, by rw [gA_sI]; exact l28, by rw [gA_sI]; exact l30, by rw [gI_sI_ne (by decide)]; exact w0, by rw [gI_sI_ne (by decide)]; exact w7, by rw [gI_sI_ne (by decide)]; exact a0, by rw [gI_sI_ne (by decide)]; exact a30⟩
        · rw [vcl_pc hS hS4 (c0 := cns w 0) (c1 := gI w 24 2) (c2 := gI w 24 1) (dw := fun q => (gA w 25).getD q 0) (df := fun q => (gA w 26).getD q 0) (dr := fun q => (gA w 27).getD q 0) (da := fun q => (gA w 28).getD q 0) (gI_sI (SK_isF hS (by decide +kernel))) (gI_sI_ne (by decide)) (gI_sI_ne (by decide)) (fun q _ => by rw [gA_sI]) (fun q _ => by rw [gA_sI]) (fun q _ => by rw [gA_sI]) (fun q _ => by rw [gA_sI])]
          show _ = if q = 0 then cns w 0 else vcl w 24 q
          by_cases q0 : q = 0
          · rw [if_pos q0, if_pos q0]
          · rw [if_neg q0, if_neg q0, vcl_24 hS, if_neg q0]
        · rw [gI_sI_ne (by decide)]
          rfl
      rw [if_neg c6] at h
      by_cases c7 : p1 = 7
      · rw [if_pos c7] at h
        have hv7 := (g 7 7 (by decide +kernel)).mp c7
        subst hv7
        obtain ⟨_, _, h⟩ := h
        have h := h _ rfl
        obtain ⟨w5, e5⟩ : ∃ w5, w5 = sI w 23 9 (if gI w 23 9 < (if cns w 0 < cns w 1 then cns w 1 else cns w 0) then (if cns w 0 < cns w 1 then cns w 1 else cns w 0) else gI w 23 9) := ⟨_, rfl⟩
        rw [← e5] at h
        have hS5 : SK w5 := by rw [e5]; exact SK_sI hS
        have f5 : FM [(23, 9)] [25] w w5 := by rw [e5]; exact FM_sI hS (by decide)
        have a5 : ∀ b, gA w5 b = gA w b := fun b => by rw [e5]; exact gA_sI
        have cn5 : ∀ t, cns w5 t = cns w t := fun t => by unfold cns; rw [a5]
        obtain ⟨_, _, h⟩ := h
        have h := use_p hS5 h (fun _ _ q => F52 hS5 q)
        obtain ⟨_, hI, h⟩ := h
        have h := h _ rfl
        rw [n0, n1, cn5, cn5] at hI
        rw [n0, n1, n2, cn5, cn5, cn5] at h
        obtain ⟨w9, e9⟩ : ∃ w9, w9 = aS w5 25 (cns w 0 * 9 + cns w 1) (cns w 2) := ⟨_, rfl⟩
        rw [← e9] at h
        have hS9 : SK w9 := by rw [e9]; exact SK_aS hS5
        have f9 : FM [(23, 9)] [25] w w9 := FM_trans f5 (by rw [e9]; exact FM_aS hS5 (by decide))
        refine fin _ [(23, 9)] [25] (f283 _ hS9 h) f9 (by decide) (by decide) (fun _ hg => ?_)
        obtain ⟨g0, g0', g1, g1'⟩ := hg.1 (Or.inl rfl)
        have t9 : (9 : Int32).toInt = 9 := by decide +kernel
        have ei : (cns w 0 * 9 + cns w 1).toInt = (9 * (cns w 0).toInt.toNat + (cns w 1).toInt.toNat : Nat) := by
          rw [zi_add (zi_mul rfl t9 (by omega) (by omega)) rfl (by omega) (by omega)]
          omega
        have g25 : gA w9 25 = (gA w 25).set (9 * (cns w 0).toInt.toNat + (cns w 1).toInt.toNat) (cns w 2) := by rw [e9, gA_aS (aI_isA hI), i_nat ei, a5]
        have li : 9 * (cns w 0).toInt.toNat + (cns w 1).toInt.toNat < 81 := by omega
        have i9 : ∀ a m, (a, m) ≠ (23, 9) → gI w9 a m = gI w a m := fun a m hne => FM_i f9 (by intro z; exact hne (List.mem_singleton.mp z))
        refine ⟨⟨by rw [g25, List.length_set]; exact l25, by rw [FM_a f9 (by decide)]; exact l26, by rw [FM_a f9 (by decide)]; exact l27, by rw [FM_a f9 (by decide)]; exact l28, by rw [FM_a f9 (by decide)]; exact l30, by rw [i9 _ _ (by decide)]; exact w0, by rw [i9 _ _ (by decide)]; exact w7, by rw [i9 _ _ (by decide)]; exact a0, by rw [i9 _ _ (by decide)]; exact a30⟩, fun q => ?_, ?_⟩
        · rw [vcl_pc hS hS9 (c0 := gI w 24 0) (c1 := gI w 24 2) (c2 := gI w 24 1) (dw := fun q => if q = 9 * (cns w 0).toInt.toNat + (cns w 1).toInt.toNat then cns w 2 else (gA w 25).getD q 0) (df := fun q => (gA w 26).getD q 0) (dr := fun q => (gA w 27).getD q 0) (da := fun q => (gA w 28).getD q 0) (i9 _ _ (by decide)) (i9 _ _ (by decide)) (i9 _ _ (by decide)) (fun q hq => by rw [g25, getD_set (by omega)]) (fun q _ => by rw [FM_a f9 (by decide)]) (fun q _ => by rw [FM_a f9 (by decide)]) (fun q _ => by rw [FM_a f9 (by decide)])]
          show _ = if q = 3 + (9 * (cns w 0).toInt.toNat + (cns w 1).toInt.toNat) then cns w 2 else vcl w 24 q
          by_cases e : q = 3 + (9 * (cns w 0).toInt.toNat + (cns w 1).toInt.toNat)
          · rw [if_pos e, if_neg (by omega), if_neg (by omega), if_neg (by omega), if_pos (by omega)]
            exact if_pos (by omega)
          · rw [if_neg e, vcl_24 hS]
            by_cases q0 : q = 0
            · rw [if_pos q0, if_pos q0]
            rw [if_neg q0, if_neg q0]
            by_cases q1 : q = 1
            · rw [if_pos q1, if_pos q1]
            rw [if_neg q1, if_neg q1]
            by_cases q2 : q = 2
            · rw [if_pos q2, if_pos q2]
            rw [if_neg q2, if_neg q2]
            by_cases q3 : q < 84
            · rw [if_pos q3, if_pos q3]
              exact if_neg (by omega)
            · rw [if_neg q3, if_neg q3]
        · rw [e9, gI_aS, e5, gI_sI (SK_isF hS (by decide +kernel)), mx32, mx32]
          rfl
      rw [if_neg c7] at h
      by_cases c8 : p1 = 8
      · rw [if_pos c8] at h
        have hv8 := (g 8 8 (by decide +kernel)).mp c8
        subst hv8
        obtain ⟨_, r1, w1, q1, q2⟩ := h
        cases k with
        | zero => exact (PS_0 q1).elim
        | succ k =>
          have z := (F53_2 _ w hS l25).1 0 0 _ z32 (by omega) (U53_0 hS q1)
          obtain ⟨z1, z2, z3, z4⟩ := z
          have h := q2 z1 z2.2.2.2
          refine fin _ [] [25] (f283 _ z2.2.2.2 h) z2 (by decide) (by decide) (fun _ _ => ⟨?_, fun q => ?_, ?_⟩)
          · exact ⟨z3, by rw [FM_a z2 (by decide)]; exact l26, by rw [FM_a z2 (by decide)]; exact l27, by rw [FM_a z2 (by decide)]; exact l28, by rw [FM_a z2 (by decide)]; exact l30, by rw [FM_i z2 (by decide)]; exact w0, by rw [FM_i z2 (by decide)]; exact w7, by rw [FM_i z2 (by decide)]; exact a0, by rw [FM_i z2 (by decide)]; exact a30⟩
          · rw [vcl_pc hS z2.2.2.2 (c0 := gI w 24 0) (c1 := gI w 24 2) (c2 := gI w 24 1) (dw := fun q => if q % 10 = 0 then 0 else cns w 0) (df := fun q => (gA w 26).getD q 0) (dr := fun q => (gA w 27).getD q 0) (da := fun q => (gA w 28).getD q 0) (FM_i z2 (by decide)) (FM_i z2 (by decide)) (FM_i z2 (by decide)) (fun q hq => by rw [z4 q hq, if_neg (by omega)]) (fun q _ => by rw [FM_a z2 (by decide)]) (fun q _ => by rw [FM_a z2 (by decide)]) (fun q _ => by rw [FM_a z2 (by decide)])]
            show _ = if 3 ≤ q ∧ q < 84 then (if (q - 3) % 10 = 0 then 0 else cns w 0) else vcl w 24 q
            by_cases e : 3 ≤ q ∧ q < 84
            · rw [if_pos e, if_neg (by omega), if_neg (by omega), if_neg (by omega), if_pos (by omega)]
            · rw [if_neg e, vcl_24 hS]
              by_cases q0 : q = 0
              · rw [if_pos q0, if_pos q0]
              rw [if_neg q0, if_neg q0]
              by_cases q1 : q = 1
              · rw [if_pos q1, if_pos q1]
              rw [if_neg q1, if_neg q1]
              by_cases q2 : q = 2
              · rw [if_pos q2, if_pos q2]
              have q3 : ¬ q < 84 := by omega
              rw [if_neg q2, if_neg q2, if_neg q3, if_neg q3]
          · rw [FM_i z2 (by decide)]
            rfl
      rw [if_neg c8] at h
      by_cases c9 : p1 = 9
      · rw [if_pos c9] at h
        have hv9 := (g 9 9 (by decide +kernel)).mp c9
        subst hv9
        obtain ⟨_, h⟩ := h
        have h := h _ rfl
        obtain ⟨w5, e5⟩ : ∃ w5, w5 = sI w 23 9 (if gI w 23 9 < cns w 0 then cns w 0 else gI w 23 9) := ⟨_, rfl⟩
        rw [← e5] at h
        have hS5 : SK w5 := by rw [e5]; exact SK_sI hS
        have f5 : FM [(23, 9)] [26] w w5 := by rw [e5]; exact FM_sI hS (by decide)
        have a5 : ∀ b, gA w5 b = gA w b := fun b => by rw [e5]; exact gA_sI
        have cn5 : ∀ t, cns w5 t = cns w t := fun t => by unfold cns; rw [a5]
        obtain ⟨_, _, hI, h⟩ := h
        have h := h _ rfl
        rw [n0, cn5] at hI
        rw [n0, n1, cn5, cn5] at h
        obtain ⟨w9, e9⟩ : ∃ w9, w9 = aS w5 26 (cns w 0) (cns w 1) := ⟨_, rfl⟩
        rw [← e9] at h
        have hS9 : SK w9 := by rw [e9]; exact SK_aS hS5
        have f9 : FM [(23, 9)] [26] w w9 := FM_trans f5 (by rw [e9]; exact FM_aS hS5 (by decide))
        refine fin _ [(23, 9)] [26] (f283 _ hS9 h) f9 (by decide) (by decide) (fun _ hg => ?_)
        obtain ⟨g0, g0'⟩ := hg.2 (Or.inl rfl)
        have ei : (cns w 0).toInt = ((cns w 0).toInt.toNat : Nat) := by omega
        have g26 : gA w9 26 = (gA w 26).set (cns w 0).toInt.toNat (cns w 1) := by rw [e9, gA_aS (aI_isA hI), i_nat ei, a5]
        have i9 : ∀ a m, (a, m) ≠ (23, 9) → gI w9 a m = gI w a m := fun a m hne => FM_i f9 (by intro z; exact hne (List.mem_singleton.mp z))
        refine ⟨⟨by rw [FM_a f9 (by decide)]; exact l25, by rw [g26, List.length_set]; exact l26, by rw [FM_a f9 (by decide)]; exact l27, by rw [FM_a f9 (by decide)]; exact l28, by rw [FM_a f9 (by decide)]; exact l30, by rw [i9 _ _ (by decide)]; exact w0, by rw [i9 _ _ (by decide)]; exact w7, by rw [i9 _ _ (by decide)]; exact a0, by rw [i9 _ _ (by decide)]; exact a30⟩, fun q => ?_, ?_⟩
        · rw [vcl_pc hS hS9 (c0 := gI w 24 0) (c1 := gI w 24 2) (c2 := gI w 24 1) (dw := fun q => (gA w 25).getD q 0) (df := fun q => if q = (cns w 0).toInt.toNat then cns w 1 else (gA w 26).getD q 0) (dr := fun q => (gA w 27).getD q 0) (da := fun q => (gA w 28).getD q 0) (i9 _ _ (by decide)) (i9 _ _ (by decide)) (i9 _ _ (by decide)) (fun q _ => by rw [FM_a f9 (by decide)]) (fun q hq => by rw [g26, getD_set (by omega)]) (fun q _ => by rw [FM_a f9 (by decide)]) (fun q _ => by rw [FM_a f9 (by decide)])]
          show _ = if q = 84 + (cns w 0).toInt.toNat then cns w 1 else vcl w 24 q
          by_cases e : q = 84 + (cns w 0).toInt.toNat
          · rw [if_pos e, if_neg (by omega), if_neg (by omega), if_neg (by omega), if_neg (by omega), if_pos (by omega)]
            exact if_pos (by omega)
          · rw [if_neg e, vcl_24 hS]
            by_cases q0 : q = 0
            · rw [if_pos q0, if_pos q0]
            rw [if_neg q0, if_neg q0]
            by_cases q1 : q = 1
            · rw [if_pos q1, if_pos q1]
            rw [if_neg q1, if_neg q1]
            by_cases q2 : q = 2
            · rw [if_pos q2, if_pos q2]
            rw [if_neg q2, if_neg q2]
            by_cases q3 : q < 84
            · rw [if_pos q3, if_pos q3]
            rw [if_neg q3, if_neg q3]
            by_cases q4 : q < 93
            · rw [if_pos q4, if_pos q4]
              exact if_neg (by omega)
            rw [if_neg q4, if_neg q4]
        · rw [e9, gI_aS, e5, gI_sI (SK_isF hS (by decide +kernel)), mx32]
          rfl
      rw [if_neg c9] at h
      by_cases c10 : p1 = 10
      · rw [if_pos c10] at h
        have hv10 := (g 10 10 (by decide +kernel)).mp c10
        subst hv10
        obtain ⟨_, h⟩ := h
        have h := h _ rfl
        obtain ⟨w5, e5⟩ : ∃ w5, w5 = sI w 23 9 (if gI w 23 9 < cns w 0 then cns w 0 else gI w 23 9) := ⟨_, rfl⟩
        rw [← e5] at h
        have hS5 : SK w5 := by rw [e5]; exact SK_sI hS
        have f5 : FM [(23, 9)] [27] w w5 := by rw [e5]; exact FM_sI hS (by decide)
        have a5 : ∀ b, gA w5 b = gA w b := fun b => by rw [e5]; exact gA_sI
        have cn5 : ∀ t, cns w5 t = cns w t := fun t => by unfold cns; rw [a5]
        obtain ⟨_, _, hI, h⟩ := h
        have h := h _ rfl
        rw [n0, cn5] at hI
        rw [n0, n1, cn5, cn5] at h
        obtain ⟨w9, e9⟩ : ∃ w9, w9 = aS w5 27 (cns w 0) (cns w 1) := ⟨_, rfl⟩
        rw [← e9] at h
        have hS9 : SK w9 := by rw [e9]; exact SK_aS hS5
        have f9 : FM [(23, 9)] [27] w w9 := FM_trans f5 (by rw [e9]; exact FM_aS hS5 (by decide))
        refine fin _ [(23, 9)] [27] (f283 _ hS9 h) f9 (by decide) (by decide) (fun _ hg => ?_)
        obtain ⟨g0, g0'⟩ := hg.2 (Or.inr rfl)
        have ei : (cns w 0).toInt = ((cns w 0).toInt.toNat : Nat) := by omega
        have g27 : gA w9 27 = (gA w 27).set (cns w 0).toInt.toNat (cns w 1) := by rw [e9, gA_aS (aI_isA hI), i_nat ei, a5]
        have i9 : ∀ a m, (a, m) ≠ (23, 9) → gI w9 a m = gI w a m := fun a m hne => FM_i f9 (by intro z; exact hne (List.mem_singleton.mp z))
        refine ⟨⟨by rw [FM_a f9 (by decide)]; exact l25, by rw [FM_a f9 (by decide)]; exact l26, by rw [g27, List.length_set]; exact l27, by rw [FM_a f9 (by decide)]; exact l28, by rw [FM_a f9 (by decide)]; exact l30, by rw [i9 _ _ (by decide)]; exact w0, by rw [i9 _ _ (by decide)]; exact w7, by rw [i9 _ _ (by decide)]; exact a0, by rw [i9 _ _ (by decide)]; exact a30⟩, fun q => ?_, ?_⟩
        · rw [vcl_pc hS hS9 (c0 := gI w 24 0) (c1 := gI w 24 2) (c2 := gI w 24 1) (dw := fun q => (gA w 25).getD q 0) (df := fun q => (gA w 26).getD q 0) (dr := fun q => if q = (cns w 0).toInt.toNat then cns w 1 else (gA w 27).getD q 0) (da := fun q => (gA w 28).getD q 0) (i9 _ _ (by decide)) (i9 _ _ (by decide)) (i9 _ _ (by decide)) (fun q _ => by rw [FM_a f9 (by decide)]) (fun q _ => by rw [FM_a f9 (by decide)]) (fun q hq => by rw [g27, getD_set (by omega)]) (fun q _ => by rw [FM_a f9 (by decide)])]
          show _ = if q = 93 + (cns w 0).toInt.toNat then cns w 1 else vcl w 24 q
          by_cases e : q = 93 + (cns w 0).toInt.toNat
          · rw [if_pos e, if_neg (by omega), if_neg (by omega), if_neg (by omega), if_neg (by omega), if_neg (by omega), if_pos (by omega)]
            exact if_pos (by omega)
          · rw [if_neg e, vcl_24 hS]
            by_cases q0 : q = 0
            · rw [if_pos q0, if_pos q0]
            rw [if_neg q0, if_neg q0]
            by_cases q1 : q = 1
            · rw [if_pos q1, if_pos q1]
            rw [if_neg q1, if_neg q1]
            by_cases q2 : q = 2
            · rw [if_pos q2, if_pos q2]
            rw [if_neg q2, if_neg q2]
            by_cases q3 : q < 84
            · rw [if_pos q3, if_pos q3]
            rw [if_neg q3, if_neg q3]
            by_cases q4 : q < 93
            · rw [if_pos q4, if_pos q4]
            rw [if_neg q4, if_neg q4]
            by_cases q5 : q < 102
            · rw [if_pos q5, if_pos q5]
              exact if_neg (by omega)
            · rw [if_neg q5, if_neg q5]
        · rw [e9, gI_aS, e5, gI_sI (SK_isF hS (by decide +kernel)), mx32]
          rfl
      rw [if_neg c10] at h
      by_cases c11 : p1 = 11
      · rw [if_pos c11] at h
        have hv11 := (g 11 11 (by decide +kernel)).mp c11
        subst hv11
        have h := h.2 _ rfl
        have hS4 : SK (sI w 24 1 (cns w 0)) := SK_sI hS
        refine fin _ [(24, 1)] [] (f283 _ hS4 h) (FM_sI hS (by decide)) (by decide) (by decide) (fun _ _ => ⟨?_, fun q => ?_, ?_⟩)
        · exact ⟨by rw [gA_sI]; exact l25, by rw [gA_sI]; exact l26, by rw [gA_sI]; exact l27, by rw [gA_sI]; exact l28, by rw [gA_sI]; exact l30, by rw [gI_sI_ne (by decide)]; exact w0, by rw [gI_sI_ne (by decide)]; exact w7, by rw [gI_sI_ne (by decide)]; exact a0, by rw [gI_sI_ne (by decide)]; exact a30⟩
        · rw [vcl_pc hS hS4 (c0 := gI w 24 0) (c1 := gI w 24 2) (c2 := cns w 0) (dw := fun q => (gA w 25).getD q 0) (df := fun q => (gA w 26).getD q 0) (dr := fun q => (gA w 27).getD q 0) (da := fun q => (gA w 28).getD q 0) (gI_sI_ne (by decide)) (gI_sI_ne (by decide)) (gI_sI (SK_isF hS (by decide +kernel))) (fun q _ => by rw [gA_sI]) (fun q _ => by rw [gA_sI]) (fun q _ => by rw [gA_sI]) (fun q _ => by rw [gA_sI])]
          show _ = if q = 2 then cns w 0 else vcl w 24 q
          by_cases q2 : q = 2
          · rw [if_pos q2, if_neg (by omega), if_neg (by omega), if_pos q2]
          · rw [if_neg q2, if_neg q2, vcl_24 hS, if_neg q2]
        · rw [gI_sI_ne (by decide)]
          rfl
      rw [if_neg c11] at h
      have hv12 : v = 12 := by
        have e6 : v ≠ 6 := fun z => c6 ((g 6 6 (by decide +kernel)).mpr z)
        have e7 : v ≠ 7 := fun z => c7 ((g 7 7 (by decide +kernel)).mpr z)
        have e8 : v ≠ 8 := fun z => c8 ((g 8 8 (by decide +kernel)).mpr z)
        have e9 : v ≠ 9 := fun z => c9 ((g 9 9 (by decide +kernel)).mpr z)
        have e10 : v ≠ 10 := fun z => c10 ((g 10 10 (by decide +kernel)).mpr z)
        have e11 : v ≠ 11 := fun z => c11 ((g 11 11 (by decide +kernel)).mpr z)
        omega
      subst hv12
      obtain ⟨_, _, h⟩ := h
      have h := h _ rfl
      obtain ⟨w5, e5⟩ : ∃ w5, w5 = sI w 23 9 (if gI w 23 9 < (if cns w 0 < cns w 1 then cns w 1 else cns w 0) then (if cns w 0 < cns w 1 then cns w 1 else cns w 0) else gI w 23 9) := ⟨_, rfl⟩
      rw [← e5] at h
      have hS5 : SK w5 := by rw [e5]; exact SK_sI hS
      have f5 : FM [(23, 9), (24, 2)] [28] w w5 := by rw [e5]; exact FM_sI hS (by decide)
      have a5 : ∀ b, gA w5 b = gA w b := fun b => by rw [e5]; exact gA_sI
      have cn5 : ∀ t, cns w5 t = cns w t := fun t => by unfold cns; rw [a5]
      have i5 : gI w5 24 2 = gI w 24 2 := by rw [e5]; exact gI_sI_ne (by decide)
      obtain ⟨r1, w1, q1, q2⟩ := h
      by_cases c7w : (gI w 24 2).toInt < 7
      · obtain ⟨z1, z2, z3, z4, z5⟩ := F54 hS5 (by rw [a5]; exact l28) (by rw [i5]; exact w0) (by rw [i5]; exact c7w) q1
        have h := q2 z1 z2.2.2.2
        have f9 : FM [(23, 9), (24, 2)] [28] w w1 := FM_trans f5 (FM_mono z2 (by decide) (by decide))
        have hS9 := f9.2.2.2
        refine fin _ _ _ (f283 _ hS9 h) f9 (by decide) (by decide) (fun _ _ => ⟨?_, fun q => ?_, ?_⟩)
        · refine ⟨by rw [FM_a f9 (by decide)]; exact l25, by rw [FM_a f9 (by decide)]; exact l26, by rw [FM_a f9 (by decide)]; exact l27, z4, by rw [FM_a f9 (by decide)]; exact l30, ?_, ?_, by rw [FM_i f9 (by decide)]; exact a0, by rw [FM_i f9 (by decide)]; exact a30⟩
          · rw [z3, i5, zi_inc (n := 7) c7w (by omega)]; omega
          · rw [z3, i5, zi_inc (n := 7) c7w (by omega)]; omega
        · rw [vcl_pc hS hS9 (c0 := gI w 24 0) (c1 := gI w 24 2 + 1) (c2 := gI w 24 1) (dw := fun q => (gA w 25).getD q 0) (df := fun q => (gA w 26).getD q 0) (dr := fun q => (gA w 27).getD q 0) (da := fun q => if 4 * (gI w 24 2).toInt.toNat ≤ q ∧ q < 4 * (gI w 24 2).toInt.toNat + 4 then cns w (q - 4 * (gI w 24 2).toInt.toNat) else (gA w 28).getD q 0) (FM_i f9 (by decide)) (by rw [z3, i5]) (FM_i f9 (by decide)) (fun q _ => by rw [FM_a f9 (by decide)]) (fun q _ => by rw [FM_a f9 (by decide)]) (fun q _ => by rw [FM_a f9 (by decide)]) (fun q hq => by rw [z5 q hq, i5, cn5, a5])]
          have ew : vcl w 24 1 = gI w 24 2 := rfl
          show _ = if q = 1 then vcl w 24 1 + 1 else if 102 + 4 * (vcl w 24 1).toInt.toNat ≤ q ∧ q < 106 + 4 * (vcl w 24 1).toInt.toNat then cns w (q - (102 + 4 * (vcl w 24 1).toInt.toNat)) else vcl w 24 q
          rw [ew]
          by_cases q1 : q = 1
          · rw [if_pos q1, if_neg (by omega), if_pos q1]
          rw [if_neg q1, if_neg q1]
          by_cases e : 102 + 4 * (gI w 24 2).toInt.toNat ≤ q ∧ q < 106 + 4 * (gI w 24 2).toInt.toNat
          · rw [if_pos e, if_neg (by omega), if_neg (by omega), if_neg (by omega), if_neg (by omega), if_neg (by omega), if_pos (by omega)]
            show (if 4 * (gI w 24 2).toInt.toNat ≤ q - 102 ∧ q - 102 < 4 * (gI w 24 2).toInt.toNat + 4 then cns w (q - 102 - 4 * (gI w 24 2).toInt.toNat) else (gA w 28).getD (q - 102) 0) = _
            rw [if_pos (by omega)]
            congr 1
            omega
          · rw [if_neg e, vcl_24 hS]
            by_cases q0 : q = 0
            · rw [if_pos q0, if_pos q0]
            rw [if_neg q0, if_neg q0, if_neg q1]
            by_cases q2 : q = 2
            · rw [if_pos q2, if_pos q2]
            rw [if_neg q2, if_neg q2]
            by_cases q3 : q < 84
            · rw [if_pos q3, if_pos q3]
            rw [if_neg q3, if_neg q3]
            by_cases q4 : q < 93
            · rw [if_pos q4, if_pos q4]
            rw [if_neg q4, if_neg q4]
            by_cases q5 : q < 102
            · rw [if_pos q5, if_pos q5]
            rw [if_neg q5, if_neg q5]
            by_cases q6 : q < 130
            · rw [if_pos q6, if_pos q6]
              exact if_neg (by omega)
            · rw [if_neg q6, if_neg q6]
        · rw [FM_i z2 (by decide), e5, gI_sI (SK_isF hS (by decide +kernel)), mx32, mx32]
          rfl
      · cases k with
        | zero => exact (PS_0 q1).elim
        | succ k =>
          have z := U54_0 hS5 q1
          have t7 : (7 : Int32).toInt = 7 := by decide +kernel
          rw [if_pos (by rw [Int32.le_iff_toInt_le, t7, i5]; omega)] at z
          have h := q2 z.1 (by rw [z.2]; exact hS5)
          rw [z.2] at h
          exact fin _ _ _ (f283 _ hS5 h) f5 (by decide) (by decide) (fun y => absurd (y rfl) c7w)
end GA
end
section
/-! ===== the class's reader: a sentence ===== -/
section FK
variable {X : pm_X} {k : Nat} {w0 w w' : pm_W} {r : Option Value} {p p1 p2 p3 : Int32} {bs : Nat → Int32} {n i : Nat}
/-- where the form breaks: behind m numbers -/
def FI (bs : Nat → Int32) (n i v m : Nat) : Prop := (∀ t, t < m → tkK bs n (tP bs n i (t + 1)) = 2) ∧ (v ≠ 2 → m ≤ dueN v ∧ (m = dueN v → tkK bs n (tP bs n i (m + 1)) ≠ 3) ∧ (m < dueN v → tkK bs n (tP bs n i (m + 1)) ≠ 2)) ∧ (v = 2 → tkK bs n (tP bs n i (m + 1)) ≠ 2 ∧ (4 ≤ m → tkK bs n (tP bs n i (m + 1)) ≠ 3))
/-- a sentence of m numbers -/
def OK (bs : Nat → Int32) (n i v m : Nat) : Prop := (∀ t, t < m → tkK bs n (tP bs n i (t + 1)) = 2) ∧ (v ≠ 2 → m = dueN v) ∧ (v = 2 → 4 ≤ m) ∧ tkK bs n (tP bs n i (m + 1)) = 3
theorem FI_FI {v m m' : Nat} (h : FI bs n i v m) (h' : FI bs n i v m') : m = m' := by
  obtain ⟨a1, a2, a3⟩ := h
  obtain ⟨b1, b2, b3⟩ := h'
  by_cases c : v = 2
  · have a := (a3 c).1
    have b := (b3 c).1
    rcases Nat.lt_trichotomy m m' with q | q | q
    · exact absurd (b1 m q) a
    · exact q
    · exact absurd (a1 m' q) b
  · obtain ⟨a4, a5, a6⟩ := a2 c
    obtain ⟨b4, b5, b6⟩ := b2 c
    rcases Nat.lt_trichotomy m m' with q | q | q
    · exact absurd (b1 m q) (a6 (by omega))
    · exact q
    · exact absurd (a1 m' q) (b6 (by omega))
theorem FI_OK {v m m' : Nat} (h : FI bs n i v m) (h' : OK bs n i v m') : False := by
  obtain ⟨a1, a2, a3⟩ := h
  obtain ⟨b1, b2, b3, b4⟩ := h'
  have b5 : tkK bs n (tP bs n i (m' + 1)) ≠ 2 := by rw [b4]; decide
  by_cases c : v = 2
  · obtain ⟨a4, a5⟩ := a3 c
    have b := b3 c
    rcases Nat.lt_trichotomy m m' with q | q | q
    · exact absurd (b1 m q) a4
    · subst q
      exact absurd b4 (a5 b)
    · exact absurd (a1 m' q) b5
  · obtain ⟨a4, a5, a6⟩ := a2 c
    have b := b2 c
    rcases Nat.lt_trichotomy m m' with q | q | q
    · exact absurd (b1 m q) (a6 (by omega))
    · subst q
      exact absurd b4 (a5 b)
    · omega
theorem OK_OK {v m m' : Nat} (h : OK bs n i v m) (h' : OK bs n i v m') : m = m' := by
  obtain ⟨a1, a2, a3, a4⟩ := h
  obtain ⟨b1, b2, b3, b4⟩ := h'
  rcases Nat.lt_trichotomy m m' with q | q | q
  · have := b1 m q; rw [a4] at this; exact absurd this (by decide)
  · exact q
  · have := a1 m' q; rw [b4] at this; exact absurd this (by decide)
def K49 (w w' : pm_W) (v m : Nat) (p1 : Int32) : Prop := FM fl49 al49 w w' ∧ (v ≤ 5 → (gI w 29 0).toInt < 30 → FM [(29, 0)] [30] w w' ∧ gI w' 29 0 = gI w 29 0 + 1 ∧ (gA w' 30).length = 270 ∧ ∀ q, (gA w' 30).getD q 0 = rowN (fun q => (gA w 30).getD q 0) (gI w 29 0).toInt.toNat p1 m (cns w) q) ∧ (6 ≤ v → (v = 12 → (gI w 24 2).toInt < 7) → goodN v (cns w) → FM [(23, 9), (24, 0), (24, 1), (24, 2)] [25, 26, 27, 28] w w' ∧ HL w' ∧ (∀ q, vcl w' 24 q = kS v (vcl w 24) (cns w) q) ∧ (gI w' 23 9).toInt = gS v (gI w 23 9).toInt (cns w))
theorem HL_FM {w1 : pm_W} {fs : List (Nat × Nat)} {as : List Nat} (h : HL w) (f : FM fs as w w1) (h2 : (24, 2) ∉ fs) (h9 : (29, 0) ∉ fs) (a5 : 25 ∉ as) (a6 : 26 ∉ as) (a7 : 27 ∉ as) (a8 : 28 ∉ as) (a0 : 30 ∉ as) : HL w1 := by
  unfold HL
  rw [FM_a f a5, FM_a f a6, FM_a f a7, FM_a f a8, FM_a f a0, FM_i f h2, FM_i f h9]
  exact h
/-- the class's outcome, the words read aside: broken behind m numbers; or m numbers, and what is kept -/
theorem F29_n (hX : XO X) {v : Nat} {f p s0 x y : Int32} (hc0 : cb w0 = bs) (hn0 : cn w0 = n) (hq0 : gR w0 23 3 ≠ 31) (hn6 : n ≤ 600) (hi : i ≤ n) (hv : p2.toInt = v) (h12 : v ≤ 12) (hk0 : tkK bs n i = 1) (hH : HL w0) (hR : RI w0 w bs n i v f p 0) (hx : x.toInt = (0 : Nat)) (hy : y.toInt = (0 : Nat)) (h : PS X k 29 39 [.ref 23, .int s0, .int p2, .int x, .int y] [] w r w') : ∃ m, (FI bs n i v m ∧ r = some (.int 0) ∧ RI w0 w' bs n i v f p m) ∨ (OK bs n i v m ∧ r = some (.int 1) ∧ ∃ (w1 w2 : pm_W), RI w0 w1 bs n i v f p m ∧ FM [(23, 5), (23, 6), (23, 7), (23, 8)] [] w1 w2 ∧ CTk w2 bs n (tP bs n i (m + 2)) ∧ ((gI w2 23 10 ≠ 0 ∧ w' = w2) ∨ (gI w2 23 10 = 0 ∧ K49 w2 w' v m p2))) := by
  obtain ⟨m, h1, h2, h3⟩ := F29_39 hX hc0 hn0 hq0 hn6 hi hv h12 hk0 k w 0 x y hR (fun t ht => absurd ht (Nat.not_lt_zero t)) (fun _ => Nat.zero_le _) hx hy h
  rcases h3 with ⟨a1, a2, a3, a4, a5⟩ | ⟨a1, k', w1, x', y', a2, a3, a4⟩
  · refine ⟨m, Or.inl ⟨⟨h1, fun _ => ⟨by omega, fun _ => by rw [a3]; decide, fun z => by omega⟩, fun z => absurd z a1⟩, a4, a5⟩⟩
  · obtain ⟨fm, hT, hf, hp, hns⟩ := a3
    have hS := fm.2.2.2
    cases k' with
    | zero => exact (PS_0 a4).elim
    | succ k' =>
      have q := U29_107 hS a4
      obtain ⟨dd, d4⟩ := dueN_i h12
      rw [i_nat hv, (XO_A hX (j := 1) (by decide)).1] at q
      have q := q.2
      have f124 : PS X k' 29 124 [.ref 23, .int s0, .int p2, .int x', .int y'] [] w1 r w' → r = some (.int 0) ∧ w' = w1 := by
        intro z
        cases k' with
        | zero => exact (PS_0 z).elim
        | succ j => exact U29_124 hS z
      by_cases c : x' < ((xA pg_arr 1).getD v 0)
      · rw [if_pos c] at q
        rw [Int32.lt_iff_toInt_lt, dd, a2] at c
        obtain ⟨z1, z2⟩ := f124 q
        rw [z2]
        refine ⟨m, Or.inl ⟨⟨h1, fun _ => ⟨by omega, fun z => by omega, fun _ => a1⟩, fun z => ⟨a1, fun z2 => ?_⟩⟩, z1, ⟨fm, hT, hf, hp, hns⟩⟩⟩
        subst z
        rw [show dueN 2 = 4 from by decide +kernel] at c
        omega
      · rw [if_neg c] at q
        rw [Int32.lt_iff_toInt_lt, dd, a2] at c
        by_cases c3 : gI w1 23 6 = 3
        · rw [if_pos c3] at q
          rw [hT.1, show (3 : Int32) = Int32.ofNat 3 from by decide +kernel, tkK_inj tkK_4 (by decide)] at c3
          have hcw : cb w1 = bs := (cb_FM fm (by decide) (by intro z; exact hq0 (List.mem_singleton.mp z))).trans hc0
          have hnw : cn w1 = n := (cn_FM fm (by decide)).trans hn0
          obtain ⟨r1, w2, q1, q2⟩ := q
          obtain ⟨u1, u2, u3⟩ := CT_next hS hcw hnw hT q1
          have hS2 := u2.2.2.2
          have q := q2 u1 hS2
          have ok : OK bs n i v m := ⟨h1, fun z => by have := h2 z; omega, fun z => by subst z; rw [show dueN 2 = 4 from by decide +kernel] at c; omega, c3⟩
          have f143 : ∀ (w3 : pm_W), SK w3 → PS X k' 29 143 [.ref 23, .int s0, .int p2, .int x', .int y'] [] w3 r w' → r = some (.int 1) ∧ w' = w3 := by
            intro w3 hS3 z
            cases k' with
            | zero => exact (PS_0 z).elim
            | succ j => exact U29_143 hS3 z
          by_cases c4 : gI w2 23 10 = 0
          · rw [if_pos c4] at q
            obtain ⟨r3, w4, q3, q4⟩ := q
            have hH2 : HL w2 := HL_FM (HL_FM hH fm (by decide) (by decide) (by decide) (by decide) (by decide) (by decide) (by decide)) u2 (by decide) (by decide) (by decide) (by decide) (by decide) (by decide) (by decide)
            obtain ⟨v1, v2⟩ := F49 hS2 hH2 hv h12 a2 q3
            obtain ⟨z1, z2⟩ := f143 w4 v2.1.2.2.2 (q4 v1 v2.1.2.2.2)
            rw [z2]
            exact ⟨m, Or.inr ⟨ok, z1, w1, w2, ⟨fm, hT, hf, hp, hns⟩, u2, u3, Or.inr ⟨c4, v2⟩⟩⟩
          · rw [if_neg c4] at q
            obtain ⟨z1, z2⟩ := f143 w2 hS2 q
            exact ⟨m, Or.inr ⟨ok, z1, w1, w2, ⟨fm, hT, hf, hp, hns⟩, u2, u3, Or.inl ⟨c4, z2⟩⟩⟩
        · rw [if_neg c3] at q
          rw [hT.1, show (3 : Int32) = Int32.ofNat 3 from by decide +kernel, tkK_inj tkK_4 (by decide)] at c3
          obtain ⟨z1, z2⟩ := f124 q
          rw [z2]
          exact ⟨m, Or.inl ⟨⟨h1, fun z => ⟨h2 z, fun _ => c3, fun _ => a1⟩, fun _ => ⟨a1, fun _ => c3⟩⟩, z1, ⟨fm, hT, hf, hp, hns⟩⟩⟩
end FK
end
section
/-! ===== the reference's reader: numbers, faults ===== -/
section FL
variable {X : pm_X} {k : Nat} {w0 w w' : pm_W} {r : Option Value} {p p1 p2 p3 : Int32} {bs : Nat → Int32} {n i : Nat}
/-- all[] but for the fault and its place -/
def AF (w w' : pm_W) : Prop := (gA w' 148).length = (gA w 148).length ∧ ∀ q, q ≠ 3 → q ≠ 4 → (gA w' 148).getD q 0 = (gA w 148).getD q 0
theorem AF_refl : AF w w := ⟨rfl, fun _ _ _ => rfl⟩
theorem AF_trans {w1 w2 : pm_W} (h : AF w w1) (h2 : AF w1 w2) : AF w w2 := ⟨h2.1.trans h.1, fun q a b => (h2.2 q a b).trans (h.2 q a b)⟩
theorem AF_eq {w1 : pm_W} (h : gA w1 148 = gA w 148) : AF w w1 := by
  unfold AF
  rw [h]
  exact ⟨rfl, fun _ _ _ => rfl⟩
theorem AF_rb {w1 : pm_W} (h : AF w w1) : rb w1 = rb w := by
  funext i
  exact h.2 _ (by omega) (by omega)
def qF (w : pm_W) : Int32 := (gA w 148).getD 3 0
def qP (w : pm_W) : Int32 := (gA w 148).getD 4 0
/-- the fault and its place written -/
theorem put34 {f q : Int32} {w1 w2 : pm_W} (hS : SK w) (h3 : aI w 148 3) (h4 : aI w1 148 4) (e1 : w1 = aS w 148 3 f) (e2 : w2 = aS w1 148 4 q) : FM [] [148] w w2 ∧ AF w w2 ∧ qF w2 = f ∧ qP w2 = q := by
  have a1 : gA w1 148 = (gA w 148).set 3 f := by rw [e1, gA_aS (aI_isA h3), i_nat (n := 3) three32]
  have a2 : gA w2 148 = ((gA w 148).set 3 f).set 4 q := by rw [e2, gA_aS (aI_isA h4), i_nat (n := 4) four32, a1]
  have hS1 : SK w1 := by rw [e1]; exact SK_aS hS
  have l4 : 4 < (gA w 148).length := by
    unfold aI iN at h4
    rw [a1, List.length_set, four32] at h4
    omega
  refine ⟨FM_trans (w1 := w1) (by rw [e1]; exact FM_aS hS (by decide)) (by rw [e2]; exact FM_aS hS1 (by decide)), ⟨by rw [a2, List.length_set, List.length_set], fun z h1 h2 => ?_⟩, ?_, ?_⟩
  · rw [a2, gz_ne (fun q => h2 q.symm), gz_ne (fun q => h1 q.symm)]
  · unfold qF
    rw [a2, gz_ne (by decide), gz_eq (by omega)]
  · unfold qP
    rw [a2, gz_eq (by rw [List.length_set]; exact l4)]
/-- the form breaks -/
theorem F209 (hS : SK w) (h : PS X k 209 0 [.ref 147] [] w r w') : r = none ∧ FM [(147, 8)] [148] w w' ∧ AF w w' ∧ (gI w 147 8 = 0 → gI w' 147 8 = 1 ∧ qF w' = 1 ∧ qP w' = gI w 147 4) ∧ (gI w 147 8 ≠ 0 → w' = w) := by
  cases k with
  | zero => exact (PS_0 h).elim
  | succ k =>
    have h := U209_0 hS h
    by_cases c : gI w 147 8 = 0
    · rw [if_pos c] at h
      have h := h _ rfl
      obtain ⟨w1, e1⟩ : ∃ w1, w1 = sI w 147 8 1 := ⟨_, rfl⟩
      rw [← e1] at h
      have hS1 : SK w1 := by rw [e1]; exact SK_sI hS
      obtain ⟨h3, h⟩ := h
      obtain ⟨h4, h⟩ := h _ rfl
      obtain ⟨z1, z2⟩ := h _ rfl
      obtain ⟨f2, a2, b2, c2⟩ := put34 hS1 h3 h4 rfl rfl
      rw [← z2] at f2 a2 b2 c2
      have g1 : gA w1 148 = gA w 148 := by rw [e1]; exact gA_sI
      refine ⟨z1, FM_trans (w1 := w1) (by rw [e1]; exact FM_sI hS (by decide)) (FM_mono f2 (by decide) (by decide)), AF_trans (AF_eq g1) a2, fun _ => ⟨?_, b2, ?_⟩, fun z => absurd c z⟩
      · rw [FM_i f2 (by decide), e1]
        exact gI_sI (SK_isF hS (by decide +kernel))
      · rw [c2, gI_aS, e1]
        exact gI_sI_ne (by decide)
    · rw [if_neg c] at h
      rw [h.2]
      exact ⟨h.1, FM_refl hS, AF_refl, fun z => absurd z c, fun _ => rfl⟩
/-- a fault besides -/
theorem F211 (hS : SK w) (h : PS X k 211 0 [.ref 147, .int p1, .int p2] [] w r w') : r = none ∧ FM [] [148] w w' ∧ AF w w' ∧ (gI w 147 8 ≠ 0 → w' = w) ∧ (gI w 147 8 = 0 → (qF w ≠ 0 ∧ ((qP w).toInt < p2.toInt ∨ (qP w = p2 ∧ (qF w).toInt ≤ p1.toInt)) → w' = w) ∧ (¬ (qF w ≠ 0 ∧ ((qP w).toInt < p2.toInt ∨ (qP w = p2 ∧ (qF w).toInt ≤ p1.toInt))) → qF w' = p1 ∧ qP w' = p2)) := by
  cases k with
  | zero => exact (PS_0 h).elim
  | succ k =>
    have h := U211_0 hS h
    have e3 : aG w 148 3 = qF w := aG_n (m := 3) three32
    have e4 : aG w 148 4 = qP w := aG_n (m := 4) four32
    rw [e3, e4] at h
    have same : r = none ∧ w' = w → (qF w ≠ 0 ∧ ((qP w).toInt < p2.toInt ∨ (qP w = p2 ∧ (qF w).toInt ≤ p1.toInt))) → r = none ∧ FM [] [148] w w' ∧ AF w w' ∧ (gI w 147 8 ≠ 0 → w' = w) ∧ (gI w 147 8 = 0 → (qF w ≠ 0 ∧ ((qP w).toInt < p2.toInt ∨ (qP w = p2 ∧ (qF w).toInt ≤ p1.toInt)) → w' = w) ∧ (¬ (qF w ≠ 0 ∧ ((qP w).toInt < p2.toInt ∨ (qP w = p2 ∧ (qF w).toInt ≤ p1.toInt))) → qF w' = p1 ∧ qP w' = p2)) := by
      rintro ⟨z1, z2⟩ hc
      rw [z2]
      exact ⟨z1, FM_refl hS, AF_refl, fun _ => rfl, fun _ => ⟨fun _ => rfl, fun z => absurd hc z⟩⟩
    have put : ∀ (w1 w2 : pm_W), gI w 147 8 = 0 → aI w 148 3 → w1 = aS w 148 3 p1 → aI w1 148 4 → w2 = aS w1 148 4 p2 → r = none ∧ w' = w2 → ¬ (qF w ≠ 0 ∧ ((qP w).toInt < p2.toInt ∨ (qP w = p2 ∧ (qF w).toInt ≤ p1.toInt))) → r = none ∧ FM [] [148] w w' ∧ AF w w' ∧ (gI w 147 8 ≠ 0 → w' = w) ∧ (gI w 147 8 = 0 → (qF w ≠ 0 ∧ ((qP w).toInt < p2.toInt ∨ (qP w = p2 ∧ (qF w).toInt ≤ p1.toInt)) → w' = w) ∧ (¬ (qF w ≠ 0 ∧ ((qP w).toInt < p2.toInt ∨ (qP w = p2 ∧ (qF w).toInt ≤ p1.toInt))) → qF w' = p1 ∧ qP w' = p2)) := by
      rintro w1 w2 c0 h3 e1 h4 e2 ⟨z1, z2⟩ hc
      obtain ⟨f2, a2, b2, c2⟩ := put34 hS h3 h4 e1 e2
      rw [z2]
      exact ⟨z1, f2, a2, fun z => absurd c0 z, fun _ => ⟨fun z => absurd z hc, fun _ => ⟨b2, c2⟩⟩⟩
    by_cases c0 : gI w 147 8 = 0
    · rw [if_pos c0] at h
      obtain ⟨h3, h⟩ := h
      by_cases c1 : qF w = 0
      · rw [if_pos c1] at h
        obtain ⟨h3, h⟩ := h
        obtain ⟨h4, h⟩ := h _ rfl
        exact put _ _ c0 h3 rfl h4 rfl (h _ rfl) (fun z => z.1 c1)
      · rw [if_neg c1] at h
        obtain ⟨h4, h⟩ := h
        by_cases c2 : qP w < p2
        · rw [if_pos c2] at h
          rw [Int32.lt_iff_toInt_lt] at c2
          exact same h ⟨c1, Or.inl c2⟩
        · rw [if_neg c2] at h
          rw [Int32.lt_iff_toInt_lt] at c2
          obtain ⟨_, h⟩ := h
          by_cases c3 : qP w = p2
          · rw [if_pos c3] at h
            obtain ⟨_, h⟩ := h
            by_cases c4 : p1 < qF w
            · rw [if_pos c4] at h
              rw [Int32.lt_iff_toInt_lt] at c4
              obtain ⟨h3, h⟩ := h
              obtain ⟨h4, h⟩ := h _ rfl
              refine put _ _ c0 h3 rfl h4 rfl (h _ rfl) ?_
              rintro ⟨_, z | ⟨_, z⟩⟩
              · exact c2 z
              · omega
            · rw [if_neg c4] at h
              rw [Int32.lt_iff_toInt_lt] at c4
              exact same h ⟨c1, Or.inr ⟨c3, by omega⟩⟩
          · rw [if_neg c3] at h
            obtain ⟨h3, h⟩ := h
            obtain ⟨h4, h⟩ := h _ rfl
            refine put _ _ c0 h3 rfl h4 rfl (h _ rfl) ?_
            rintro ⟨_, z | ⟨z, _⟩⟩
            · exact c2 z
            · exact c3 z
    · rw [if_neg c0] at h
      rw [h.2]
      exact ⟨h.1, FM_refl hS, AF_refl, fun _ => rfl, fun z => absurd z c0⟩
/-- the current token of the reference is the one from i on -/
def RTk (w : pm_W) (bs : Nat → Int32) (n i : Nat) : Prop := gI w 147 5 = rTk bs n i ∧ (gI w 147 4).toInt = (tkS bs n i : Nat) ∧ (gI w 147 3).toInt = (tkN bs n i : Nat) ∧ (tkK bs n i = 2 → (gI w 147 6).toInt = tkV bs n i) ∧ (tkK bs n i = 1 → gI w 147 7 = wdC bs (tkS bs n i) (tkN bs n i))
theorem RTk_FM {w1 : pm_W} {fs : List (Nat × Nat)} {as : List Nat} (h : RTk w bs n i) (f : FM fs as w w1) (h3 : (147, 3) ∉ fs) (h4 : (147, 4) ∉ fs) (h5 : (147, 5) ∉ fs) (h6 : (147, 6) ∉ fs) (h7 : (147, 7) ∉ fs) : RTk w1 bs n i := by
  unfold RTk
  rw [FM_i f h3, FM_i f h4, FM_i f h5, FM_i f h6, FM_i f h7]
  exact h
theorem rTk_1 : rTk bs n i = 1 ↔ tkK bs n i = 2 := by
  unfold rTk
  split
  · rename_i e; rw [e]; decide +kernel
  · rename_i e
    rw [e]
    constructor
    · intro z
      split at z
      · exact absurd z (by decide +kernel)
      · exact absurd z (by decide +kernel)
    · intro z; exact absurd z (by decide)
  · rename_i e; rw [e]; decide +kernel
  · rename_i e; rw [e]; decide +kernel
  · rename_i e0 e1 e2 e3
    constructor
    · intro z; exact absurd z (by decide +kernel)
    · intro z; exact absurd z e2
theorem rTk_2 : rTk bs n i = 2 ↔ tkK bs n i = 3 := by
  unfold rTk
  split
  · rename_i e; rw [e]; decide +kernel
  · rename_i e
    rw [e]
    constructor
    · intro z
      split at z
      · exact absurd z (by decide +kernel)
      · exact absurd z (by decide +kernel)
    · intro z; exact absurd z (by decide)
  · rename_i e; rw [e]; decide +kernel
  · rename_i e; rw [e]; decide +kernel
  · rename_i e0 e1 e2 e3
    constructor
    · intro z; exact absurd z (by decide +kernel)
    · intro z; exact absurd z e3
theorem rTk_3 : rTk bs n i = 3 ↔ tkK bs n i = 1 ∧ wdC bs (tkS bs n i) (tkN bs n i) ≠ 99 := by
  unfold rTk
  split
  · rename_i e; rw [e]; exact ⟨fun z => absurd z (by decide +kernel), fun z => absurd z.1 (by decide)⟩
  · rename_i e
    rw [e]
    constructor
    · intro z
      split at z
      · exact absurd z (by decide +kernel)
      · rename_i c; exact ⟨rfl, c⟩
    · intro z; rw [if_neg z.2]
  · rename_i e; rw [e]; exact ⟨fun z => absurd z (by decide +kernel), fun z => absurd z.1 (by decide)⟩
  · rename_i e; rw [e]; exact ⟨fun z => absurd z (by decide +kernel), fun z => absurd z.1 (by decide)⟩
  · rename_i e0 e1 e2 e3
    exact ⟨fun z => absurd z (by decide +kernel), fun z => absurd z.1 e1⟩
theorem rTk_0 : rTk bs n i = 0 ↔ tkK bs n i = 0 := by
  unfold rTk
  split
  · rename_i e; rw [e]; exact ⟨fun _ => rfl, fun _ => rfl⟩
  · rename_i e
    rw [e]
    constructor
    · intro z
      split at z
      · exact absurd z (by decide +kernel)
      · exact absurd z (by decide +kernel)
    · intro z; exact absurd z (by decide)
  · rename_i e; rw [e]; exact ⟨fun z => absurd z (by decide +kernel), fun z => absurd z (by decide)⟩
  · rename_i e; rw [e]; exact ⟨fun z => absurd z (by decide +kernel), fun z => absurd z (by decide)⟩
  · rename_i e0 e1 e2 e3
    exact ⟨fun z => absurd z (by decide +kernel), fun z => absurd z e0⟩
theorem RTk_next (hS : SK w) (hR : RB w) (hc : rb w = bs) (hn : rn w = n) (hT : RTk w bs n i) (h : PS X k 201 0 [.ref 147, pm_dead, pm_dead] [] w r w') : r = none ∧ FM [(147, 3), (147, 4), (147, 5), (147, 6), (147, 7)] [] w w' ∧ RTk w' bs n (tkN bs n i) := by
  obtain ⟨z1, z2, z3⟩ := F201 hS hR (by rw [hT.2.2.1]; omega) h
  have ec : rat w = tkN bs n i := by unfold rat; rw [hT.2.2.1]; omega
  unfold TKr at z3
  rw [hc, hn, ec] at z3
  exact ⟨z1, z2, z3⟩
end FL
end
section
section FMM
variable {X : pm_X} {k : Nat} {w0 w w' : pm_W} {r : Option Value} {p p1 p2 p3 : Int32} {bs : Nat → Int32} {n i : Nat}
/-- the reference reads: its token is that from i on, no form broken, the fault f at p, which lies before the token (or is a 2 at it) -/
def RS (w : pm_W) (bs : Nat → Int32) (n i : Nat) (f p : Int32) : Prop := SK w ∧ gI w 147 8 = 0 ∧ RTk w bs n i ∧ rb w = bs ∧ rn w = n ∧ RB w ∧ qF w = f ∧ qP w = p ∧ (f ≠ 0 → p.toInt < tkS bs n i ∨ (p = pl bs n i ∧ f = 2)) ∧ i ≤ n
/-- the form is broken at the token from i on -/
def BK (w : pm_W) (bs : Nat → Int32) (n i : Nat) : Prop := SK w ∧ gI w 147 8 ≠ 0 ∧ qF w = 1 ∧ qP w = pl bs n i
def rl7 : List (Nat × Nat) := [(147, 3), (147, 4), (147, 5), (147, 6), (147, 7), (147, 8), (147, 9)]
theorem RS_n6 {f : Int32} (h : RS w bs n i f p) : n ≤ 600 := by
  obtain ⟨_, _, _, _, hn, hR, _⟩ := h
  unfold rn at hn
  have := hR.2.1
  omega
theorem RS_pl {f : Int32} (h : RS w bs n i f p) : gI w 147 4 = pl bs n i := by
  have n6 := RS_n6 h
  obtain ⟨_, _, hT, _, _, _, _, _, _, hi⟩ := h
  exact i32_of hT.2.1 (by have := (tkN_n (bs := bs) (n := n) (i := i) hi).1; omega)
theorem pl_i (hn : n ≤ 600) (hi : i ≤ n) : (pl bs n i).toInt = tkS bs n i := ofN_i (by have := (tkN_n (bs := bs) (n := n) (i := i) hi).1; omega)
theorem RS_lt {f : Int32} (h : RS w bs n i f p) (hz : f ≠ 0) : p.toInt < tkS bs n i + 1 := by
  have n6 := RS_n6 h
  obtain ⟨_, _, _, _, _, _, _, _, hlt, hi⟩ := h
  rcases hlt hz with q | ⟨q, _⟩
  · omega
  · rw [q, pl_i n6 hi]; omega
theorem ntP_lt {b : Bool} {kd f q p : Int32} {m m' : Nat} (hq : q.toInt = m) (hm : m < m') (h : f ≠ 0 → p.toInt < m') (hk : ntF b kd f ≠ 0) : (ntP b q f p).toInt < m' := by
  unfold ntF at hk
  unfold ntP
  cases c : (b && decide (f = 0)) with
  | true => show q.toInt < m'; omega
  | false =>
    rw [c] at hk
    exact h hk
/-- on to the next token -/
theorem RS_next {f f2 p2 : Int32} {w1 : pm_W} (h : RS w bs n i f p) (hk : tkK bs n i ≠ 0) (f1 : FM [] [148] w w1) (a1 : AF w w1) (hf : qF w1 = f2) (hp : qP w1 = p2) (hlt : f2 ≠ 0 → p2.toInt < tkS bs n i + 1) (q : PS X k 201 0 [.ref 147, pm_dead, pm_dead] [] w1 r w') : r = none ∧ FM [(147, 3), (147, 4), (147, 5), (147, 6), (147, 7)] [148] w w' ∧ AF w w' ∧ RS w' bs n (tkN bs n i) f2 p2 := by
  obtain ⟨hS, h8, hT, hb, hn, hR, _, _, _, hi⟩ := h
  have hS1 := f1.2.2.2
  have hb1 : rb w1 = bs := (AF_rb a1).trans hb
  have hn1 : rn w1 = n := (rn_FM f1 (by decide)).trans hn
  have hR1 : RB w1 := by
    unfold RB
    rw [FM_i f1 (by decide), rn_FM f1 (by decide), AF_rb a1]
    exact hR
  obtain ⟨z1, z2, z3⟩ := RTk_next hS1 hR1 hb1 hn1 (RTk_FM hT f1 (by decide) (by decide) (by decide) (by decide) (by decide)) q
  have g : gA w' 148 = gA w1 148 := FM_a z2 (by decide)
  have b := tkN_b hk
  have s := tkS_b (bs := bs) (n := n) (i := tkN bs n i)
  refine ⟨z1, FM_trans (FM_mono f1 (by decide) (by decide)) (FM_mono z2 (by decide) (by decide)), AF_trans a1 (AF_eq g), z2.2.2.2, ?_, z3, (rb_FM z2 (by decide)).trans hb1, (rn_FM z2 (by decide)).trans hn1, RB_FM hR1 z2 (by decide) (by decide), ?_, ?_, fun hz => ?_, b.2.2⟩
  · rw [FM_i z2 (by decide), FM_i f1 (by decide)]; exact h8
  · unfold qF; rw [g]; exact hf
  · unfold qP; rw [g]; exact hp
  · have := hlt hz
    omega
theorem F209_B {f : Int32} (h : RS w bs n i f p) (q : PS X k 209 0 [.ref 147] [] w r w') : r = none ∧ FM [(147, 8)] [148] w w' ∧ AF w w' ∧ BK w' bs n i := by
  obtain ⟨z1, z2, z3, z4, _⟩ := F209 h.1 q
  obtain ⟨z5, z6, z7⟩ := z4 h.2.1
  refine ⟨z1, z2, z3, z2.2.2.2, ?_, z6, ?_⟩
  · rw [z5]; decide +kernel
  · rw [z7]; exact RS_pl h
/-- numbered: a number, judged by its limits; or the form breaks -/
theorem F210 {f lo hi : Int32} (h : RS w bs n i f p) (q : PS X k 210 0 [.ref 147, .int lo, .int hi, pm_dead] [] w r w') : (tkK bs n i = 2 ∧ FM [(147, 3), (147, 4), (147, 5), (147, 6), (147, 7)] [148] w w' ∧ AF w w' ∧ ∃ (b : Bool) (x : Int32), (b = true ↔ ¬ (lo.toInt ≤ tkV bs n i ∧ tkV bs n i ≤ hi.toInt)) ∧ RS w' bs n (tkN bs n i) (ntF b 2 f) (ntP b (pl bs n i) f p) ∧ r = some (.int x) ∧ (b = false → x.toInt = tkV bs n i) ∧ (b = true → x = lo)) ∨ (tkK bs n i ≠ 2 ∧ FM [(147, 8)] [148] w w' ∧ AF w w' ∧ BK w' bs n i ∧ r = some (.int lo)) := by
  cases k with
  | zero => exact (PS_0 q).elim
  | succ k =>
    have hh := h
    obtain ⟨hS, h8, hT, hb, hn, hR, hf, hp, hlt, hi2⟩ := h
    have q := U210_0 hS q
    rw [if_pos h8] at q
    by_cases c : gI w 147 5 = 1
    · rw [if_pos c] at q
      rw [hT.1, rTk_1] at c
      have hx := hT.2.2.2.1 c
      have epl := RS_pl hh
      have n6 := RS_n6 hh
      have q := use_p hS q (fun _ _ z => F199 hS z)
      have ein : isI (gI w 147 6) lo hi = true ↔ (lo.toInt ≤ tkV bs n i ∧ tkV bs n i ≤ hi.toInt) := by
        unfold isI
        rw [Bool.and_eq_true, decide_eq_true_iff, decide_eq_true_iff, hx]
      refine Or.inl ⟨c, ?_⟩
      by_cases ci : b2i (isI (gI w 147 6) lo hi) = 0
      · rw [if_pos ci] at q
        rw [b2i_0] at ci
        obtain ⟨r1, w1, q1, q2⟩ := q
        obtain ⟨e1, f1, a1, _, g1⟩ := F211 hS q1
        obtain ⟨g2, g3⟩ := g1 h8
        have q := q2 e1 f1.2.2.2
        -- the fault behind
        have ff : qF w1 = ntF true 2 f ∧ qP w1 = ntP true (pl bs n i) f p := by
          rw [ntF_t, ntP_t, ← epl]
          by_cases c0 : f = 0
          · rw [if_pos c0, if_pos c0]
            exact g3 (fun z => z.1 (hf.trans c0))
          · rw [if_neg c0, if_neg c0, g2 ⟨by rw [hf]; exact c0, by
              rw [hp, hf, epl]
              rcases hlt c0 with y | ⟨y, y2⟩
              · exact Or.inl (by rw [pl_i n6 hi2]; exact y)
              · exact Or.inr ⟨y, by rw [y2]; decide +kernel⟩⟩]
            exact ⟨hf, hp⟩
        obtain ⟨r3, w3, q3, q4⟩ := q
        obtain ⟨z1, z2, z3, z4⟩ := RS_next hh (by rw [c]; decide) f1 a1 ff.1 ff.2 (fun hz => by have := ntP_lt (b := true) (q := pl bs n i) (f := f) (p := p) (m := tkS bs n i) (m' := tkS bs n i + 1) (pl_i n6 hi2) (by omega) (fun y => by have := RS_lt hh y; omega) hz; omega) q3
        have q := q4 z1 z2.2.2.2
        have q := use_p z2.2.2.2 q (fun _ _ z => F199 z2.2.2.2 z)
        rw [ci, if_pos (by decide +kernel)] at q
        rw [q.2]
        refine ⟨z2, z3, true, lo, ?_, z4, q.1, fun z => Bool.noConfusion z, fun _ => rfl⟩
        rw [← ein, ci]
        exact ⟨fun _ z => Bool.noConfusion z, fun _ => rfl⟩
      · rw [if_neg ci] at q
        rw [b2i_0, Bool.not_eq_false] at ci
        obtain ⟨r3, w3, q3, q4⟩ := q
        obtain ⟨z1, z2, z3, z4⟩ := RS_next hh (by rw [c]; decide) (FM_refl hS) AF_refl hf hp (fun hz => RS_lt hh hz) q3
        have q := q4 z1 z2.2.2.2
        have q := use_p z2.2.2.2 q (fun _ _ z => F199 z2.2.2.2 z)
        rw [ci, if_neg (by decide +kernel)] at q
        rw [q.2]
        refine ⟨z2, z3, false, _, ?_, z4, q.1, fun _ => hx, fun z => Bool.noConfusion z⟩
        exact ⟨fun z => Bool.noConfusion z, fun z => absurd (ein.mp ci) z⟩
    · rw [if_neg c] at q
      rw [hT.1, rTk_1] at c
      obtain ⟨r1, w1, q1, q2⟩ := q
      obtain ⟨z1, z2, z3, z4⟩ := F209_B hh q1
      have q := q2 z1 z2.2.2.2
      rw [q.2]
      exact Or.inr ⟨c, z2, z3, z4, q.1⟩
/-- numbered, the form being broken -/
theorem F210_w {lo hi : Int32} (hS : SK w) (h8 : gI w 147 8 ≠ 0) (q : PS X k 210 0 [.ref 147, .int lo, .int hi, pm_dead] [] w r w') : r = some (.int lo) ∧ w' = w := by
  cases k with
  | zero => exact (PS_0 q).elim
  | succ k =>
    have q := U210_0 hS q
    rw [if_neg h8] at q
    obtain ⟨r1, w1, q1, q2⟩ := q
    obtain ⟨z1, z2, z3, _, z4⟩ := F209 hS q1
    have e := z4 h8
    subst w1
    exact q2 z1 hS
/-- takes: a verb of this sort; or the form breaks -/
theorem F208 {f : Int32} (h : RS w bs n i f p) (q : PS X k 208 0 [.ref 147, .int p1, .int p2, pm_dead] [] w r w') : (tkK bs n i = 1 ∧ wdC bs (tkS bs n i) (tkN bs n i) ≠ 99 ∧ p1.toInt ≤ (wdC bs (tkS bs n i) (tkN bs n i)).toInt ∧ (wdC bs (tkS bs n i) (tkN bs n i)).toInt ≤ p2.toInt ∧ FM [(147, 3), (147, 4), (147, 5), (147, 6), (147, 7)] [148] w w' ∧ AF w w' ∧ RS w' bs n (tkN bs n i) f p ∧ r = some (.int (wdC bs (tkS bs n i) (tkN bs n i)))) ∨ (¬ (tkK bs n i = 1 ∧ wdC bs (tkS bs n i) (tkN bs n i) ≠ 99 ∧ p1.toInt ≤ (wdC bs (tkS bs n i) (tkN bs n i)).toInt ∧ (wdC bs (tkS bs n i) (tkN bs n i)).toInt ≤ p2.toInt) ∧ FM [(147, 8)] [148] w w' ∧ AF w w' ∧ BK w' bs n i ∧ r = some (.int 0)) := by
  cases k with
  | zero => exact (PS_0 q).elim
  | succ k =>
    have hh := h
    obtain ⟨hS, h8, hT, hb, hn, hR, hf, hp, hlt, hi2⟩ := h
    have q := U208_0 hS q
    rw [if_pos h8] at q
    by_cases c : gI w 147 5 = 3
    · rw [if_pos c] at q
      rw [hT.1, rTk_3] at c
      have ew := hT.2.2.2.2 c.1
      have q := use_p hS q (fun _ _ z => F199 hS z)
      rw [ew] at q
      have ein : isI (wdC bs (tkS bs n i) (tkN bs n i)) p1 p2 = true ↔ (p1.toInt ≤ (wdC bs (tkS bs n i) (tkN bs n i)).toInt ∧ (wdC bs (tkS bs n i) (tkN bs n i)).toInt ≤ p2.toInt) := by
        unfold isI
        rw [Bool.and_eq_true, decide_eq_true_iff, decide_eq_true_iff]
      by_cases ci : b2i (isI (wdC bs (tkS bs n i) (tkN bs n i)) p1 p2) = 0
      · rw [if_pos ci] at q
        rw [b2i_0] at ci
        obtain ⟨r1, w1, q1, q2⟩ := q
        obtain ⟨z1, z2, z3, z4⟩ := F209_B hh q1
        have q := q2 z1 z2.2.2.2
        rw [q.2]
        refine Or.inr ⟨fun z => ?_, z2, z3, z4, q.1⟩
        rw [ein.mpr ⟨z.2.2.1, z.2.2.2⟩] at ci
        exact Bool.noConfusion ci
      · rw [if_neg ci] at q
        rw [b2i_0, Bool.not_eq_false, ein] at ci
        obtain ⟨r3, w3, q3, q4⟩ := q
        obtain ⟨z1, z2, z3, z4⟩ := RS_next hh (by rw [c.1]; decide) (FM_refl hS) AF_refl hf hp (fun hz => RS_lt hh hz) q3
        have q := q4 z1 z2.2.2.2
        rw [q.2]
        exact Or.inl ⟨c.1, c.2, ci.1, ci.2, z2, z3, z4, q.1⟩
    · rw [if_neg c] at q
      rw [hT.1, rTk_3] at c
      obtain ⟨r1, w1, q1, q2⟩ := q
      obtain ⟨z1, z2, z3, z4⟩ := F209_B hh q1
      have q := q2 z1 z2.2.2.2
      rw [q.2]
      exact Or.inr ⟨fun z => c ⟨z.1, z.2.1⟩, z2, z3, z4, q.1⟩
/-- the line's end -/
theorem F214 {f : Int32} (h : RS w bs n i f p) (q : PS X k 214 0 [.ref 147] [] w r w') : r = none ∧ ((tkK bs n i = 3 ∧ FM [(147, 3), (147, 4), (147, 5), (147, 6), (147, 7)] [148] w w' ∧ AF w w' ∧ RS w' bs n (tkN bs n i) f p) ∨ (tkK bs n i ≠ 3 ∧ FM [(147, 8)] [148] w w' ∧ AF w w' ∧ BK w' bs n i)) := by
  cases k with
  | zero => exact (PS_0 q).elim
  | succ k =>
    have hh := h
    obtain ⟨hS, h8, hT, hb, hn, hR, hf, hp, hlt, hi2⟩ := h
    have q := U214_0 hS q
    rw [if_pos h8] at q
    by_cases c : gI w 147 5 = 2
    · rw [if_pos c] at q
      rw [hT.1, rTk_2] at c
      obtain ⟨r3, w3, q3, q4⟩ := q
      obtain ⟨z1, z2, z3, z4⟩ := RS_next hh (by rw [c]; decide) (FM_refl hS) AF_refl hf hp (fun hz => RS_lt hh hz) q3
      have q := q4 z1 z2.2.2.2
      rw [q.2]
      exact ⟨q.1, Or.inl ⟨c, z2, z3, z4⟩⟩
    · rw [if_neg c] at q
      rw [hT.1, rTk_2] at c
      obtain ⟨r1, w1, q1, q2⟩ := q
      obtain ⟨z1, z2, z3, z4⟩ := F209_B hh q1
      have q := q2 z1 z2.2.2.2
      rw [q.2]
      exact ⟨q.1, Or.inr ⟨c, z2, z3, z4⟩⟩
theorem F214_w (hS : SK w) (h8 : gI w 147 8 ≠ 0) (q : PS X k 214 0 [.ref 147] [] w r w') : r = none ∧ w' = w := by
  cases k with
  | zero => exact (PS_0 q).elim
  | succ k =>
    have q := U214_0 hS q
    rw [if_neg h8] at q
    obtain ⟨r1, w1, q1, q2⟩ := q
    obtain ⟨z1, z2, z3, _, z4⟩ := F209 hS q1
    have e := z4 h8
    subst w1
    exact q2 z1 hS
/-- a person: twice as the one before, or none of nine, is a fault -/
theorem F212 {f than : Int32} (h : RS w bs n i f p) (q : PS X k 212 0 [.ref 147, .int than, pm_dead] [] w r w') : (tkK bs n i = 2 ∧ FM rl7 [148] w w' ∧ AF w w' ∧ ∃ (b : Bool) (x : Int32), (b = true ↔ (tkV bs n i = than.toInt ∨ ¬ (0 ≤ tkV bs n i ∧ tkV bs n i ≤ 8))) ∧ RS w' bs n (tkN bs n i) (ntF b 2 f) (ntP b (pl bs n i) f p) ∧ r = some (.int x) ∧ (b = false → x.toInt = tkV bs n i) ∧ (0 ≤ x.toInt ∧ x.toInt ≤ 8) ∧ gI w' 147 9 = (if x ≤ gI w 147 9 then gI w 147 9 else x)) ∨ (tkK bs n i ≠ 2 ∧ FM rl7 [148] w w' ∧ AF w w' ∧ BK w' bs n i ∧ ∃ x : Int32, r = some (.int x)) := by
  cases k with
  | zero => exact (PS_0 q).elim
  | succ k =>
    have hh := h
    have n6 := RS_n6 hh
    have epl := RS_pl hh
    obtain ⟨hS, h8, hT, hb, hn, hR, hf, hp, hlt, hi2⟩ := h
    have q := U212_0 hS q
    -- behind numbered
    have fin : ∀ (w2 : pm_W) (x : Int32), SK w2 → (if x ≤ (gI w2 147 9) then (∀ w9 : pm_W, w9 = sI w2 147 9 (gI w2 147 9) → (r = some (.int x) ∧ w' = w9)) else (∀ w10 : pm_W, w10 = sI w2 147 9 x → (r = some (.int x) ∧ w' = w10))) → r = some (.int x) ∧ FM [(147, 9)] [] w2 w' ∧ gI w' 147 9 = (if x ≤ gI w2 147 9 then gI w2 147 9 else x) := by
      intro w2 x hS2 z
      by_cases c : x ≤ gI w2 147 9
      · rw [if_pos c] at z
        rw [if_pos c]
        obtain ⟨z1, z2⟩ := z _ rfl
        rw [z2]
        exact ⟨z1, FM_sI hS2 (by decide), gI_sI (SK_isF hS2 (by decide +kernel))⟩
      · rw [if_neg c] at z
        rw [if_neg c]
        obtain ⟨z1, z2⟩ := z _ rfl
        rw [z2]
        exact ⟨z1, FM_sI hS2 (by decide), gI_sI (SK_isF hS2 (by decide +kernel))⟩
    have e8 : (8 : Int32).toInt = 8 := eight32
    -- numbered from a state w1, then the greatest
    have num : ∀ (w1 : pm_W) (f1 p1 : Int32), RS w1 bs n i f1 p1 → FM [] [148] w w1 → AF w w1 → ∀ (r6 : Option Value) (w7 : pm_W), PS X k 210 0 [.ref 147, .int 0, .int 8, pm_dead] [] w1 r6 w7 → (∀ x8 : Int32, r6 = some (.int x8) → SK w7 → (if x8 ≤ (gI w7 147 9) then (∀ w9 : pm_W, w9 = sI w7 147 9 (gI w7 147 9) → (r = some (.int x8) ∧ w' = w9)) else (∀ w10 : pm_W, w10 = sI w7 147 9 x8 → (r = some (.int x8) ∧ w' = w10)))) → (tkK bs n i = 2 ∧ FM rl7 [148] w w' ∧ AF w w' ∧ ∃ (b : Bool) (x : Int32), (b = true ↔ ¬ (0 ≤ tkV bs n i ∧ tkV bs n i ≤ 8)) ∧ RS w' bs n (tkN bs n i) (ntF b 2 f1) (ntP b (pl bs n i) f1 p1) ∧ r = some (.int x) ∧ (b = false → x.toInt = tkV bs n i) ∧ (0 ≤ x.toInt ∧ x.toInt ≤ 8) ∧ gI w' 147 9 = (if x ≤ gI w 147 9 then gI w 147 9 else x)) ∨ (tkK bs n i ≠ 2 ∧ FM rl7 [148] w w' ∧ AF w w' ∧ BK w' bs n i ∧ ∃ x : Int32, r = some (.int x)) := by
      intro w1 f1 p1 h1 fm1 a1 r6 w7 q6 q7
      rcases F210 h1 q6 with ⟨z1, z2, z3, b, x, z4, z5, z6, z7, z8⟩ | ⟨z1, z2, z3, z4, z5⟩
      · obtain ⟨y1, y2, y3⟩ := fin w7 x z2.2.2.2 (q7 x z6 z2.2.2.2)
        have fa : FM rl7 [148] w w' := FM_trans (FM_mono fm1 (by decide) (by decide)) (FM_trans (FM_mono z2 (by decide) (by decide)) (FM_mono y2 (by decide) (by decide)))
        have ga : gA w' 148 = gA w7 148 := FM_a y2 (by decide)
        rw [z32, e8] at z4
        refine Or.inl ⟨z1, fa, AF_trans (AF_trans a1 z3) (AF_eq ga), b, x, z4, ?_, y1, z7, ?_, ?_⟩
        · obtain ⟨s1, s2, s3, s4, s5, s6, s7, s8, s9, s10⟩ := z5
          refine ⟨y2.2.2.2, by rw [FM_i y2 (by decide)]; exact s2, RTk_FM s3 y2 (by decide) (by decide) (by decide) (by decide) (by decide), (rb_FM y2 (by decide)).trans s4, (rn_FM y2 (by decide)).trans s5, RB_FM s6 y2 (by decide) (by decide), ?_, ?_, s9, s10⟩
          · unfold qF; rw [ga]; exact s7
          · unfold qP; rw [ga]; exact s8
        · cases b with
          | true => rw [z8 rfl, z32]; omega
          | false =>
            rw [z7 rfl]
            have := Classical.not_not.mp (fun y => Bool.noConfusion (z4.mpr y) : ¬ ¬ (0 ≤ tkV bs n i ∧ tkV bs n i ≤ 8))
            exact this
        · rw [y3, FM_i z2 (by decide), FM_i fm1 (by decide)]
      · obtain ⟨y1, y2, y3⟩ := fin w7 0 z2.2.2.2 (q7 0 z5 z2.2.2.2)
        have fa : FM rl7 [148] w w' := FM_trans (FM_mono fm1 (by decide) (by decide)) (FM_trans (FM_mono z2 (by decide) (by decide)) (FM_mono y2 (by decide) (by decide)))
        have ga : gA w' 148 = gA w7 148 := FM_a y2 (by decide)
        refine Or.inr ⟨z1, fa, AF_trans (AF_trans a1 z3) (AF_eq ga), ?_, 0, y1⟩
        obtain ⟨s1, s2, s3, s4⟩ := z4
        exact ⟨y2.2.2.2, by rw [FM_i y2 (by decide)]; exact s2, by unfold qF; rw [ga]; exact s3, by unfold qP; rw [ga]; exact s4⟩
    by_cases c : gI w 147 5 = 1
    · rw [if_pos c] at q
      rw [hT.1, rTk_1] at c
      have hx := hT.2.2.2.1 c
      by_cases ct : gI w 147 6 = than
      · rw [if_pos ct] at q
        obtain ⟨r1, w1, q1, q2⟩ := q
        obtain ⟨e1, f1, a1, _, g1⟩ := F211 hS q1
        obtain ⟨g2, g3⟩ := g1 h8
        obtain ⟨r3, w3, q3, q4⟩ := q2 e1 f1.2.2.2
        have ff : qF w1 = ntF true 2 f ∧ qP w1 = ntP true (pl bs n i) f p := by
          rw [ntF_t, ntP_t, ← epl]
          by_cases c0 : f = 0
          · rw [if_pos c0, if_pos c0]
            exact g3 (fun z => z.1 (hf.trans c0))
          · rw [if_neg c0, if_neg c0, g2 ⟨by rw [hf]; exact c0, by
              rw [hp, hf, epl]
              rcases hlt c0 with y | ⟨y, y2⟩
              · exact Or.inl (by rw [pl_i n6 hi2]; exact y)
              · exact Or.inr ⟨y, by rw [y2]; decide +kernel⟩⟩]
            exact ⟨hf, hp⟩
        have r1' : RS w1 bs n i (ntF true 2 f) (ntP true (pl bs n i) f p) := by
          refine ⟨f1.2.2.2, by rw [FM_i f1 (by decide)]; exact h8, RTk_FM hT f1 (by decide) (by decide) (by decide) (by decide) (by decide), (AF_rb a1).trans hb, (rn_FM f1 (by decide)).trans hn, ?_, ff.1, ff.2, fun hz => ?_, hi2⟩
          · unfold RB
            rw [FM_i f1 (by decide), rn_FM f1 (by decide), AF_rb a1]
            exact hR
          · rw [ntF_t, ntP_t]
            by_cases c0 : f = 0
            · rw [if_pos c0, if_pos c0]
              exact Or.inr ⟨rfl, rfl⟩
            · rw [if_neg c0, if_neg c0]
              exact hlt c0
        rcases num w1 _ _ r1' f1 a1 r3 w3 q3 q4 with ⟨z1, z2, z3, b, x, z4, z5, z6, z7, z8, z9⟩ | z
        · refine Or.inl ⟨z1, z2, z3, true, x, ⟨fun _ => Or.inl (by rw [← hx, ct]), fun _ => rfl⟩, ?_, z6, fun y => Bool.noConfusion y, z8, z9⟩
          have e1 : ntF b 2 (ntF true 2 f) = ntF true 2 f := by
            unfold ntF
            have : ntF true 2 f ≠ 0 := by
              rw [ntF_t]
              by_cases c0 : f = 0
              · rw [if_pos c0]; decide +kernel
              · rw [if_neg c0]; exact c0
            unfold ntF at this
            rw [decide_eq_false this, Bool.and_false]
            rfl
          have e2 : ntP b (pl bs n i) (ntF true 2 f) (ntP true (pl bs n i) f p) = ntP true (pl bs n i) f p := by
            have : ntF true 2 f ≠ 0 := by
              rw [ntF_t]
              by_cases c0 : f = 0
              · rw [if_pos c0]; decide +kernel
              · rw [if_neg c0]; exact c0
            show cond (b && decide (ntF true 2 f = 0)) _ _ = _
            rw [decide_eq_false this, Bool.and_false]
            rfl
          rw [e1, e2] at z5
          exact z5
        · exact Or.inr z
      · rw [if_neg ct] at q
        obtain ⟨r3, w3, q3, q4⟩ := q
        rcases num w _ _ hh (FM_refl hS) AF_refl r3 w3 q3 q4 with ⟨z1, z2, z3, b, x, z4, z5, z6, z7, z8, z9⟩ | z
        · refine Or.inl ⟨z1, z2, z3, b, x, ⟨fun y => Or.inr (z4.mp y), fun y => ?_⟩, z5, z6, z7, z8, z9⟩
          rcases y with y | y
          · exact absurd (Int32.toInt_inj.mp (hx.trans y)) ct
          · exact z4.mpr y
        · exact Or.inr z
    · rw [if_neg c] at q
      rw [hT.1, rTk_1] at c
      obtain ⟨r3, w3, q3, q4⟩ := q
      rcases num w _ _ hh (FM_refl hS) AF_refl r3 w3 q3 q4 with ⟨z1, _⟩ | z
      · exact absurd z1 c
      · exact Or.inr z
/-- a person, the form being broken -/
theorem F212_w {than : Int32} (hS : SK w) (h8 : gI w 147 8 ≠ 0) (q : PS X k 212 0 [.ref 147, .int than, pm_dead] [] w r w') : ∃ x : Int32, r = some (.int x) ∧ FM rl7 [148] w w' ∧ gA w' 148 = gA w 148 ∧ gI w' 147 8 = gI w 147 8 := by
  cases k with
  | zero => exact (PS_0 q).elim
  | succ k =>
    have q := U212_0 hS q
    have fin : ∀ (w2 : pm_W) (x : Int32), SK w2 → (if x ≤ (gI w2 147 9) then (∀ w9 : pm_W, w9 = sI w2 147 9 (gI w2 147 9) → (r = some (.int x) ∧ w' = w9)) else (∀ w10 : pm_W, w10 = sI w2 147 9 x → (r = some (.int x) ∧ w' = w10))) → r = some (.int x) ∧ FM [(147, 9)] [] w2 w' := by
      intro w2 x hS2 z
      by_cases c : x ≤ gI w2 147 9
      · rw [if_pos c] at z
        obtain ⟨z1, z2⟩ := z _ rfl
        rw [z2]
        exact ⟨z1, FM_sI hS2 (by decide)⟩
      · rw [if_neg c] at z
        obtain ⟨z1, z2⟩ := z _ rfl
        rw [z2]
        exact ⟨z1, FM_sI hS2 (by decide)⟩
    have num : ∀ (r6 : Option Value) (w7 : pm_W), PS X k 210 0 [.ref 147, .int 0, .int 8, pm_dead] [] w r6 w7 → (∀ x8 : Int32, r6 = some (.int x8) → SK w7 → (if x8 ≤ (gI w7 147 9) then (∀ w9 : pm_W, w9 = sI w7 147 9 (gI w7 147 9) → (r = some (.int x8) ∧ w' = w9)) else (∀ w10 : pm_W, w10 = sI w7 147 9 x8 → (r = some (.int x8) ∧ w' = w10)))) → ∃ x : Int32, r = some (.int x) ∧ FM rl7 [148] w w' ∧ gA w' 148 = gA w 148 ∧ gI w' 147 8 = gI w 147 8 := by
      intro r6 w7 q6 q7
      obtain ⟨e1, e2⟩ := F210_w hS h8 q6
      subst w7
      obtain ⟨y1, y2⟩ := fin w 0 hS (q7 0 e1 hS)
      exact ⟨0, y1, FM_mono y2 (by decide) (by decide), FM_a y2 (by decide), FM_i y2 (by decide)⟩
    by_cases c : gI w 147 5 = 1
    · rw [if_pos c] at q
      by_cases ct : gI w 147 6 = than
      · rw [if_pos ct] at q
        obtain ⟨r1, w1, q1, q2⟩ := q
        obtain ⟨e1, f1, a1, g0, g1⟩ := F211 hS q1
        have e := g0 h8
        subst w1
        obtain ⟨r3, w3, q3, q4⟩ := q2 e1 hS
        exact num r3 w3 q3 q4
      · rw [if_neg ct] at q
        obtain ⟨r3, w3, q3, q4⟩ := q
        exact num r3 w3 q3 q4
    · rw [if_neg c] at q
      obtain ⟨r3, w3, q3, q4⟩ := q
      exact num r3 w3 q3 q4
end FMM
end
section
section FO
variable {X : pm_X} {k : Nat} {w0 w w' : pm_W} {r : Option Value} {p p1 p2 p3 : Int32} {bs : Nat → Int32} {n i : Nat}
/-- the class's verb at a token: -1 none -/
def vbT (b : Bool) (bs : Nat → Int32) (n i : Nat) : Int := if tkK bs n i = 1 then vbR b (wdC bs (tkS bs n i) (tkN bs n i)) else -1
theorem vbR_b {b : Bool} {c : Int32} : vbR b c = -1 ∨ (0 ≤ vbR b c ∧ vbR b c ≤ 12 ∧ (b = true → 6 ≤ vbR b c) ∧ (b = false → vbR b c ≤ 5)) := by
  unfold vbR
  cases b with
  | true =>
    rw [if_pos rfl]
    by_cases c1 : 1 ≤ c.toInt ∧ c.toInt ≤ 7
    · rw [if_pos c1]
      exact Or.inr ⟨by omega, by omega, fun _ => by omega, fun z => Bool.noConfusion z⟩
    · rw [if_neg c1]
      exact Or.inl rfl
  | false =>
    rw [if_neg Bool.false_ne_true]
    by_cases c1 : 11 ≤ c.toInt ∧ c.toInt ≤ 16
    · rw [if_pos c1]
      exact Or.inr ⟨by omega, by omega, fun z => Bool.noConfusion z, fun _ => by omega⟩
    · rw [if_neg c1]
      exact Or.inl rfl
/-- the class reads: its token is that from i on; the fault f at p -/
def CS (w : pm_W) (bs : Nat → Int32) (n i : Nat) (f p : Int32) : Prop := SK w ∧ CTk w bs n i ∧ cb w = bs ∧ cn w = n ∧ gI w 23 10 = f ∧ gI w 23 11 = p ∧ HL w ∧ gR w 23 3 = 4 ∧ n ≤ 600 ∧ i ≤ n
/-- a sentence of the class -/
theorem F29 {f : Int32} {b : Bool} (hX : XO X) (h : CS w bs n i f p) (hb : b = decide (p1 = 0)) (q : PS X k 29 0 [.ref 23, .int p1, pm_dead, pm_dead, pm_dead] [] w r w') : (vbT b bs n i = -1 ∧ r = some (.int 0) ∧ w' = w) ∨ ∃ (v : Nat) (pv : Int32), vbT b bs n i = v ∧ v ≤ 12 ∧ (b = true → 6 ≤ v) ∧ (b = false → v ≤ 5) ∧ tkK bs n i = 1 ∧ pv.toInt = v ∧ ∃ m, (FI bs n i v m ∧ r = some (.int 0) ∧ RI w w' bs n i v (ntF (tooM w v) 3 f) (ntP (tooM w v) (pl bs n i) f p) m) ∨ (OK bs n i v m ∧ r = some (.int 1) ∧ ∃ (w1 w2 : pm_W), RI w w1 bs n i v (ntF (tooM w v) 3 f) (ntP (tooM w v) (pl bs n i) f p) m ∧ FM [(23, 5), (23, 6), (23, 7), (23, 8)] [] w1 w2 ∧ CTk w2 bs n (tP bs n i (m + 2)) ∧ ((gI w2 23 10 ≠ 0 ∧ w' = w2) ∨ (gI w2 23 10 = 0 ∧ K49 w2 w' v m pv))) := by
  obtain ⟨hS, hT, hc, hn, hf, hp, hH, h4, n6, hi⟩ := h
  cases k with
  | zero => exact (PS_0 q).elim
  | succ k =>
    obtain ⟨r1, w1, q1, q2⟩ := U29_0 hS q
    obtain ⟨e1, y, e2, ey⟩ := F30 hX hS (by rw [hc]; exact hT) hn hi q1
    subst w1
    rw [hc, ← hb] at ey
    have ey : y.toInt = vbT b bs n i := ey
    have q := q2 y e2 hS
    have m1 : ((-1 : Int32)).toInt = -1 := by decide +kernel
    by_cases c1 : y = -1
    · rw [if_pos c1] at q
      refine Or.inl ⟨?_, q.1, q.2⟩
      rw [← ey, c1]
      exact m1
    · rw [if_neg c1] at q
      have hk1 : tkK bs n i = 1 := by
        by_cases c : tkK bs n i = 1
        · exact c
        · exfalso
          unfold vbT at ey
          rw [if_neg c] at ey
          exact c1 (Int32.toInt_inj.mp (by rw [ey, m1]))
      have hvb := vbR_b (b := b) (c := wdC bs (tkS bs n i) (tkN bs n i))
      have evb : vbT b bs n i = vbR b (wdC bs (tkS bs n i) (tkN bs n i)) := by
        unfold vbT
        rw [if_pos hk1]
      rw [← evb, ← ey] at hvb
      have hvb : 0 ≤ y.toInt ∧ y.toInt ≤ 12 ∧ (b = true → 6 ≤ y.toInt) ∧ (b = false → y.toInt ≤ 5) := by
        rcases hvb with z | z
        · exact absurd (Int32.toInt_inj.mp (by rw [z, m1])) c1
        · exact z
      obtain ⟨v, hv⟩ : ∃ v : Nat, v = y.toInt.toNat := ⟨_, rfl⟩
      have hyv : y.toInt = v := by omega
      refine Or.inr ⟨v, y, by rw [← ey]; exact hyv, by omega, fun z => by have := hvb.2.2.1 z; omega, fun z => by have := hvb.2.2.2 z; omega, hk1, hyv, ?_⟩
      have q := use_p hS q (fun _ _ z => F44 hS z)
      rw [hyv] at q
      have hpl : gI w 23 7 = pl bs n i := i32_of hT.2.1 (by have := (tkN_n (bs := bs) hi).1; omega)
      -- from label 30 on
      have s30 : ∀ w3 : pm_W, FM fl6 [31] w w3 → CTk w3 bs n i → gI w3 23 10 = ntF (tooM w v) 3 f → gI w3 23 11 = ntP (tooM w v) (pl bs n i) f p → PS X k 29 30 [.ref 23, .int p1, .int y, pm_dead, pm_dead] [] w3 r w' → ∃ m, (FI bs n i v m ∧ r = some (.int 0) ∧ RI w w' bs n i v (ntF (tooM w v) 3 f) (ntP (tooM w v) (pl bs n i) f p) m) ∨ (OK bs n i v m ∧ r = some (.int 1) ∧ ∃ (w1 w2 : pm_W), RI w w1 bs n i v (ntF (tooM w v) 3 f) (ntP (tooM w v) (pl bs n i) f p) m ∧ FM [(23, 5), (23, 6), (23, 7), (23, 8)] [] w1 w2 ∧ CTk w2 bs n (tP bs n i (m + 2)) ∧ ((gI w2 23 10 ≠ 0 ∧ w' = w2) ∨ (gI w2 23 10 = 0 ∧ K49 w2 w' v m y))) := by
        intro w3 f3 hT3 g1 g2 z
        cases k with
        | zero => exact (PS_0 z).elim
        | succ k =>
          have hS3 := f3.2.2.2
          obtain ⟨r4, w4, z1, z2⟩ := U29_30 hS3 z
          have hcw : cb w3 = bs := (cb_FM f3 (by decide) (by rw [h4]; decide)).trans hc
          have hnw : cn w3 = n := (cn_FM f3 (by decide)).trans hn
          obtain ⟨u1, u2, u3⟩ := CT_next hS3 hcw hnw hT3 z1
          have z := z2 u1 u2.2.2.2
          refine F29_n hX hc hn (by rw [h4]; decide) n6 hi hyv (by omega) hk1 hH ⟨FM_trans f3 (FM_mono u2 (by decide) (by decide)), u3, by rw [FM_i u2 (by decide)]; exact g1, by rw [FM_i u2 (by decide)]; exact g2, fun t ht => absurd ht (Nat.not_lt_zero t)⟩ z32 z32 z
      cases ctm : tooM w v with
      | false =>
        rw [ctm, if_pos (by decide +kernel)] at q
        rw [ctm] at s30
        exact s30 w (FM_refl hS) hT hf hp q
      | true =>
        rw [ctm, if_neg (by decide +kernel)] at q
        rw [ctm] at s30
        obtain ⟨r7, w8, q7, q8⟩ := q
        obtain ⟨u1, u2, u3, u4⟩ := F46 hS q7
        have q := q8 u1 u2.2.2.2
        refine s30 w8 (FM_mono u2 (by decide) (by decide)) (CT_FM hT u2 (by decide) (by decide) (by decide) (by decide)) ?_ ?_ q
        · rw [u3, ntF_t, hf]
        · rw [u4, ntP_t, hf, hp, hpl]
end FO
end
section
/-! ===== the reference's lines ===== -/
section FP
variable {X : pm_X} {k : Nat} {w0 w w' : pm_W} {r : Option Value} {p p1 p2 p3 f0 p0 : Int32} {bs : Nat → Int32} {n i v j : Nat}
theorem ntF_any {b b' : Bool} {kd kd' f : Int32} (h : f ≠ 0) : ntF b kd f = ntF b' kd' f := by
  unfold ntF
  rw [decide_eq_false h, Bool.and_false, Bool.and_false]
  rfl
theorem ntP_any {b b' : Bool} {q q' f p : Int32} (h : f ≠ 0) : ntP b q f p = ntP b' q' f p := by
  unfold ntP
  rw [decide_eq_false h, Bool.and_false, Bool.and_false]
  rfl
theorem bool_iff {b c : Bool} (h : b = true ↔ c = true) : b = c := by
  exact Bool.eq_iff_iff.mpr h
/-- the fault behind one number more, below eight -/
theorem fJ_s (hj : j < 8) : fJ bs n i v f0 p0 (j + 1) = (ntF (bJ bs n i v j) 2 (fJ bs n i v f0 p0 j).1, ntP (bJ bs n i v j) (pl bs n (tP bs n i (j + 1))) (fJ bs n i v f0 p0 j).1 (fJ bs n i v f0 p0 j).2) := by
  show (ntF (decide (8 ≤ j)) 3 _, ntP (decide (8 ≤ j)) _ _ _) = _
  rw [decide_eq_false (by omega)]
  rfl
/-- behind j numbers of the verb v -/
def RJ (w : pm_W) (bs : Nat → Int32) (n i v : Nat) (f0 p0 : Int32) (j : Nat) : Prop := RS w bs n (tP bs n i (j + 1)) (fJ bs n i v f0 p0 j).1 (fJ bs n i v f0 p0 j).2
theorem R_num {lo hi : Int32} (hj : j < 8) (hb : (fJ bs n i v f0 p0 j).1 ≠ 0 ∨ (badI v j (nv bs n i j) (nv bs n i) ↔ ¬ (lo.toInt ≤ nv bs n i j ∧ nv bs n i j ≤ hi.toInt))) (h : RJ w bs n i v f0 p0 j) (q : PS X k 210 0 [.ref 147, .int lo, .int hi, pm_dead] [] w r w') : (tkK bs n (tP bs n i (j + 1)) = 2 ∧ FM rl7 [148] w w' ∧ AF w w' ∧ gI w' 147 9 = gI w 147 9 ∧ ∃ x : Int32, r = some (.int x) ∧ RJ w' bs n i v f0 p0 (j + 1) ∧ ((fJ bs n i v f0 p0 (j + 1)).1 = 0 → x.toInt = nv bs n i j)) ∨ (tkK bs n (tP bs n i (j + 1)) ≠ 2 ∧ FM rl7 [148] w w' ∧ AF w w' ∧ BK w' bs n (tP bs n i (j + 1)) ∧ r = some (.int lo)) := by
  rcases F210 h q with ⟨z1, z2, z3, b, x, z4, z5, z6, z7, z8⟩ | ⟨z1, z2, z3, z4, z5⟩
  · refine Or.inl ⟨z1, FM_mono z2 (by decide) (by decide), z3, FM_i z2 (by decide), x, z6, ?_, ?_⟩
    · unfold RJ
      rw [fJ_s hj]
      rcases hb with hb | hb
      · rw [ntF_any (b' := b) (kd' := 2) hb, ntP_any (b' := b) (q' := pl bs n (tP bs n i (j + 1))) hb]
        exact z5
      · have e : b = bJ bs n i v j := bool_iff (z4.trans (hb.symm.trans bJ_iff.symm))
        rw [← e]
        exact z5
    · intro hz
      rw [fJ_s hj] at hz
      have hz : ntF (bJ bs n i v j) 2 (fJ bs n i v f0 p0 j).1 = 0 := hz
      cases hbj : bJ bs n i v j with
      | true =>
        exfalso
        rw [hbj, ntF_t] at hz
        by_cases c : (fJ bs n i v f0 p0 j).1 = 0
        · rw [if_pos c] at hz; exact absurd hz (by decide +kernel)
        · rw [if_neg c] at hz; exact c hz
      | false =>
        rw [hbj] at hz
        have hz : (fJ bs n i v f0 p0 j).1 = 0 := hz
        rcases hb with hb | hb
        · exact absurd hz hb
        · have e : b = bJ bs n i v j := bool_iff (z4.trans (hb.symm.trans bJ_iff.symm))
          rw [hbj] at e
          exact z7 e
  · exact Or.inr ⟨z1, FM_mono z2 (by decide) (by decide), z3, z4, z5⟩
theorem R_per {than : Int32} (hj : j < 8) (hb : (fJ bs n i v f0 p0 j).1 ≠ 0 ∨ (badI v j (nv bs n i j) (nv bs n i) ↔ (nv bs n i j = than.toInt ∨ ¬ (0 ≤ nv bs n i j ∧ nv bs n i j ≤ 8)))) (h : RJ w bs n i v f0 p0 j) (q : PS X k 212 0 [.ref 147, .int than, pm_dead] [] w r w') : (tkK bs n (tP bs n i (j + 1)) = 2 ∧ FM rl7 [148] w w' ∧ AF w w' ∧ ∃ x : Int32, r = some (.int x) ∧ RJ w' bs n i v f0 p0 (j + 1) ∧ ((fJ bs n i v f0 p0 (j + 1)).1 = 0 → x.toInt = nv bs n i j) ∧ (0 ≤ x.toInt ∧ x.toInt ≤ 8) ∧ gI w' 147 9 = (if x ≤ gI w 147 9 then gI w 147 9 else x)) ∨ (tkK bs n (tP bs n i (j + 1)) ≠ 2 ∧ FM rl7 [148] w w' ∧ AF w w' ∧ BK w' bs n (tP bs n i (j + 1)) ∧ ∃ x : Int32, r = some (.int x)) := by
  rcases F212 h q with ⟨z1, z2, z3, b, x, z4, z5, z6, z7, z8, z9⟩ | ⟨z1, z2, z3, z4, z5⟩
  · refine Or.inl ⟨z1, z2, z3, x, z6, ?_, ?_, z8, z9⟩
    · unfold RJ
      rw [fJ_s hj]
      rcases hb with hb | hb
      · rw [ntF_any (b' := b) (kd' := 2) hb, ntP_any (b' := b) (q' := pl bs n (tP bs n i (j + 1))) hb]
        exact z5
      · have e : b = bJ bs n i v j := bool_iff (z4.trans (hb.symm.trans bJ_iff.symm))
        rw [← e]
        exact z5
    · intro hz
      rw [fJ_s hj] at hz
      have hz : ntF (bJ bs n i v j) 2 (fJ bs n i v f0 p0 j).1 = 0 := hz
      cases hbj : bJ bs n i v j with
      | true =>
        exfalso
        rw [hbj, ntF_t] at hz
        by_cases c : (fJ bs n i v f0 p0 j).1 = 0
        · rw [if_pos c] at hz; exact absurd hz (by decide +kernel)
        · rw [if_neg c] at hz; exact c hz
      | false =>
        rw [hbj] at hz
        have hz : (fJ bs n i v f0 p0 j).1 = 0 := hz
        rcases hb with hb | hb
        · exact absurd hz hb
        · have e : b = bJ bs n i v j := bool_iff (z4.trans (hb.symm.trans bJ_iff.symm))
          rw [hbj] at e
          exact z7 e
  · exact Or.inr ⟨z1, z2, z3, z4, z5⟩
/-- the line's end returns -/
def E214 (X : pm_X) (w : pm_W) : Prop := ∀ (k : Nat) (r : Option Value) (w' : pm_W), PS X k 214 0 [.ref 147] [] w r w' → r = none ∧ SK w'
theorem E214_R {f : Int32} (h : RS w bs n i f p) : E214 X w := by
  intro k r w' q
  obtain ⟨z1, z2⟩ := F214 h q
  rcases z2 with ⟨_, z, _⟩ | ⟨_, z, _⟩
  · exact ⟨z1, z.2.2.2⟩
  · exact ⟨z1, z.2.2.2⟩
theorem E214_B (h : BK w bs n i) : E214 X w := by
  intro k r w' q
  obtain ⟨z1, z2⟩ := F214_w h.1 h.2.1 q
  rw [z2]
  exact ⟨z1, h.1⟩
/-- to the line's end, past the verbs that it is not -/
theorem T212 {x y : Int32} {u3 u4 : Value} (hS : SK w) (hE : E214 X w) (q : PS X k 207 212 [.ref 147, .int x, .int y, u3, u4] [] w r w') : r = none ∧ ∃ k', PS X k' 214 0 [.ref 147] [] w none w' := by
  cases k with
  | zero => exact (PS_0 q).elim
  | succ k =>
    obtain ⟨r1, w1, q1, q2⟩ := U207_212 hS q
    obtain ⟨e, hS1⟩ := hE _ _ _ q1
    subst e
    have q := q2 rfl hS1
    rw [q.2]
    exact ⟨q.1, _, q1⟩
theorem T201 {x y : Int32} {u3 u4 : Value} (hS : SK w) (hE : E214 X w) (h7 : y ≠ 7) (q : PS X k 207 201 [.ref 147, .int x, .int y, u3, u4] [] w r w') : r = none ∧ ∃ k', PS X k' 214 0 [.ref 147] [] w none w' := by
  cases k with
  | zero => exact (PS_0 q).elim
  | succ k =>
    have q := U207_201 hS q
    rw [if_neg h7] at q
    exact T212 hS hE q
theorem T182 {x y : Int32} {u3 u4 : Value} (hS : SK w) (hE : E214 X w) (h6 : y ≠ 6) (h7 : y ≠ 7) (q : PS X k 207 182 [.ref 147, .int x, .int y, u3, u4] [] w r w') : r = none ∧ ∃ k', PS X k' 214 0 [.ref 147] [] w none w' := by
  cases k with
  | zero => exact (PS_0 q).elim
  | succ k =>
    have q := U207_182 hS q
    rw [if_neg h6] at q
    exact T201 hS hE h7 q
theorem T121 {x y : Int32} {u3 u4 : Value} (hS : SK w) (hE : E214 X w) (h4 : y ≠ 4) (h5 : y ≠ 5) (h6 : y ≠ 6) (h7 : y ≠ 7) (q : PS X k 207 121 [.ref 147, .int x, .int y, u3, u4] [] w r w') : r = none ∧ ∃ k', PS X k' 214 0 [.ref 147] [] w none w' := by
  cases k with
  | zero => exact (PS_0 q).elim
  | succ k =>
    have q := U207_121 hS q
    rw [if_neg h4, if_neg h5] at q
    exact T182 hS hE h6 h7 q
theorem T70 {x y : Int32} {u3 u4 : Value} (hS : SK w) (hE : E214 X w) (h3 : y ≠ 3) (h4 : y ≠ 4) (h5 : y ≠ 5) (h6 : y ≠ 6) (h7 : y ≠ 7) (q : PS X k 207 70 [.ref 147, .int x, .int y, u3, u4] [] w r w') : r = none ∧ ∃ k', PS X k' 214 0 [.ref 147] [] w none w' := by
  cases k with
  | zero => exact (PS_0 q).elim
  | succ k =>
    have q := U207_70 hS q
    rw [if_neg h3] at q
    exact T121 hS hE h4 h5 h6 h7 q
theorem T31 {x y : Int32} (hS : SK w) (hE : E214 X w) (h2 : y ≠ 2) (h3 : y ≠ 3) (h4 : y ≠ 4) (h5 : y ≠ 5) (h6 : y ≠ 6) (h7 : y ≠ 7) (q : PS X k 207 31 [.ref 147, .int x, .int y, pm_dead, pm_dead] [] w r w') : r = none ∧ ∃ k', PS X k' 214 0 [.ref 147] [] w none w' := by
  cases k with
  | zero => exact (PS_0 q).elim
  | succ k =>
    have q := U207_31 hS q
    rw [if_neg h2] at q
    exact T70 hS hE h3 h4 h5 h6 h7 q
/-- a write to read[] or eight[] keeps what is read -/
theorem RS_wr {w1 : pm_W} {f : Int32} (h : RS w bs n i f p) (fm : FM [] [150, 151] w w1) : RS w1 bs n i f p := by
  obtain ⟨s1, s2, s3, s4, s5, s6, s7, s8, s9, s10⟩ := h
  refine ⟨fm.2.2.2, by rw [FM_i fm (by decide)]; exact s2, RTk_FM s3 fm (by decide) (by decide) (by decide) (by decide) (by decide), (rb_FM fm (by decide)).trans s4, (rn_FM fm (by decide)).trans s5, RB_FM s6 fm (by decide) (by decide), ?_, ?_, s9, s10⟩
  · unfold qF; rw [FM_a fm (by decide)]; exact s7
  · unfold qP; rw [FM_a fm (by decide)]; exact s8
theorem BK_wr {w1 : pm_W} (h : BK w bs n i) (fm : FM [] [150, 151] w w1) : BK w1 bs n i := by
  obtain ⟨s1, s2, s3, s4⟩ := h
  exact ⟨fm.2.2.2, by rw [FM_i fm (by decide)]; exact s2, by unfold qF; rw [FM_a fm (by decide)]; exact s3, by unfold qP; rw [FM_a fm (by decide)]; exact s4⟩
theorem badI_lo {x : Int} {ns : Nat → Int} {l : Nat} (h2 : v ≠ 2) (ht : ¬ ((v = 0 ∨ v = 1 ∨ v = 7 ∨ v = 12) ∧ l = 1)) : badI v l x ns ↔ ¬ (lwL v l ≤ x ∧ x ≤ lwH v l) := by
  unfold badI
  constructor
  · rintro (h | h | ⟨h, h3, _⟩ | ⟨h, _⟩) z
    · omega
    · omega
    · exact ht ⟨h, h3⟩
    · exact h2 h
  · intro h
    by_cases c : x < lwL v l
    · exact Or.inl c
    · exact Or.inr (Or.inl (by omega))
theorem badI_tw {x : Int} {ns : Nat → Int} (hv : v = 0 ∨ v = 1 ∨ v = 7 ∨ v = 12) : badI v 1 x ns ↔ (x = ns 0 ∨ ¬ (lwL v 1 ≤ x ∧ x ≤ lwH v 1)) := by
  unfold badI
  constructor
  · rintro (h | h | ⟨_, _, h⟩ | ⟨h, _⟩)
    · exact Or.inr (by omega)
    · exact Or.inr (by omega)
    · exact Or.inl h
    · omega
  · rintro (h | h)
    · exact Or.inr (Or.inr (Or.inl ⟨hv, rfl, h⟩))
    · by_cases c : x < lwL v 1
      · exact Or.inl c
      · exact Or.inr (Or.inl (by omega))
theorem FI_lt (hv : v ≠ 2) (hj : j < dueN v) (hK : ∀ t, t < j → tkK bs n (tP bs n i (t + 1)) = 2) (h : tkK bs n (tP bs n i (j + 1)) ≠ 2) : FI bs n i v j := ⟨hK, fun _ => ⟨by omega, fun z => by omega, fun _ => h⟩, fun z => absurd z hv⟩
def rl6 : List (Nat × Nat) := [(147, 3), (147, 4), (147, 5), (147, 6), (147, 7), (147, 8)]
theorem END_R {m : Nat} (hv : v ≠ 2) (hm : dueN v = m) (hK : ∀ t, t < m → tkK bs n (tP bs n i (t + 1)) = 2) (h : RJ w bs n i v f0 p0 m) (q : PS X k 214 0 [.ref 147] [] w none w') : FM rl6 [148] w w' ∧ AF w w' ∧ ((OK bs n i v m ∧ RS w' bs n (tP bs n i (m + 2)) (fJ bs n i v f0 p0 m).1 (fJ bs n i v f0 p0 m).2) ∨ (FI bs n i v m ∧ BK w' bs n (tP bs n i (m + 1)))) := by
  obtain ⟨_, z⟩ := F214 h q
  rcases z with ⟨z1, z2, z3, z4⟩ | ⟨z1, z2, z3, z4⟩
  · exact ⟨FM_mono z2 (by decide) (by decide), z3, Or.inl ⟨⟨hK, fun _ => hm.symm, fun y => absurd y hv, z1⟩, z4⟩⟩
  · exact ⟨FM_mono z2 (by decide) (by decide), z3, Or.inr ⟨⟨hK, fun _ => ⟨by omega, fun _ => z1, fun y => by omega⟩, fun y => absurd y hv⟩, z4⟩⟩
theorem END_B (h : BK w bs n i) (q : PS X k 214 0 [.ref 147] [] w none w') : w' = w := (F214_w h.1 h.2.1 q).2
/-- read[], by cell; a number told, as 32 bits -/
def rcl (w : pm_W) (q : Nat) : Int32 := (gA w 150).getD q 0
def ns32 (bs : Nat → Int32) (n i : Nat) (t : Nat) : Int32 := Int32.ofInt (nv bs n i t)
theorem ns32_of {x : Int32} {t : Nat} (h : x.toInt = nv bs n i t) : x = ns32 bs n i t := by
  unfold ns32
  rw [← h, Int32.ofInt_toInt]
theorem dN (v : Nat) (d : Nat) (h : Nat.beq (dueN v) d = true) : dueN v = d := Nat.eq_of_beq_eq_true h
/-- the outcome of a village's line -/
def VL (w w' : pm_W) (bs : Nat → Int32) (n i : Nat) (f0 p0 : Int32) (v : Nat) : Prop := FM rl7 [148, 150, 151] w w' ∧ AF w w' ∧ ∃ m, (FI bs n i v m ∧ BK w' bs n (tP bs n i (m + 1))) ∨ (OK bs n i v m ∧ RS w' bs n (tP bs n i (m + 2)) (fJ bs n i v f0 p0 m).1 (fJ bs n i v f0 p0 m).2 ∧ ((fJ bs n i v f0 p0 m).1 = 0 → (gA w' 150).length = 272 ∧ (∀ q, rcl w' q = kS v (rcl w) (ns32 bs n i) q) ∧ (gI w' 147 9).toInt = gS v (gI w 147 9).toInt (ns32 bs n i)))
/-- people -/
theorem VL_6 {x0 : Int32} (hl : (gA w 150).length = 272) (h : RJ w bs n i 6 f0 p0 0) (q : ∃ (r4 : Option Value) (w5 : pm_W), PS X k 210 0 [.ref 147, .int 2, .int 9, pm_dead] [] w r4 w5 ∧ (∀ x6 : Int32, r4 = some (.int x6) → SK w5 → (aI w5 150 0 ∧ (∀ w7 : pm_W, w7 = aS w5 150 0 x6 → (PS X k 207 31 [.ref 147, .int x0, .int 1, pm_dead, pm_dead] [] w7 r w'))))) : r = none ∧ VL w w' bs n i f0 p0 6 := by
  obtain ⟨r4, w5, q1, q2⟩ := q
  have e2 : (2 : Int32).toInt = 2 := two32
  have e9 : (9 : Int32).toInt = 9 := by decide +kernel
  have hd : dueN 6 = 1 := dN _ _ (by decide +kernel)
  rcases R_num (by decide) (Or.inr (by rw [badI_lo (by decide) (by decide), show lwL 6 0 = 2 from by decide +kernel, show lwH 6 0 = 9 from by decide +kernel, e2, e9])) h q1 with ⟨z1, z2, z3, z9, x, z4, z5, z6⟩ | ⟨z1, z2, z3, z4, z5⟩
  · obtain ⟨hI, q⟩ := q2 x z4 z2.2.2.2
    have q := q _ rfl
    obtain ⟨w7, e7⟩ : ∃ w7, w7 = aS w5 150 0 x := ⟨_, rfl⟩
    rw [← e7] at q
    have f7 : FM [] [150, 151] w5 w7 := by rw [e7]; exact FM_aS z2.2.2.2 (by decide)
    have h7 : RJ w7 bs n i 6 f0 p0 1 := RS_wr z5 f7
    obtain ⟨y1, k', y2⟩ := T31 f7.2.2.2 (E214_R h7) (by decide +kernel) (by decide +kernel) (by decide +kernel) (by decide +kernel) (by decide +kernel) (by decide +kernel) q
    obtain ⟨g1, g2, g3⟩ := END_R (by decide) hd (fun t ht => by rw [show t = 0 by omega]; exact z1) h7 y2
    have fa : FM rl7 [148, 150, 151] w w' := FM_trans (FM_mono z2 (by decide) (by decide)) (FM_trans (FM_mono f7 (by decide) (by decide)) (FM_mono g1 (by decide) (by decide)))
    refine ⟨y1, fa, AF_trans (AF_trans z3 (AF_eq (FM_a f7 (by decide)))) g2, 1, ?_⟩
    rcases g3 with ⟨g3, g4⟩ | g3
    · refine Or.inr ⟨g3, g4, fun hz => ?_⟩
      have ga : gA w' 150 = (gA w 150).set 0 x := by rw [FM_a g1 (by decide), e7, gA_aS (aI_isA hI), i_nat (n := 0) z32, FM_a z2 (by decide)]
      refine ⟨by rw [ga, List.length_set]; exact hl, fun q => ?_, ?_⟩
      · unfold rcl
        rw [ga, getD_set (by omega), ns32_of (z6 hz)]
        rfl
      · rw [FM_i g1 (by decide), e7, gI_aS, z9]
        rfl
    · exact Or.inl g3
  · obtain ⟨hI, q⟩ := q2 _ z5 z2.2.2.2
    have q := q _ rfl
    obtain ⟨w7, e7⟩ : ∃ w7, w7 = aS w5 150 0 2 := ⟨_, rfl⟩
    rw [← e7] at q
    have f7 : FM [] [150, 151] w5 w7 := by rw [e7]; exact FM_aS z2.2.2.2 (by decide)
    have h7 := BK_wr z4 f7
    obtain ⟨y1, k', y2⟩ := T31 f7.2.2.2 (E214_B h7) (by decide +kernel) (by decide +kernel) (by decide +kernel) (by decide +kernel) (by decide +kernel) (by decide +kernel) q
    have e := END_B h7 y2
    rw [e]
    exact ⟨y1, FM_trans (FM_mono z2 (by decide) (by decide)) (FM_mono f7 (by decide) (by decide)), AF_trans z3 (AF_eq (FM_a f7 (by decide))), 0, Or.inl ⟨FI_lt (by decide) (by omega) (fun t ht => absurd ht (Nat.not_lt_zero t)) z1, h7⟩⟩
end FP
end
