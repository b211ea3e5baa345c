/-! ===== one more room: sums and cuts; what a set lacks ===== -/
section IXA
variable {X : pm_X} {k k2 : Nat} {w0 w w1 w2 w3 w4 w5 w6 wj w' : pm_W} {r r2 q0 q1 q2 : Option Value} {p1 p2 p3 p4 p5 i0 i1 i2 i3 i4 i5 i6 i7 i8 z z1 z2 y : Int32} {i v j m u P t s a b Q I J K T p W M N κ : Nat} {R R' C ask c c' : Nat → Nat → Int} {e g d sl x : Int} {A B : Nat → Nat} {n o : Nat → Int} {S : Nat → Bool} {wv : Nat → Int32} {s1 t1 t2 : SN} {can : Nat → Prop}
theorem suI_one2 {N : Nat} (ha : a < N) (hb : b < N) : suI (fun i => suI (fun j => if i = a ∧ j = b then e else 0) N) N = e := by
  rw [suI_cg (g := fun i => if i = a then e else 0) N (fun i hi => by
    by_cases c : i = a
    · rw [if_pos c, suI_cg (g := fun j => if j = b then e else 0) N (fun j _ => by
        by_cases c2 : j = b
        · rw [if_pos ⟨c, c2⟩, if_pos c2]
        · rw [if_neg (fun z => c2 z.2), if_neg c2])]
      exact suI_one N hb
    · rw [if_neg c]
      exact suI_z N (fun j _ => if_neg (fun z => c z.1)))]
  exact suI_one N ha
theorem cut_1 {N : Nat} (he : 0 ≤ e) (ha : a < N) (hb : b < N) (h : ∀ i j, i < N → j < N → c' i j ≤ c i j + (if i = a ∧ j = b then e else 0)) : cutC c' S N ≤ cutC c S N + e := by
  have q := suI_le (f := fun i => bz (S i) (suI (fun j => bz (!S j) (c' i j)) N)) (g := fun i => bz (S i) (suI (fun j => bz (!S j) (c i j)) N) + suI (fun j => if i = a ∧ j = b then e else 0) N) N (fun i hi => by
    have nn : 0 ≤ suI (fun j => if i = a ∧ j = b then e else 0) N := suI_nn (fun j _ => by split <;> omega)
    cases hs : S i with
    | false =>
      show bz false _ ≤ bz false _ + _
      rw [bz_f, bz_f]; omega
    | true =>
      show bz true _ ≤ bz true _ + _
      rw [bz_t, bz_t, ← suI_add]
      refine suI_le N (fun j hj => ?_)
      have y := h i j hi hj
      show bz (!S j) (c' i j) ≤ bz (!S j) (c i j) + (if i = a ∧ j = b then e else 0)
      cases S j with
      | false => exact y
      | true =>
        show 0 ≤ 0 + _
        split <;> omega)
  rw [suI_add, suI_one2 ha hb] at q
  exact q
theorem CUT_1 {N : Nat} (he : 0 ≤ e) (ha : a < N) (hb : b < N) (h : ∀ i j, i < N → j < N → c' i j ≤ c i j + (if i = a ∧ j = b then e else 0)) : CUTo c' o S N ≤ CUTo c o S N + e := by
  have q := cut_1 (S := S) he ha hb h
  unfold CUTo
  omega
theorem CUT_0 {N : Nat} : CUTo c o (fun _ => false) N = suI (fun a => psI (o a)) N := by
  unfold CUTo cutC
  rw [suI_z (f := fun a => bz ((fun _ => false) a) _) N (fun a _ => rfl), suI_cg (g := fun a => psI (o a)) N (fun a _ => by show psI (o a) + 0 = _; omega)]
  omega
theorem CUT_nn {N : Nat} (h : ∀ i j, i < N → j < N → 0 ≤ c i j) : 0 ≤ CUTo c o S N := by
  unfold CUTo cutC
  have q1 : 0 ≤ suI (fun a => bz (!S a) (psI (o a)) + bz (S a) (psI (-o a))) N := suI_nn (fun a _ => by
    have := psI_0 (e := o a)
    have := psI_0 (e := -o a)
    unfold bz
    split <;> split <;> omega)
  have q2 : 0 ≤ suI (fun a => bz (S a) (suI (fun b => bz (!S b) (c a b)) N)) N := suI_nn (fun a ha => by
    have q : 0 ≤ suI (fun b => bz (!S b) (c a b)) N := suI_nn (fun b hb => by
      have := h a b ha hb
      unfold bz
      split <;> omega)
    cases S a
    · exact Int.le_refl _
    · exact q)
  omega
/-- what a set lacks, of room and of what goes round -/
def LKS (R : Nat → Nat → Int) (P W : Nat) (A B : Nat → Nat) (n : Nat → Int) (s : Nat) (y : Int) : Prop := ∃ x : Int, MCo (capS R (askS A B n s W) P 0) (surS A B n s W) 10 x ∧ y = lackS R (askS A B n s W) P + (suI (fun p => psI (surS A B n s W p)) 10 - x)
theorem LKS_uq (h1 : LKS R P W A B n s d) (h2 : LKS R P W A B n s e) : d = e := by
  obtain ⟨x, a1, a2⟩ := h1
  obtain ⟨x', b1, b2⟩ := h2
  have := MCo_uq a1 b1
  omega
theorem LKS_no (hx : LKS R P W A B n s e) (hn : ¬ CANH R P W A B n s 0) : 1 ≤ e := by
  obtain ⟨x, hx, he⟩ := hx
  have q := hx.1 (fun _ => false)
  rw [CUT_0] at q
  have l := lack_nn (R := R) (ask := askS A B n s W) (P := P)
  by_cases c : 1 ≤ e
  · exact c
  · exfalso
    refine hn ⟨fun i j hi hj => lack_i (by omega) hi hj, ?_⟩
    rw [show suI (fun p => psI (surS A B n s W p)) 10 = x by omega]
    exact hx
theorem LKS_1 (ha : a < P) (hb : b < P) (hP : P ≤ 9) (hc : CANH R' P W A B n s 0) (hR : ∀ i j, i < P → j < P → R' i j = R i j + (if i = a ∧ j = b then 1 else 0)) (hx : LKS R P W A B n s g) : g ≤ 1 := by
  obtain ⟨h1, h2, _⟩ := hc
  obtain ⟨x, ⟨_, S, hS⟩, hg⟩ := hx
  have q := h2 S
  obtain ⟨e, he⟩ : ∃ e : Int, e = if askS A B n s W a b ≤ R a b then 0 else 1 := ⟨_, rfl⟩
  have e01 : 0 ≤ e ∧ e ≤ 1 := by rw [he]; split <;> omega
  have l : lackS R (askS A B n s W) P ≤ e := by
    unfold lackS
    have q := suI_le (f := fun i => suI (fun j => psI (askS A B n s W i j - R i j)) P) (g := fun i => suI (fun j => if i = a ∧ j = b then e else 0) P) P (fun i hi => suI_le P (fun j hj => by
      have y := h1 i j hi hj
      rw [hR i j hi hj] at y
      by_cases c : i = a ∧ j = b
      · rw [if_pos c] at y ⊢
        rw [c.1, c.2] at y ⊢
        rw [he]
        unfold psI
        split <;> omega
      · rw [if_neg c] at y ⊢
        unfold psI
        omega))
    rw [suI_one2 ha hb] at q
    exact q
  have k := CUT_1 (c' := capS R' (askS A B n s W) P 0) (c := capS R (askS A B n s W) P 0) (o := surS A B n s W) (S := S) (e := 1 - e) (a := a) (b := b) (N := 10) (by omega) (by omega) (by omega) (fun i j hi hj => by
    unfold capS
    by_cases c : i < P ∧ j < P
    · rw [if_pos c, if_pos c, hR i j c.1 c.2]
      by_cases c2 : i = a ∧ j = b
      · rw [if_pos c2, if_pos c2, c2.1, c2.2, he]
        unfold psI
        split <;> omega
      · rw [if_neg c2, if_neg c2]
        unfold psI
        omega
    · rw [if_neg c, if_neg c]
      by_cases c2 : i = a ∧ j = b
      · rw [if_pos c2]; split <;> omega
      · rw [if_neg c2]; split <;> omega)
  omega
theorem CANH_mono (h : ∀ i j, i < P → j < P → R i j ≤ R' i j) (hc : CANH R P W A B n s sl) : CANH R' P W A B n s sl := by
  obtain ⟨h1, h2, _⟩ := hc
  refine ⟨fun i j hi hj => Int.le_trans (h1 i j hi hj) (h i j hi hj), fun S => ?_, fun _ => false, CUT_0.symm⟩
  have q := h2 S
  have k := CUT_1 (c' := capS R (askS A B n s W) P sl) (c := capS R' (askS A B n s W) P sl) (o := surS A B n s W) (S := S) (e := 0) (a := 0) (b := 0) (N := 10) (Int.le_refl _) (by omega) (by omega) (fun i j hi hj => by
    have z : (if i = 0 ∧ j = 0 then (0 : Int) else 0) = 0 := by split <;> rfl
    rw [z]
    unfold capS
    by_cases c : i < P ∧ j < P
    · rw [if_pos c, if_pos c]
      have := h i j c.1 c.2
      unfold psI
      omega
    · rw [if_neg c, if_neg c]
      omega)
  omega
theorem bst_can : ∀ N, bstF can (bet wv W) N = 0 ∨ can (bstF can (bet wv W) N) := by
  intro N
  induction N with
  | zero => exact Or.inl rfl
  | succ N ih =>
    by_cases c : bet wv W (N + 1) (bstF can (bet wv W) N) ∧ can (N + 1)
    · rw [bstF_y c.1 c.2]; exact Or.inr c.2
    · rw [bstF_n c]; exact ih
theorem bst_max : ∀ N s, s ≤ N → (s = 0 ∨ can s) → vlS wv W s ≤ vlS wv W (bstF can (bet wv W) N) := by
  intro N
  induction N with
  | zero =>
    intro s hs _
    rw [show s = 0 by omega]
    exact Int.le_refl _
  | succ N ih =>
    intro s hs hc
    by_cases c : bet wv W (N + 1) (bstF can (bet wv W) N) ∧ can (N + 1)
    · rw [bstF_y c.1 c.2]
      by_cases e : s = N + 1
      · rw [e]; exact Int.le_refl _
      · have q := ih s (by omega) hc
        rcases c.1 with y | y <;> omega
    · rw [bstF_n c]
      by_cases e : s = N + 1
      · rcases hc with y | y
        · omega
        · rw [e]
          rw [e] at y
          by_cases c2 : vlS wv W (bstF can (bet wv W) N) < vlS wv W (N + 1)
          · exact absurd ⟨Or.inl c2, y⟩ c
          · omega
      · exact ih s (by omega) hc
end IXA
