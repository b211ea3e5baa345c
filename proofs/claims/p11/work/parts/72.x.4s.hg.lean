/-! ===== acts one after another ===== -/
section HGC
variable {p1 p2 p3 x1 y1 M nn : Int32} {n i v j m N K P k t s b Q : Nat} {D D' G G' G1 G2 V V' E E' : Nat → Int32} {o o1 o2 : AO}
/-- an act's outcome asks the words and the act's nine cells alone -/
theorem rmI_cg {x y : Nat} (hV : ∀ q, q < 81 → V' (3 + q) = V (3 + q)) (hx : x < 9) (hy : y < 9) : rmI V' D x y = rmI V D x y := by
  unfold rmI
  rw [hV _ (by omega)]
theorem eWho_cg (hE : ∀ t, t < 9 → E' t = E t) (h : i < 6) : eWho E' i = eWho E i := by
  unfold eWho
  rw [hE _ (by omega)]
theorem eNx_cg (hE : ∀ t, t < 9 → E' t = E t) (hm : m ≤ 6) (h : i < 6) : eNx E' m i = eNx E m i := by
  unfold eNx
  refine eWho_cg hE ?_
  split <;> omega
theorem adD_cg (hE : ∀ t, t < 9 → E' t = E t) (hm : m ≤ 6) : ∀ i, i ≤ 6 → adD E' m nn i D = adD E m nn i D := by
  intro i
  induction i with
  | zero => intro _; rfl
  | succ i ih =>
    intro hi
    have e : eCl E' m i = eCl E m i := by
      unfold eCl
      rw [eWho_cg hE (by omega), eNx_cg hE hm (by omega)]
    show updc _ _ _ = updc _ _ _
    rw [ih (by omega), e]
theorem rgW_cg (hE : ∀ t, t < 9 → E' t = E t) : ∀ i, i ≤ 6 → rgW E' N i G = rgW E N i G := by
  intro i
  induction i with
  | zero => intro _; rfl
  | succ i ih =>
    intro hi
    show updc _ _ _ = updc _ _ _
    rw [ih (by omega), hE _ (by omega)]
theorem ERg_cg (hE : ∀ t, t < 9 → E' t = E t) (h : ERg E m) : ERg E' m := by
  obtain ⟨h1, h2, h3, h4, h5⟩ := h
  refine ⟨h1, h2, fun t ht => ?_, fun t s ht hs => ?_, fun t ht h6 => ?_⟩
  · rw [hE _ (by omega)]; exact h3 t ht
  · rw [hE _ (by omega), hE _ (by omega)]; exact h4 t s ht hs
  · rw [hE _ (by omega)]; exact h5 t ht h6
theorem fitS_cg (hV : ∀ q, q < 81 → V' (3 + q) = V (3 + q)) (hE : ∀ t, t < 9 → E' t = E t) (hP : P ≤ 9) (hm : m ≤ 6) : fitS P V' D E' m nn ↔ fitS P V D E m nn := by
  have g : ∀ i, i < m → (fitO P V' D E' m nn i ↔ fitO P V D E m nn i) := by
    intro i hi
    unfold fitO
    rw [eWho_cg hE (by omega), eNx_cg hE hm (by omega)]
    by_cases c : eWho E i < P ∧ eNx E m i < P
    · rw [rmI_cg hV (by omega) (by omega)]
    · exact ⟨fun z => absurd ⟨z.1, z.2.1⟩ c, fun z => absurd ⟨z.1, z.2.1⟩ c⟩
  exact ⟨fun z i hi => (g i hi).mp (z i hi), fun z i hi => (g i hi).mpr (z i hi)⟩
theorem ACT_cg (hV : ∀ q, q < 81 → V' (3 + q) = V (3 + q)) (hE : ∀ t, t < 9 → E' t = E t) (hP : P ≤ 9) (h : ACT P V E D G M N o) : ACT P V' E' D G M N o := by
  have e0 := hE 0 (by decide)
  have e1 := hE 1 (by decide)
  have e2 := hE 2 (by decide)
  have e3 := hE 3 (by decide)
  unfold ACT at h ⊢
  rw [e0, e1, e2, e3]
  rcases h with ⟨a0, x, y, hx, hy, h⟩ | h | ⟨a0, m, hm, h⟩ | h | h | h
  · refine Or.inl ⟨a0, x, y, hx, hy, ?_⟩
    by_cases c : x < P ∧ y < P
    · rw [rmI_cg hV (by omega) (by omega)]; exact h
    · rcases h with ⟨z1, z2, _⟩ | ⟨_, z⟩
      · exact absurd ⟨z1, z2⟩ c
      · exact Or.inr ⟨fun q => c ⟨q.1, q.2.1⟩, z⟩
  · exact Or.inr (Or.inl h)
  · refine Or.inr (Or.inr (Or.inl ⟨a0, m, ERg_cg hE hm, ?_⟩))
    have m6 := hm.2.1
    rw [fitS_cg hV hE hP m6, adD_cg hE m6 m m6, rgW_cg hE m m6]
    exact h
  · exact Or.inr (Or.inr (Or.inr (Or.inl h)))
  · exact Or.inr (Or.inr (Or.inr (Or.inr (Or.inl h))))
  · exact Or.inr (Or.inr (Or.inr (Or.inr (Or.inr h))))
abbrev SN : Type := (Nat → Int32) × (Nat → Int32) × Int32 × Nat
theorem AO_sn {t : SN} : (some t : AO) ≠ none := fun y => by cases y
def RN (P : Nat) (V : Nat → Int32) (Es : Nat → Nat → Int32) : Nat → SN → SN → Prop
  | 0, s, s' => s' = s
  | i + 1, s, s' => ∃ s1 : SN, RN P V Es i s s1 ∧ ACT P V (Es i) s1.1 s1.2.1 s1.2.2.1 s1.2.2.2 (some s')
variable {s1 s2 t1 t2 : SN} {Es Es' : Nat → Nat → Int32}
theorem WS_A (hP : P ≤ 9) (hV : VW V) (hA : VAc E) (hW : WS P N (D, G)) (h : ACT P V E D G M N (some t1)) : WS P t1.2.2.2 (t1.1, t1.2.1) ∧ t1.2.2.2 ≤ N + 1 := by
  have z := ACT_2 hP hV hA (show LK P D G G N from ⟨fun _ _ _ _ => rfl, hW, hW⟩) h h
  rcases z with ⟨z, _⟩ | ⟨D', G1', G2', M', N', e1, e2, l, n, m⟩
  · exact absurd z AO_sn
  · have e1 := Option.some.inj e1
    subst e1
    exact ⟨l.2.1, n⟩
theorem RN_W (hP : P ≤ 9) (hV : VW V) (hW : WS P s1.2.2.2 (s1.1, s1.2.1)) : ∀ (i : Nat) (t1 : SN), (∀ j, j < i → VAc (Es j)) → RN P V Es i s1 t1 → WS P t1.2.2.2 (t1.1, t1.2.1) ∧ t1.2.2.2 ≤ s1.2.2.2 + i := by
  intro i
  induction i with
  | zero => intro t1 _ h; have h : t1 = s1 := h; rw [h]; exact ⟨hW, Nat.le_refl _⟩
  | succ i ih =>
    intro t1 hA h
    obtain ⟨s3, h1, h2⟩ := h
    obtain ⟨a1, a2⟩ := ih s3 (fun j hj => hA j (by omega)) h1
    obtain ⟨b1, b2⟩ := WS_A hP hV (hA i (by omega)) a1 h2
    exact ⟨b1, by omega⟩
/-- like states -/
def LSt (P : Nat) (s1 s2 : SN) : Prop := s2.1 = s1.1 ∧ s2.2.2.1 = s1.2.2.1 ∧ s2.2.2.2 = s1.2.2.2 ∧ LK P s1.1 s1.2.1 s2.2.1 s1.2.2.2
theorem ACT_LS (hP : P ≤ 9) (hV : VW V) (hA : VAc E) (hL : LSt P s1 s2) (h1 : ACT P V E s1.1 s1.2.1 s1.2.2.1 s1.2.2.2 o1) (h2 : ACT P V E s2.1 s2.2.1 s2.2.2.1 s2.2.2.2 o2) : (o1 = none ∧ o2 = none) ∨ ∃ t1 t2 : SN, o1 = some t1 ∧ o2 = some t2 ∧ LSt P t1 t2 := by
  obtain ⟨l1, l2, l3, l4⟩ := hL
  rw [l1, l2, l3] at h2
  rcases ACT_2 hP hV hA l4 h1 h2 with ⟨z1, z2⟩ | ⟨D', G1', G2', M', N', e1, e2, l, n, m⟩
  · exact Or.inl ⟨z1, z2⟩
  · exact Or.inr ⟨_, _, e1, e2, rfl, rfl, rfl, l⟩
theorem RN_2 (hP : P ≤ 9) (hV : VW V) (hL : LSt P s1 s2) : ∀ (i : Nat) (t1 t2 : SN), (∀ j, j < i → VAc (Es j)) → RN P V Es i s1 t1 → RN P V Es i s2 t2 → LSt P t1 t2 := by
  intro i
  induction i with
  | zero => intro t1 t2 _ h1 h2; have h1 : t1 = s1 := h1; have h2 : t2 = s2 := h2; rw [h1, h2]; exact hL
  | succ i ih =>
    intro t1 t2 hA h1 h2
    obtain ⟨s3, a1, a2⟩ := h1
    obtain ⟨s4, b1, b2⟩ := h2
    have l := ih s3 s4 (fun j hj => hA j (by omega)) a1 b1
    rcases ACT_LS hP hV (hA i (by omega)) l a2 b2 with ⟨z, _⟩ | ⟨t3, t4, e1, e2, l⟩
    · exact absurd z AO_sn
    · have e1 := Option.some.inj e1
      have e2 := Option.some.inj e2
      rw [e1, e2]
      exact l
theorem RN_pre : ∀ (i : Nat) (t1 : SN), RN P V Es i s1 t1 → j ≤ i → ∃ t2, RN P V Es j s1 t2 := by
  intro i
  induction i with
  | zero => intro t1 h hj; have e : j = 0 := by omega
            rw [e]; exact ⟨t1, h⟩
  | succ i ih =>
    intro t1 h hj
    by_cases e : j = i + 1
    · rw [e]; exact ⟨t1, h⟩
    · obtain ⟨s3, h1, _⟩ := h
      exact ih s3 h1 (by omega)
theorem LS_sym (h : LSt P s1 s2) : LSt P s2 s1 := by
  obtain ⟨l1, l2, l3, g, w1, w2⟩ := h
  refine ⟨l1.symm, l2.symm, l3.symm, ?_, by rw [l1, l3]; exact w2, by rw [l1, l3]; exact w1⟩
  intro k hk i hi
  rw [l3] at hk
  have e : rMy s2.2.1 k = rMy s1.2.1 k := by
    unfold rMy
    have z := g k hk 0 (by omega)
    rw [Nat.add_zero] at z
    rw [z]
  rw [e] at hi
  exact (g k hk i hi).symm
theorem RN_cg (hV : ∀ q, q < 81 → V' (3 + q) = V (3 + q)) (hP : P ≤ 9) : ∀ (i : Nat) (t1 : SN), (∀ j, j < i → ∀ t, t < 9 → Es' j t = Es j t) → RN P V Es i s1 t1 → RN P V' Es' i s1 t1 := by
  intro i
  induction i with
  | zero => intro t1 _ h; exact h
  | succ i ih =>
    intro t1 hE h
    obtain ⟨s3, h1, h2⟩ := h
    exact ⟨s3, ih s3 (fun j hj => hE j (by omega)) h1, ACT_cg hV (hE i (by omega)) hP h2⟩
end HGC
