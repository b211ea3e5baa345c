/-! ===== bytes with and without a sign: the same tokens; the greatest from 0 on ===== -/
section GK
variable {X : pm_X} {k : Nat} {w0 w w' : pm_W} {r : Option Value} {p p1 p2 p3 f0 p0 f q : Int32} {bs cs : Nat → Int32} {n i v j m : Nat} {b : Bool} {c : Nat → Int32} {g : Int}
def BEq (bs cs : Nat → Int32) (n : Nat) : Prop := ∀ j, j < n → cs j = bs j ∨ (isBl (bs j) = false ∧ isLt (bs j) = false ∧ isDg (bs j) = false ∧ bs j ≠ 59 ∧ isBl (cs j) = false ∧ isLt (cs j) = false ∧ isDg (cs j) = false ∧ cs j ≠ 59)
theorem BE_s (h : BEq bs cs n) (i : Nat) : tkS cs n i = tkS bs n i := by
  unfold tkS
  refine spn_congr _ _ (fun j h1 h2 => ?_)
  rcases h j (by omega) with e | e
  · rw [e]
  · rw [e.1, e.2.2.2.2.1]
theorem BE_l (h : BEq bs cs n) (i : Nat) : tkE isLt cs n i = tkE isLt bs n i := by
  unfold tkE
  refine spn_congr _ _ (fun j h1 h2 => ?_)
  rcases h j (by omega) with e | e
  · rw [e]
  · rw [e.2.1, e.2.2.2.2.2.1]
theorem BE_d (h : BEq bs cs n) (i : Nat) : tkE isDg cs n i = tkE isDg bs n i := by
  unfold tkE
  refine spn_congr _ _ (fun j h1 h2 => ?_)
  rcases h j (by omega) with e | e
  · rw [e]
  · rw [e.2.2.1, e.2.2.2.2.2.2.1]
theorem BE_k (h : BEq bs cs n) (i : Nat) : tkK cs n i = tkK bs n i ∧ tkN cs n i = tkN bs n i := by
  unfold tkK tkN
  rw [BE_s h]
  by_cases c0 : n ≤ tkS bs n i
  · rw [if_pos c0, if_pos c0, if_pos c0, if_pos c0]
    exact ⟨rfl, rfl⟩
  · rw [if_neg c0, if_neg c0, if_neg c0, if_neg c0, BE_l h, BE_d h]
    rcases h (tkS bs n i) (by omega) with e | ⟨e1, e2, e3, e4, e5, e6, e7, e8⟩
    · rw [e]
      exact ⟨rfl, rfl⟩
    · rw [e2, e3, e6, e7, if_neg Bool.false_ne_true, if_neg Bool.false_ne_true, if_neg e4, if_neg e8]
      exact ⟨rfl, rfl⟩
theorem tk_2 (h : tkK bs n i = 2) : tkS bs n i < n ∧ tkE isDg bs n (tkS bs n i) ≤ tkS bs n i + 2 := by
  unfold tkK at h
  by_cases c0 : n ≤ tkS bs n i
  · rw [if_pos c0] at h; exact absurd h (by decide)
  rw [if_neg c0] at h
  by_cases c1 : isLt (bs (tkS bs n i)) = true
  · rw [if_pos c1] at h; exact absurd h (by decide)
  rw [if_neg c1] at h
  by_cases c2 : isDg (bs (tkS bs n i)) = true
  · rw [if_pos c2] at h
    by_cases c3 : tkE isDg bs n (tkS bs n i) ≤ tkS bs n i + 2
    · exact ⟨by omega, c3⟩
    · rw [if_neg c3] at h; exact absurd h (by decide)
  · rw [if_neg c2] at h
    by_cases c4 : bs (tkS bs n i) = 59
    · rw [if_pos c4] at h; exact absurd h (by decide)
    · rw [if_neg c4] at h; exact absurd h (by decide)
theorem BE_dg (h : BEq bs cs n) (hj : j < n) (hd : isDg (bs j) = true) : cs j = bs j := by
  rcases h j hj with e | e
  · exact e
  · rw [e.2.2.1] at hd; exact Bool.noConfusion hd
theorem BE_lt (h : BEq bs cs n) (hj : j < n) (hd : isLt (bs j) = true) : cs j = bs j := by
  rcases h j hj with e | e
  · exact e
  · rw [e.2.1] at hd; exact Bool.noConfusion hd
theorem BE_v (h : BEq bs cs n) (hk : tkK bs n i = 2) : tkV cs n i = tkV bs n i := by
  obtain ⟨h1, h2⟩ := tk_2 hk
  have hb := tkE_b (P := isDg) (bs := bs) (n := n) (s := tkS bs n i)
  have ha := tkE_all (P := isDg) (bs := bs) (n := n) (n - tkS bs n i) (tkS bs n i) (Nat.le_refl _)
  unfold tkV
  rw [BE_s h, BE_d h]
  obtain ⟨t, ht⟩ : ∃ t, t = tkE isDg bs n (tkS bs n i) - tkS bs n i := ⟨_, rfl⟩
  rw [← ht]
  unfold dgV
  by_cases t0 : t = 0
  · rw [if_pos t0, if_pos t0]
  rw [if_neg t0, if_neg t0]
  have e0 : cs (tkS bs n i) = bs (tkS bs n i) := BE_dg h (by omega) (ha _ (by omega) (by omega))
  by_cases t1 : t = 1
  · rw [if_pos t1, if_pos t1, e0]
  rw [if_neg t1, if_neg t1, e0, BE_dg (j := tkS bs n i + 1) h (by omega) (ha _ (by omega) (by omega))]
theorem wdV_congr {s : Nat} : ∀ t : Nat, (∀ j, j < t → cs (s + j) = bs (s + j)) → wdV cs s t = wdV bs s t
  | 0, _ => rfl
  | t + 1, h => by
    show (if t < 6 then 32 * wdV cs s t + (cs (s + t)).toInt - 96 else wdV cs s t) = (if t < 6 then 32 * wdV bs s t + (bs (s + t)).toInt - 96 else wdV bs s t)
    rw [wdV_congr t (fun j hj => h j (by omega)), h t (by omega)]
theorem BE_w (h : BEq bs cs n) (hk : tkK bs n i = 1) : wdC cs (tkS cs n i) (tkN cs n i) = wdC bs (tkS bs n i) (tkN bs n i) := by
  have ha := tkK_1 hk
  have hb := tkN_b (bs := bs) (n := n) (i := i) (by rw [hk]; decide)
  rw [BE_s h, (BE_k h i).2]
  unfold wdC
  rw [wdV_congr (cs := cs) (bs := bs) _ (fun j hj => BE_lt h (by omega) (ha j hj))]
theorem BE_p (h : BEq bs cs n) (i : Nat) : ∀ j, tP cs n i j = tP bs n i j
  | 0 => rfl
  | j + 1 => by
    show tkN cs n (tP cs n i j) = tkN bs n (tP bs n i j)
    rw [BE_p h i j, (BE_k h _).2]
theorem BE_nv (h : BEq bs cs n) (hk : tkK bs n (tP bs n i (j + 1)) = 2) : nv cs n i j = nv bs n i j := by
  unfold nv
  rw [BE_p h]
  exact BE_v h hk
theorem BE_vb (h : BEq bs cs n) : vbT b cs n i = vbT b bs n i := by
  unfold vbT
  rw [(BE_k h i).1]
  by_cases c : tkK bs n i = 1
  · rw [if_pos c, if_pos c, BE_w h c]
  · rw [if_neg c, if_neg c]
theorem BE_pl (h : BEq bs cs n) : pl cs n i = pl bs n i := by unfold pl; rw [BE_s h]
theorem BE_FI (h : BEq bs cs n) (hf : FI cs n i v m) : FI bs n i v m := by
  obtain ⟨h1, h2, h3⟩ := hf
  rw [BE_p h, (BE_k h _).1] at h2 h3
  exact ⟨fun t ht => by have := h1 t ht; rwa [BE_p h, (BE_k h _).1] at this, h2, h3⟩
theorem BE_OK (h : BEq bs cs n) (hf : OK cs n i v m) : OK bs n i v m := by
  obtain ⟨h1, h2, h3, h4⟩ := hf
  rw [BE_p h, (BE_k h _).1] at h4
  exact ⟨fun t ht => by have := h1 t ht; rwa [BE_p h, (BE_k h _).1] at this, h2, h3, h4⟩
theorem badI_congr {x : Int} {ns ns' : Nat → Int} {l : Nat} (h : ∀ t, t < l → ns t = ns' t) : badI v l x ns ↔ badI v l x ns' := by
  unfold badI
  constructor
  · rintro (z | z | ⟨z1, z2, z3⟩ | ⟨z1, t, z2, z3, z4, z5⟩)
    · exact Or.inl z
    · exact Or.inr (Or.inl z)
    · exact Or.inr (Or.inr (Or.inl ⟨z1, z2, by rw [← h 0 (by omega)]; exact z3⟩))
    · exact Or.inr (Or.inr (Or.inr ⟨z1, t, z2, z3, z4, by rw [← h t z3]; exact z5⟩))
  · rintro (z | z | ⟨z1, z2, z3⟩ | ⟨z1, t, z2, z3, z4, z5⟩)
    · exact Or.inl z
    · exact Or.inr (Or.inl z)
    · exact Or.inr (Or.inr (Or.inl ⟨z1, z2, by rw [h 0 (by omega)]; exact z3⟩))
    · exact Or.inr (Or.inr (Or.inr ⟨z1, t, z2, z3, z4, by rw [h t z3]; exact z5⟩))
theorem BE_fJ (h : BEq bs cs n) : ∀ m : Nat, (∀ t, t < m → tkK bs n (tP bs n i (t + 1)) = 2) → fJ cs n i v f0 p0 m = fJ bs n i v f0 p0 m
  | 0, _ => rfl
  | m + 1, hk => by
    have e := BE_fJ h m (fun t ht => hk t (by omega))
    have eb : bJ cs n i v m = bJ bs n i v m := by
      refine bool_iff ?_
      rw [bJ_iff, bJ_iff, BE_nv h (hk m (by omega))]
      exact badI_congr (fun t ht => BE_nv h (hk t (by omega)))
    show (ntF (decide (8 ≤ m)) 3 (ntF (bJ cs n i v m) 2 (fJ cs n i v f0 p0 m).1), ntP (decide (8 ≤ m)) (pl cs n (tP cs n i (m + 1))) (ntF (bJ cs n i v m) 2 (fJ cs n i v f0 p0 m).1) (ntP (bJ cs n i v m) (pl cs n (tP cs n i (m + 1))) (fJ cs n i v f0 p0 m).1 (fJ cs n i v f0 p0 m).2)) = _
    rw [e, eb, BE_p h, BE_pl h]
    rfl
theorem BE_fD (h : BEq bs cs n) (ho : OK bs n i v m) : fD b cs n i f p c v m = fD b bs n i f p c v m := by
  unfold fD
  rw [BE_pl h]
  exact BE_fJ h m ho.1
theorem BE_e8 (h : BEq bs cs n) (ho : OK bs n i v m) : e8 cs n i m = e8 bs n i m := by
  funext t
  unfold e8 ns32
  by_cases z : t < m
  · rw [if_pos z, if_pos z, BE_nv h (ho.1 t z)]
  · rw [if_neg z, if_neg z]
theorem BE_RD (h : BEq bs cs n) : ∀ (N : Nat) {i : Nat} {f p : Int32} {c : Nat → Int32} {g : Int} {o : OC}, RDq b cs n N i f p c g o → RDq b bs n N i f p c g o
  | 0, _, _, _, _, _, _, q => q.elim
  | N + 1, i, f, p, c, g, o, q => by
    rcases q with ⟨h1, e⟩ | ⟨h1, h2, e⟩ | ⟨v, m, h1, h2, e⟩ | ⟨v, m, h1, h2, h3⟩
    · rw [(BE_k h i).1] at h1
      exact Or.inl ⟨h1, e⟩
    · rw [(BE_k h i).1] at h1
      rw [BE_vb h] at h2
      rw [BE_pl h] at e
      exact Or.inr (Or.inl ⟨h1, h2, e⟩)
    · rw [BE_vb h] at h1
      rw [BE_pl h, BE_p h] at e
      exact Or.inr (Or.inr (Or.inl ⟨v, m, h1, BE_FI h h2, e⟩))
    · rw [BE_vb h] at h1
      have ho := BE_OK h h2
      unfold cD gD at h3
      rw [BE_p h, BE_fD h ho, BE_e8 h ho] at h3
      exact Or.inr (Or.inr (Or.inr ⟨v, m, h1, ho, BE_RD h N h3⟩))
theorem gS_0 {e : Nat → Int32} (h12 : v ≤ 12) : gS v (max 0 g) e = max 0 (gS v g e) := by
  refine thirteen (P := fun v => gS v (max 0 g) e = max 0 (gS v g e)) h12 ?_ ?_ ?_ ?_ ?_ ?_ ?_ ?_ ?_ ?_ ?_ ?_ ?_
  · show max 0 g = max 0 g; rfl
  · show max 0 g = max 0 g; rfl
  · show max 0 g = max 0 g; rfl
  · show max 0 g = max 0 g; rfl
  · show max 0 g = max 0 g; rfl
  · show max 0 g = max 0 g; rfl
  · show max 0 g = max 0 g; rfl
  · show max (max 0 g) (max (e 0).toInt (e 1).toInt) = max 0 (max g (max (e 0).toInt (e 1).toInt)); omega
  · show max 0 g = max 0 g; rfl
  · show max (max 0 g) (e 0).toInt = max 0 (max g (e 0).toInt); omega
  · show max (max 0 g) (e 0).toInt = max 0 (max g (e 0).toInt); omega
  · show max 0 g = max 0 g; rfl
  · show max (max 0 g) (max (e 0).toInt (e 1).toInt) = max 0 (max g (max (e 0).toInt (e 1).toInt)); omega
theorem vbT_12 (h : vbT b bs n i = v) : v ≤ 12 := by
  cases b with
  | true => exact (vbT_t h).2
  | false => have := vbT_f h; omega
def og (o : OC) : OC := (o.1, o.2.1, o.2.2.1, o.2.2.2.1, max 0 o.2.2.2.2)
theorem RD_g : ∀ (N : Nat) {i : Nat} {f p : Int32} {c : Nat → Int32} {g : Int} {o : OC}, RDq b bs n N i f p c g o → RDq b bs n N i f p c (max 0 g) (og o)
  | 0, _, _, _, _, _, _, q => q.elim
  | N + 1, i, f, p, c, g, o, q => by
    rcases q with ⟨h1, e⟩ | ⟨h1, h2, e⟩ | ⟨v, m, h1, h2, e⟩ | ⟨v, m, h1, h2, h3⟩
    · exact Or.inl ⟨h1, by rw [e]; rfl⟩
    · exact Or.inr (Or.inl ⟨h1, h2, by rw [e]; rfl⟩)
    · exact Or.inr (Or.inr (Or.inl ⟨v, m, h1, h2, by rw [e]; rfl⟩))
    · have eg : gD b bs n i f p c (max 0 g) v m = max 0 (gD b bs n i f p c g v m) := by
        unfold gD
        by_cases z : (fD b bs n i f p c v m).1 = 0
        · rw [if_pos z, if_pos z, gS_0 (vbT_12 h1)]
        · rw [if_neg z, if_neg z]
      refine Or.inr (Or.inr (Or.inr ⟨v, m, h1, h2, ?_⟩))
      rw [eg]
      exact RD_g N h3
theorem og_F {o : OC} (h : b = true → 0 < (o.2.2.2.1 0).toInt) : fF b (og o) = fF b o ∧ pF b n (og o) = pF b n o := by
  have e : (b = true ∧ (og o).2.1 = 0 ∧ ((og o).2.2.2.1 0).toInt ≤ (og o).2.2.2.2) ↔ (b = true ∧ o.2.1 = 0 ∧ (o.2.2.2.1 0).toInt ≤ o.2.2.2.2) := by
    show (b = true ∧ o.2.1 = 0 ∧ (o.2.2.2.1 0).toInt ≤ max 0 o.2.2.2.2) ↔ _
    constructor
    · rintro ⟨h1, h2, h3⟩
      have := h h1
      exact ⟨h1, h2, by omega⟩
    · rintro ⟨h1, h2, h3⟩
      exact ⟨h1, h2, by omega⟩
  by_cases z : b = true ∧ o.2.1 = 0 ∧ (o.2.2.2.1 0).toInt ≤ o.2.2.2.2
  · obtain ⟨y1, y2⟩ := fF_y (n := n) z
    obtain ⟨y3, y4⟩ := fF_y (n := n) (e.mpr z)
    rw [y1, y2, y3, y4]
    exact ⟨rfl, rfl⟩
  · obtain ⟨y1, y2⟩ := fF_n (n := n) z
    obtain ⟨y3, y4⟩ := fF_n (n := n) (fun y => z (e.mp y))
    rw [y1, y2, y3, y4]
    exact ⟨rfl, rfl⟩
end GK
