/-! ===== a tape read: one relation for both sides; its outcome is one ===== -/
section GF
variable {X : pm_X} {k : Nat} {w0 w w' : pm_W} {r : Option Value} {p p1 p2 p3 f0 p0 f q : Int32} {bs : Nat → Int32} {n i v j m : Nat}
/-- without a fault no number is bad -/
theorem fJ_ok : ∀ (m : Nat), (fJ bs n i v f0 p0 m).1 = 0 → ∀ l, l < m → ¬ badI v l (nv bs n i l) (nv bs n i)
  | 0, _, l, hl => absurd hl (Nat.not_lt_zero l)
  | m + 1, h, l, hl => by
    have h : ntF (decide (8 ≤ m)) 3 (ntF (bJ bs n i v m) 2 (fJ bs n i v f0 p0 m).1) = 0 := h
    obtain ⟨h1, _⟩ := ntF_z (by decide +kernel) h
    obtain ⟨h3, h4⟩ := ntF_z (by decide +kernel) h1
    by_cases e : l = m
    · subst e
      intro z
      rw [bJ_iff.mpr z] at h4
      exact Bool.noConfusion h4
    · exact fJ_ok m h3 l (by omega)
theorem fJ_8 : ∀ (m : Nat), (fJ bs n i v f0 p0 m).1 = 0 → m ≤ 8
  | 0, _ => Nat.zero_le _
  | m + 1, h => by
    have h : ntF (decide (8 ≤ m)) 3 (ntF (bJ bs n i v m) 2 (fJ bs n i v f0 p0 m).1) = 0 := h
    obtain ⟨_, h2⟩ := ntF_z (by decide +kernel) h
    have := of_decide_eq_false h2
    omega
theorem badI_n {x : Int} {ns : Nat → Int} {l : Nat} (h : ¬ badI v l x ns) : lwL v l ≤ x ∧ x ≤ lwH v l := by
  unfold badI at h
  constructor
  · exact Int.not_lt.mp (fun z => h (Or.inl z))
  · exact Int.not_lt.mp (fun z => h (Or.inr (Or.inl z)))
theorem fJ_rg (h : (fJ bs n i v f0 p0 m).1 = 0) {l : Nat} (hl : l < m) : lwL v l ≤ nv bs n i l ∧ nv bs n i l ≤ lwH v l := badI_n (fJ_ok m h l hl)
/-- one sentence too many, by the cells so far -/
def tmC (b : Bool) (c : Nat → Int32) (v : Nat) : Bool := cond b (if v = 12 then decide (7 ≤ (c 1).toInt) else false) (decide (30 ≤ (c 0).toInt))
/-- the cells behind a sentence -/
def stC (b : Bool) (v : Nat) (c e : Nat → Int32) : Nat → Int32 := cond b (kS v c e) (rowR c (Int32.ofNat v) e)
noncomputable def fD (b : Bool) (bs : Nat → Int32) (n i : Nat) (f p : Int32) (c : Nat → Int32) (v m : Nat) : Int32 × Int32 := fJ bs n i v (ntF (tmC b c v) 3 f) (ntP (tmC b c v) (pl bs n i) f p) m
noncomputable def cD (b : Bool) (bs : Nat → Int32) (n i : Nat) (f p : Int32) (c : Nat → Int32) (v m : Nat) : Nat → Int32 := if (fD b bs n i f p c v m).1 = 0 then stC b v c (e8 bs n i m) else c
noncomputable def gD (b : Bool) (bs : Nat → Int32) (n i : Nat) (f p : Int32) (c : Nat → Int32) (g : Int) (v m : Nat) : Int := if (fD b bs n i f p c v m).1 = 0 then gS v g (e8 bs n i m) else g
/-- what a tape's reading comes to: whether the form breaks, the fault, its place, the cells, the greatest -/
def OC : Type := Bool × Int32 × Int32 × (Nat → Int32) × Int
/-- from the token at i on, fault f at p, cells c, greatest g, N sentences at most -/
def RDq (b : Bool) (bs : Nat → Int32) (n : Nat) : Nat → Nat → Int32 → Int32 → (Nat → Int32) → Int → OC → Prop
  | 0, _, _, _, _, _, _ => False
  | N + 1, i, f, p, c, g, o => (tkK bs n i = 0 ∧ o = (false, f, p, c, g)) ∨ (tkK bs n i ≠ 0 ∧ vbT b bs n i = -1 ∧ o = (true, 1, pl bs n i, c, g)) ∨ (∃ v m : Nat, vbT b bs n i = v ∧ FI bs n i v m ∧ o = (true, 1, pl bs n (tP bs n i (m + 1)), c, g)) ∨ (∃ v m : Nat, vbT b bs n i = v ∧ OK bs n i v m ∧ RDq b bs n N (tP bs n i (m + 2)) (fD b bs n i f p c v m).1 (fD b bs n i f p c v m).2 (cD b bs n i f p c v m) (gD b bs n i f p c g v m) o)
theorem vbT_k {b : Bool} (h : vbT b bs n i = v) : tkK bs n i = 1 := by
  unfold vbT at h
  by_cases c : tkK bs n i = 1
  · exact c
  · rw [if_neg c] at h
    omega
theorem RD_det {b : Bool} : ∀ (N N' : Nat) {i : Nat} {f p : Int32} {c : Nat → Int32} {g : Int} {o o' : OC}, RDq b bs n N i f p c g o → RDq b bs n N' i f p c g o' → o' = o
  | 0, _, _, _, _, _, _, _, _, h, _ => h.elim
  | _ + 1, 0, _, _, _, _, _, _, _, _, h => h.elim
  | N + 1, N' + 1, i, f, p, c, g, o, o', h, h' => by
    rcases h with ⟨h1, e⟩ | ⟨h1, h2, e⟩ | ⟨v, m, h1, h2, e⟩ | ⟨v, m, h1, h2, h3⟩
    · rcases h' with ⟨a1, e'⟩ | ⟨a1, a2, e'⟩ | ⟨v', m', a1, a2, e'⟩ | ⟨v', m', a1, a2, a3⟩
      · rw [e, e']
      · exact absurd h1 a1
      · rw [vbT_k a1] at h1; exact absurd h1 (by decide)
      · rw [vbT_k a1] at h1; exact absurd h1 (by decide)
    · rcases h' with ⟨a1, e'⟩ | ⟨a1, a2, e'⟩ | ⟨v', m', a1, a2, e'⟩ | ⟨v', m', a1, a2, a3⟩
      · exact absurd a1 h1
      · rw [e, e']
      · omega
      · omega
    · rcases h' with ⟨a1, e'⟩ | ⟨a1, a2, e'⟩ | ⟨v', m', a1, a2, e'⟩ | ⟨v', m', a1, a2, a3⟩
      · rw [vbT_k h1] at a1; exact absurd a1 (by decide)
      · omega
      · have ev : v' = v := by omega
        subst ev
        rw [e, e', FI_FI h2 a2]
      · have ev : v' = v := by omega
        subst ev
        exact (FI_OK h2 a2).elim
    · rcases h' with ⟨a1, e'⟩ | ⟨a1, a2, e'⟩ | ⟨v', m', a1, a2, e'⟩ | ⟨v', m', a1, a2, a3⟩
      · rw [vbT_k h1] at a1; exact absurd a1 (by decide)
      · omega
      · have ev : v' = v := by omega
        subst ev
        exact (FI_OK a2 h2).elim
      · have ev : v' = v := by omega
        subst ev
        have em := OK_OK a2 h2
        subst em
        exact RD_det N N' h3 a3
theorem kS_congr {c ns ns' : Nat → Int32} (h6 : 6 ≤ v) (h12 : v ≤ 12) (h : ∀ t, t < dueN v → ns t = ns' t) : kS v c ns = kS v c ns' := by
  have cv : v = 6 ∨ v = 7 ∨ v = 8 ∨ v = 9 ∨ v = 10 ∨ v = 11 ∨ v = 12 := by omega
  rcases cv with rfl | rfl | rfl | rfl | rfl | rfl | rfl
  · show updc c 0 (ns 0) = updc c 0 (ns' 0)
    rw [h 0 (by decide +kernel)]
  · show updc c (3 + (9 * (ns 0).toInt.toNat + (ns 1).toInt.toNat)) (ns 2) = updc c (3 + (9 * (ns' 0).toInt.toNat + (ns' 1).toInt.toNat)) (ns' 2)
    rw [h 0 (by decide +kernel), h 1 (by decide +kernel), h 2 (by decide +kernel)]
  · show (fun k => if 3 ≤ k ∧ k < 84 then (if (k - 3) % 10 = 0 then 0 else ns 0) else c k) = (fun k => if 3 ≤ k ∧ k < 84 then (if (k - 3) % 10 = 0 then 0 else ns' 0) else c k)
    rw [h 0 (by decide +kernel)]
  · show updc c (84 + (ns 0).toInt.toNat) (ns 1) = updc c (84 + (ns' 0).toInt.toNat) (ns' 1)
    rw [h 0 (by decide +kernel), h 1 (by decide +kernel)]
  · show updc c (93 + (ns 0).toInt.toNat) (ns 1) = updc c (93 + (ns' 0).toInt.toNat) (ns' 1)
    rw [h 0 (by decide +kernel), h 1 (by decide +kernel)]
  · show updc c 2 (ns 0) = updc c 2 (ns' 0)
    rw [h 0 (by decide +kernel)]
  · have d : dueN 12 = 4 := by decide +kernel
    funext k
    show (if k = 1 then c 1 + 1 else if 102 + 4 * (c 1).toInt.toNat ≤ k ∧ k < 106 + 4 * (c 1).toInt.toNat then ns (k - (102 + 4 * (c 1).toInt.toNat)) else c k) = (if k = 1 then c 1 + 1 else if 102 + 4 * (c 1).toInt.toNat ≤ k ∧ k < 106 + 4 * (c 1).toInt.toNat then ns' (k - (102 + 4 * (c 1).toInt.toNat)) else c k)
    by_cases e : 102 + 4 * (c 1).toInt.toNat ≤ k ∧ k < 106 + 4 * (c 1).toInt.toNat
    · rw [if_pos e, if_pos e, h (k - (102 + 4 * (c 1).toInt.toNat)) (by rw [d]; omega)]
    · rw [if_neg e, if_neg e]
theorem gS_congr {g : Int} {ns ns' : Nat → Int32} (h6 : 6 ≤ v) (h12 : v ≤ 12) (h : ∀ t, t < dueN v → ns t = ns' t) : gS v g ns = gS v g ns' := by
  have cv : v = 6 ∨ v = 7 ∨ v = 8 ∨ v = 9 ∨ v = 10 ∨ v = 11 ∨ v = 12 := by omega
  rcases cv with rfl | rfl | rfl | rfl | rfl | rfl | rfl
  · show g = g
    rfl
  · show max g (max (ns 0).toInt (ns 1).toInt) = max g (max (ns' 0).toInt (ns' 1).toInt)
    rw [h 0 (by decide +kernel), h 1 (by decide +kernel)]
  · show g = g
    rfl
  · show max g (ns 0).toInt = max g (ns' 0).toInt
    rw [h 0 (by decide +kernel)]
  · show max g (ns 0).toInt = max g (ns' 0).toInt
    rw [h 0 (by decide +kernel)]
  · show g = g
    rfl
  · show max g (max (ns 0).toInt (ns 1).toInt) = max g (max (ns' 0).toInt (ns' 1).toInt)
    rw [h 0 (by decide +kernel), h 1 (by decide +kernel)]
theorem rowR_congr {c e e' : Nat → Int32} {y : Int32} (h : ∀ t, t < 8 → e t = e' t) : rowR c y e = rowR c y e' := by
  funext q
  unfold rowR
  by_cases z : 2 + 9 * (c 0).toInt.toNat ≤ q ∧ q < 10 + 9 * (c 0).toInt.toNat
  · rw [if_pos z, if_pos z, h _ (by omega)]
  · rw [if_neg z, if_neg z]
theorem e8_ns {t : Nat} (h : t < m) : e8 bs n i m t = ns32 bs n i t := if_pos h
/-- the cells 0: at least one is there (a village) -/
theorem kS_0 {c ns : Nat → Int32} (h7 : 7 ≤ v) (h12 : v ≤ 12) : kS v c ns 0 = c 0 := by
  have cv : v = 7 ∨ v = 8 ∨ v = 9 ∨ v = 10 ∨ v = 11 ∨ v = 12 := by omega
  rcases cv with rfl | rfl | rfl | rfl | rfl | rfl
  · show (if 0 = _ then _ else c 0) = _
    rw [if_neg (by omega)]
  · show (if 3 ≤ 0 ∧ 0 < 84 then (if (0 - 3) % 10 = 0 then 0 else ns 0) else c 0) = _
    rw [if_neg (by omega)]
  · show (if 0 = _ then _ else c 0) = _
    rw [if_neg (by omega)]
  · show (if 0 = _ then _ else c 0) = _
    rw [if_neg (by omega)]
  · show (if 0 = 2 then ns 0 else c 0) = _
    rw [if_neg (by omega)]
  · show (if 0 = 1 then c 1 + 1 else if 102 + 4 * (c 1).toInt.toNat ≤ 0 ∧ 0 < 106 + 4 * (c 1).toInt.toNat then ns (0 - (102 + 4 * (c 1).toInt.toNat)) else c 0) = _
    rw [if_neg (by omega), if_neg (by omega)]
theorem vbT_t (h : vbT true bs n i = v) : 6 ≤ v ∧ v ≤ 12 := by
  have hk := vbT_k h
  unfold vbT at h
  rw [if_pos hk] at h
  rcases vbR_b (b := true) (c := wdC bs (tkS bs n i) (tkN bs n i)) with z | z
  · omega
  · have := z.2.2.1 rfl
    omega
theorem vbT_f (h : vbT false bs n i = v) : v ≤ 5 := by
  have hk := vbT_k h
  unfold vbT at h
  rw [if_pos hk] at h
  rcases vbR_b (b := false) (c := wdC bs (tkS bs n i) (tkN bs n i)) with z | z
  · omega
  · have := z.2.2.2 rfl
    omega
/-- the number that was told, below m -/
theorem ns32_i {t : Nat} (h1 : -2147483648 ≤ nv bs n i t) (h2 : nv bs n i t ≤ 2147483647) : (ns32 bs n i t).toInt = nv bs n i t := Int32.toInt_ofInt_of_le (by show (-2147483648 : Int) ≤ _; exact h1) (by show _ < (2147483648 : Int); omega)
theorem RD_people : ∀ (N : Nat) {i : Nat} {f p : Int32} {c : Nat → Int32} {g : Int} {o : OC}, RDq true bs n N i f p c g o → 0 < (c 0).toInt → 0 < (o.2.2.2.1 0).toInt
  | 0, _, _, _, _, _, _, h, _ => h.elim
  | N + 1, i, f, p, c, g, o, h, z => by
    rcases h with ⟨h1, e⟩ | ⟨h1, h2, e⟩ | ⟨v, m, h1, h2, e⟩ | ⟨v, m, h1, h2, h3⟩
    · rw [e]; exact z
    · rw [e]; exact z
    · rw [e]; exact z
    · refine RD_people N h3 ?_
      unfold cD
      by_cases e : (fD true bs n i f p c v m).1 = 0
      · rw [if_pos e]
        obtain ⟨v6, v12⟩ := vbT_t h1
        show 0 < (kS v c (e8 bs n i m) 0).toInt
        by_cases e6 : v = 6
        · subst e6
          have hm : m = 1 := (h2.2.1 (by decide)).trans (by decide +kernel)
          subst hm
          have rg := fJ_rg e (l := 0) (by decide)
          rw [show lwL 6 0 = 2 from by decide +kernel, show lwH 6 0 = 9 from by decide +kernel] at rg
          show 0 < (if (0 : Nat) = 0 then e8 bs n i 1 0 else c 0).toInt
          rw [if_pos rfl, e8_ns (by decide), ns32_i (by omega) (by omega)]
          omega
        · rw [kS_0 (by omega) v12]
          exact z
      · rw [if_neg e]
        exact z
end GF
