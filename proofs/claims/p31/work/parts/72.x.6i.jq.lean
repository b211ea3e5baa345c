/-! ===== rest: who is in the best ring at a fee is in it at each lesser one ===== -/
section JQA
variable {X : pm_X} {k k2 : Nat} {w0 w w1 w2 w3 w4 w5 w6 w8 wj w' : pm_W} {r r2 q0 q1 q2 : Option Value} {p1 p2 p3 p4 p5 p6 i1 i2 i3 i4 i5 i6 i7 i8 i9 z z1 z2 so x : Int32} {i v j m c m' c' u P t s b d p q fx Q I J K T W N κ bm n : Nat} {l l6 l10 : Int64} {e g y : Int} {fe fe' rk : Nat → Int} {E : Nat → Nat} {u7 u9 u10 u12 : Value} {V : Nat → Nat → Prop} {R : Nat → Nat → Int} {a : Nat → Int32} {s1 t1 t2 : SN}
/-- told fees, but for one who asks f -/
def feP (fe : Nat → Int) (p : Nat) (f : Int) (x : Nat) : Int := if x = p then f else fe x
def InB (V : Nat → Nat → Prop) (fe rk : Nat → Int) (a b p : Nat) (f : Int) : Prop := ∃ m c : Nat, BSt (GR 1 (feP fe p f) rk a b) V m c ∧ ∃ i, i < m ∧ elN a b m c i = p
theorem GR_1 {a : Nat} : GR 1 fe rk a b m c = -cstN fe a b m c m := by
  unfold GR GSv
  rw [if_pos rfl]
/-- there is a best one where there is one -/
theorem InB_le {a : Nat} {f f' : Int} (hex : ∃ m c, BSt (GR 1 (feP fe p f') rk a b) V m c) (hle : f' ≤ f) (h : InB V fe rk a b p f) : InB V fe rk a b p f' := by
  obtain ⟨m, c, h1, h2⟩ := h
  obtain ⟨m', c', g1⟩ := hex
  refine ⟨m', c', g1, ?_⟩
  by_cases no : ∃ i, i < m' ∧ elN a b m' c' i = p
  · exact no
  · exfalso
    have same : cstN (feP fe p f') a b m' c' m' = cstN (feP fe p f) a b m' c' m' := by
      unfold cstN
      refine suI_cg m' (fun i hi => ?_)
      by_cases c2 : 2 ≤ i
      · rw [if_pos c2, if_pos c2]
        have ne : elN a b m' c' i ≠ p := fun q => no ⟨i, hi, q⟩
        unfold feP
        rw [if_neg ne, if_neg ne]
      · rw [if_neg c2, if_neg c2]
    have less : cstN (feP fe p f') a b m c m ≤ cstN (feP fe p f) a b m c m := by
      unfold cstN
      refine suI_le m (fun i hi => ?_)
      by_cases c2 : 2 ≤ i
      · rw [if_pos c2, if_pos c2]
        unfold feP
        split <;> omega
      · rw [if_neg c2, if_neg c2]
        exact Int.le_refl _
    rcases h1.2 m' c' g1.1 with q | q
    · rw [q.1, q.2] at no
      exact no h2
    · rcases g1.2 m c h1.1 with q2 | q2
      · rw [q2.1, q2.2] at h2
        exact no h2
      · unfold BTt at q q2
        rw [GR_1, GR_1] at q q2
        omega
/-- the greatest fee below 100 -/
def GWt (C : Int → Prop) (x : Int) : Prop := (x = -1 ∧ ∀ m : Int, 0 ≤ m → m < 100 → ¬ C m) ∨ (0 ≤ x ∧ x < 100 ∧ C x ∧ ∀ m : Int, x < m → m < 100 → ¬ C m)
theorem GWt_uq {C : Int → Prop} {x y : Int} (h1 : GWt C x) (h2 : GWt C y) : x = y := by
  rcases h1 with ⟨a1, a2⟩ | ⟨a1, a2, a3, a4⟩
  · rcases h2 with ⟨b1, _⟩ | ⟨b1, b2, b3, b4⟩
    · omega
    · exact absurd b3 (a2 y b1 b2)
  · rcases h2 with ⟨b1, b2⟩ | ⟨b1, b2, b3, b4⟩
    · exact absurd a3 (b2 x a1 a2)
    · by_cases c : x < y
      · exact absurd b3 (a4 y c b2)
      · by_cases c2 : y < x
        · exact absurd a3 (b4 x c2 a2)
        · omega
theorem F147 (hS : SK w) (hm : (gI w 55 6).toInt = m) (h1 : p1.toInt = p) (hE : ∀ i, i < m → ((gA w 67).getD i 0).toInt = E i) (hm6 : m ≤ 6) (h : PS X k 147 0 [.ref 55, .int p1, pm_dead] [] w r w') : w' = w ∧ ∃ bb : Bool, r = some (.int (b2i bb)) ∧ (bb = true ↔ ∃ i, i < m ∧ E i = p) := by
  have lp : ∀ (k t : Nat) (i2 : Int32), i2.toInt = t → t ≤ m → (∀ i, i < t → E i ≠ p) → PS X k 147 2 [.ref 55, .int p1, .int i2] [] w r w' → w' = w ∧ ∃ bb : Bool, r = some (.int (b2i bb)) ∧ (bb = true ↔ ∃ i, i < m ∧ E i = p) := by
    intro k
    induction k with
    | zero => intro t i2 _ _ _ h; exact (PS_0 h).elim
    | succ k ih =>
      intro t i2 h2 ht hn h
      have h := U147_2 hS h
      by_cases c : gI w 55 6 ≤ i2
      · rw [if_pos c] at h
        rw [Int32.le_iff_toInt_le, hm, h2] at c
        exact ⟨h.2, false, h.1, ⟨fun q => Bool.noConfusion q, fun ⟨i, hi, q⟩ => absurd q (hn i (by omega))⟩⟩
      · rw [if_neg c] at h
        rw [Int32.le_iff_toInt_le, hm, h2] at c
        have htm : t < m := by omega
        obtain ⟨_, h⟩ := h
        have ev : (aG w 67 i2).toInt = E t := by rw [aG_n h2]; exact hE t htm
        by_cases c2 : aG w 67 i2 = p1
        · rw [if_pos c2] at h
          rw [c2, h1] at ev
          exact ⟨h.2, true, h.1, ⟨fun _ => ⟨t, htm, by omega⟩, fun _ => rfl⟩⟩
        · rw [if_neg c2] at h
          refine ih (t + 1) _ (by rw [zi_inc (n := 40) (by omega) (by omega), h2]; rfl) (by omega) (fun i hi => ?_) h
          by_cases e : i = t
          · rw [e]
            exact fun q => c2 (Int32.toInt_inj.mp (by rw [ev, h1, q]))
          · exact hn i (by omega)
  cases k with
  | zero => exact (PS_0 h).elim
  | succ k => exact lp k 0 0 z32 (Nat.zero_le _) (fun i hi => absurd hi (Nat.not_lt_zero i)) (U147_0 hS h)
theorem aS65 (hS : SK w) (hx : i1.toInt = d) (hd : d < 9) (i : Nat) : (gA (aS w 65 i1 x) 65).getD i 0 = if i = d then x else (gA w 65).getD i 0 := by
  rw [gA_aS (SK_isA hS (by decide +kernel)), i_nat hx, getD_set (by rw [SK_len hS (a := 65) (n := 9) (by decide +kernel) (by decide)]; exact hd)]
/-- the class's search between fees -/
theorem F146_28 {a : Nat} (h0 : gR w0 33 0 = v) (v30 : v < 30) (okv : okV v = true) (hP : (gI w0 v 0).toInt = P) (hP9 : P ≤ 9) (h5 : gR w0 v 5 = v + 3) (h6 : gR w0 v 6 = v + 4) (hS0 : SK w0) (hfb : ∀ x, x < P → 0 ≤ fe x ∧ fe x ≤ 99) (hrk : ∀ p, p < P → ((gA w0 (v + 3)).getD p 0).toInt = rk p ∧ 0 ≤ rk p ∧ rk p ≤ 100) (hκ : i2.toInt = κ) (hκ7 : κ < 7) (hA : ((gA w0 (v + 4)).getD (4 * κ + 0) 0).toInt = a) (hB : ((gA w0 (v + 4)).getD (4 * κ + 1) 0).toInt = b) (hN : ((gA w0 (v + 4)).getD (4 * κ + 2) 0).toInt = y) (ha : a < P) (hb : b < P) (hab : a ≠ b) (hp : i3.toInt = p) (hpP : p < P) (hV : V = VRg (fun i j => (rmI (vcl w0 v) (dA w0 33) i j).toInt) P y a b) (hex : (∃ m c, V m c) → ∀ f : Int, ∃ m c, BSt (GR 1 (feP fe p f) rk a b) V m c) : ∀ (k t : Nat) (w : pm_W) (i4 i5 i6 : Int32) (u7 : Value), FM slF [65, 66, 67] w0 w → (∀ x, x < P → x ≠ p → ((gA w 65).getD x 0).toInt = fe x) → i6.toInt = t → -1 ≤ i4.toInt → i4.toInt < i5.toInt → i5.toInt ≤ 100 → (t = 0 ∨ i5.toInt - i4.toInt ≤ 52 - t) → (i4.toInt = -1 ∨ InB V fe rk a b p i4.toInt) → (i5.toInt = 100 ∨ ¬ InB V fe rk a b p i5.toInt) → PS X k 146 28 [.ref 55, .ref 33, .int i2, .int i3, .int i4, .int i5, .int i6, u7] [] w r w' → FM slF [65, 66, 67] w0 w' ∧ ∃ z : Int32, r = some (.int z) ∧ GWt (InB V fe rk a b p) z.toInt := by
  have e99 : (99 : Int32).toInt = 99 := by decide +kernel
  intro k
  induction k with
  | zero => intro t w i4 i5 i6 u7 _ _ _ _ _ _ _ _ _ h; exact (PS_0 h).elim
  | succ k ih =>
    intro t w i4 i5 i6 u7 fm hf h6' b1 b2 b3 b4 c1 c2 h
    have hS : SK w := fm.2.2.2
    have sub : (i5 - i4).toInt = i5.toInt - i4.toInt := zi_sub rfl rfl (by omega) (by omega)
    have fin : i5.toInt - i4.toInt ≤ 1 → (r = some (.int i4) ∧ w' = w) → FM slF [65, 66, 67] w0 w' ∧ ∃ z : Int32, r = some (.int z) ∧ GWt (InB V fe rk a b p) z.toInt := by
      intro hd hh
      have high : ∀ m : Int, 0 ≤ m → i4.toInt < m → m < 100 → ¬ InB V fe rk a b p m := by
        intro m m0 m1 m2 hc
        rcases c2 with q | q
        · omega
        · refine q (InB_le (hex ?_ _) (by omega) hc)
          obtain ⟨m, c, g, _⟩ := hc
          exact ⟨m, c, g.1⟩
      rw [hh.2]
      refine ⟨fm, i4, hh.1, ?_⟩
      rcases c1 with q | q
      · exact Or.inl ⟨q, fun m m0 m1 => high m m0 (by omega) m1⟩
      · by_cases z0 : i4.toInt = -1
        · exact Or.inl ⟨z0, fun m m0 m1 => high m m0 (by omega) m1⟩
        · exact Or.inr ⟨by omega, by omega, q, fun m m1 m2 => high m (by omega) m1 m2⟩
    have h := U146_28 hS h
    by_cases c : 99 ≤ i6
    · rw [if_pos c] at h
      rw [Int32.le_iff_toInt_le, e99, h6'] at c
      exact fin (by omega) h
    · rw [if_neg c] at h
      rw [Int32.le_iff_toInt_le, e99, h6'] at c
      by_cases d : i5 - i4 ≤ 1
      · rw [if_pos d] at h
        rw [Int32.le_iff_toInt_le, sub, o32] at d
        exact fin d h
      · rw [if_neg d] at h
        rw [Int32.le_iff_toInt_le, sub, o32] at d
        have add : (i4 + i5).toInt = i4.toInt + i5.toInt := zi_add rfl rfl (by omega) (by omega)
        have hm := half_t (x := i4 + i5) (by omega) (by omega)
        rw [add] at hm
        obtain ⟨mid, hmid⟩ : ∃ mid, mid = (i4 + i5) >>> ((1 : Int32) &&& 31) := ⟨_, rfl⟩
        rw [← hmid] at h hm
        obtain ⟨_, h⟩ := h
        have h := h _ rfl
        have ms := fun i => aS65 (x := mid) hS hp (by omega) i
        have f1 : FM [] [65] w (aS w 65 i3 mid) := FM_aS hS (by decide)
        obtain ⟨wa, hwa⟩ : ∃ wa, wa = aS w 65 i3 mid := ⟨_, rfl⟩
        rw [← hwa] at h ms f1
        have Sa := f1.2.2.2
        have fa : FM slF [65, 66, 67] w0 wa := FM_trans fm (FM_mono f1 (by intro p hp; cases hp) (by decide))
        obtain ⟨q2, w3, y3, h⟩ := h
        have hfa : ∀ x, x < P → ((gA wa 65).getD x 0).toInt = feP fe p mid.toInt x ∧ 0 ≤ feP fe p mid.toInt x ∧ feP fe p mid.toInt x ≤ 1000 := by
          intro x hx
          rw [ms x]
          unfold feP
          by_cases e : x = p
          · rw [if_pos e, if_pos e]
            exact ⟨rfl, by omega, by omega⟩
          · rw [if_neg e, if_neg e]
            have := hfb x hx
            exact ⟨hf x hx e, this.1, by omega⟩
        obtain ⟨g1, g2, g3, g4⟩ := F134 (κ := κ) (a := a) (b := b) (y := y) (fe := feP fe p mid.toInt) (rk := rk) Sa (by rw [FM_r fa (by simp)]; exact h0) v30 okv (by rw [FM_i fa (by simp <;> omega)]; exact hP) hP9 (by rw [FM_r fa (by simp <;> omega)]; exact h5) (by rw [FM_r fa (by simp <;> omega)]; exact h6) hfa (fun x hx => by rw [FM_a fa (by simp <;> omega)]; exact hrk x hx) hκ hκ7 (by rw [FM_a fa (by simp <;> omega)]; exact hA) (by rw [FM_a fa (by simp <;> omega)]; exact hB) (by rw [FM_a fa (by simp <;> omega)]; exact hN) ha hb hab y3
        have hRR : (fun i j => (rmI (vcl wa v) (dA wa 33) i j).toInt) = fun i j => (rmI (vcl w0 v) (dA w0 33) i j).toInt := by
          funext i j
          rw [show dA wa 33 = dA w0 33 from by funext q; unfold dA; rw [FM_a fa (by decide)], show vcl wa v = vcl w0 v from by
            funext q
            exact vcl_FMv hS0 fa okv (by simp <;> omega) (by simp <;> omega) (by simp <;> omega) (by simp <;> omega) (by simp <;> omega) (by simp <;> omega) (by simp <;> omega) q]
        rw [hRR, ← hV] at g3
        have S3 := g1.2.2.2
        have f3 : FM slF [65, 66, 67] w0 w3 := FM_trans fa (FM_mono g1 (fun _ h => h) (by decide))
        have hf3 : ∀ x, x < P → x ≠ p → ((gA w3 65).getD x 0).toInt = fe x := fun x hx hne => by
          rw [FM_a g1 (by decide), ms x, if_neg hne]
          exact hf x hx hne
        have e1 : (i6 + 1).toInt = ((t + 1 : Nat) : Int) := by rw [zi_inc (n := 200) (by omega) (by omega), h6']; rfl
        have lo : ¬ InB V fe rk a b p mid.toInt → PS X k 146 28 [.ref 55, .ref 33, .int i2, .int i3, .int i4, .int mid, .int (i6 + 1), .int mid] [] w3 r w' → FM slF [65, 66, 67] w0 w' ∧ ∃ z : Int32, r = some (.int z) ∧ GWt (InB V fe rk a b p) z.toInt := fun hn hh => ih (t + 1) w3 i4 mid _ _ f3 hf3 e1 b1 (by omega) (by omega) (Or.inr (by omega)) c1 (Or.inr hn) hh
        rcases g3 with ⟨n1, n2⟩ | ⟨m, c, n1, n2, n3, n4, n5, n6⟩
        · have rq : q2 = some (.int 0) := by
            rcases g4 with ⟨_, g⟩ | ⟨g, _⟩
            · exact g
            · omega
          have h := h _ rq S3
          rw [if_pos rfl] at h
          exact lo (fun ⟨m, c, g, _⟩ => n2 m c g.1) h
        · have rq : q2 = some (.int 1) := by
            rcases g4 with ⟨g, _⟩ | ⟨_, g⟩
            · omega
            · exact g
          have h := h _ rq S3
          rw [if_neg (by decide +kernel)] at h
          obtain ⟨q5, w6, y6, h⟩ := h
          obtain ⟨d0, bb, d1, d2⟩ := F147 (E := elN a b m c) S3 n3 hp (fun i hi => (n4 i hi).1) n2.2 y6
          have h := h _ d1 (by rw [d0]; exact S3)
          rw [d0] at h
          cases bb with
          | false =>
            rw [if_pos (by decide +kernel)] at h
            refine lo (fun ⟨m', c', g, q⟩ => ?_) h
            obtain ⟨e1, e2⟩ := BSt_uq n1 g
            rw [← e1, ← e2] at q
            exact Bool.noConfusion (d2.mpr q)
          | true =>
            rw [if_neg (by decide +kernel)] at h
            exact ih (t + 1) w3 mid i5 _ _ f3 hf3 e1 (by omega) (by omega) b3 (Or.inr (by omega)) (Or.inr ⟨m, c, n1, d2.mp rfl⟩) c2 h
end JQA
