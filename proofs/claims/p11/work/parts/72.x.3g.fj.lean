/-! ===== the class's reader: a sentence's numbers ===== -/
section FJ
variable {X : pm_X} {k : Nat} {w0 w w' : pm_W} {r : Option Value} {p p1 p2 p3 : Int32} {bs : Nat → Int32} {n i : Nat}
/-- where the j-th token behind i begins to be looked for -/
def tP (bs : Nat → Int32) (n i : Nat) : Nat → Nat
  | 0 => i
  | j + 1 => tkN bs n (tP bs n i j)
def nv (bs : Nat → Int32) (n i j : Nat) : Int := tkV bs n (tP bs n i (j + 1))
def badI (v l : Nat) (x : Int) (ns : Nat → Int) : Prop := x < lwL v l ∨ lwH v l < x ∨ ((v = 0 ∨ v = 1 ∨ v = 7 ∨ v = 12) ∧ l = 1 ∧ x = ns 0) ∨ (v = 2 ∧ ∃ t, 2 ≤ t ∧ t < l ∧ t < 8 ∧ x = ns t)
theorem badN_I {v l : Nat} {x : Int32} {ns : Nat → Int32} {y : Int} {NS : Nat → Int} (hx : x.toInt = y) (hns : ∀ t, t < l → t < 8 → (ns t).toInt = NS t) : badN v l x ns ↔ badI v l y NS := by
  unfold badN badI twi
  rw [hx]
  constructor
  · rintro (h | h | ⟨h1, h2, h3⟩ | ⟨h1, t, h2, h3, h4, h5⟩)
    · exact Or.inl h
    · exact Or.inr (Or.inl h)
    · exact Or.inr (Or.inr (Or.inl ⟨h1, h2, by rw [← hns 0 (by omega) (by omega), ← h3]; exact hx.symm⟩))
    · exact Or.inr (Or.inr (Or.inr ⟨h1, t, h2, h3, h4, by rw [← hns t h3 h4, ← h5]; exact hx.symm⟩))
  · rintro (h | h | ⟨h1, h2, h3⟩ | ⟨h1, t, h2, h3, h4, h5⟩)
    · exact Or.inl h
    · exact Or.inr (Or.inl h)
    · exact Or.inr (Or.inr (Or.inl ⟨h1, h2, Int32.toInt_inj.mp (by rw [hx, hns 0 (by omega) (by omega)]; exact h3)⟩))
    · exact Or.inr (Or.inr (Or.inr ⟨h1, t, h2, h3, h4, Int32.toInt_inj.mp (by rw [hx, hns t h3 h4]; exact h5)⟩))
noncomputable def bJ (bs : Nat → Int32) (n i v l : Nat) : Bool := @decide (badI v l (nv bs n i l) (nv bs n i)) (Classical.propDecidable _)
theorem bJ_iff {v l : Nat} : bJ bs n i v l = true ↔ badI v l (nv bs n i l) (nv bs n i) := @decide_eq_true_iff _ (Classical.propDecidable _)
def pl (bs : Nat → Int32) (n i : Nat) : Int32 := Int32.ofNat (tkS bs n i)
/-- the fault, its place, behind l numbers -/
noncomputable def fJ (bs : Nat → Int32) (n i v : Nat) (f p : Int32) : Nat → Int32 × Int32
  | 0 => (f, p)
  | l + 1 => (ntF (decide (8 ≤ l)) 3 (ntF (bJ bs n i v l) 2 (fJ bs n i v f p l).1), ntP (decide (8 ≤ l)) (pl bs n (tP bs n i (l + 1))) (ntF (bJ bs n i v l) 2 (fJ bs n i v f p l).1) (ntP (bJ bs n i v l) (pl bs n (tP bs n i (l + 1))) (fJ bs n i v f p l).1 (fJ bs n i v f p l).2))
def fl6 : List (Nat × Nat) := [(23, 5), (23, 6), (23, 7), (23, 8), (23, 10), (23, 11)]
/-- behind j numbers -/
def RI (w0 w : pm_W) (bs : Nat → Int32) (n i v : Nat) (f p : Int32) (j : Nat) : Prop := FM fl6 [31] w0 w ∧ CTk w bs n (tP bs n i (j + 1)) ∧ gI w 23 10 = (fJ bs n i v f p j).1 ∧ gI w 23 11 = (fJ bs n i v f p j).2 ∧ ∀ t, t < j → t < 8 → (cns w t).toInt = nv bs n i t
theorem i32_of {x : Int32} {m : Nat} (h : x.toInt = m) (hm : m ≤ 2147483647) : x = Int32.ofNat m := by
  refine Int32.toInt_inj.mp ?_
  rw [h]
  exact (nI_toInt (by have e : (2 ^ 31 : Nat) = 2147483648 := by decide
                      omega)).symm
theorem tP_le (hi : i ≤ n) : ∀ j, tP bs n i j ≤ n
  | 0 => hi
  | j + 1 => (tkN_n (tP_le hi j)).2
theorem tP_grow : ∀ j, (∀ t, t < j → tkK bs n (tP bs n i t) ≠ 0) → i + j ≤ tP bs n i j
  | 0, h => Nat.le_refl _
  | j + 1, h => by
    have q := tP_grow j (fun t ht => h t (by omega))
    have b := tkN_b (h j (by omega))
    have s := tkS_b (bs := bs) (n := n) (i := tP bs n i j)
    show i + (j + 1) ≤ tkN bs n (tP bs n i j)
    omega
theorem CT_FM {w1 : pm_W} {fs : List (Nat × Nat)} {as : List Nat} (h : CTk w bs n i) (f : FM fs as w w1) (h5 : (23, 5) ∉ fs) (h6 : (23, 6) ∉ fs) (h7 : (23, 7) ∉ fs) (h8 : (23, 8) ∉ fs) : CTk w1 bs n i := by
  unfold CTk
  rw [FM_i f h5, FM_i f h6, FM_i f h7, FM_i f h8]
  exact h
/-- the class's next token, as CTk says it -/
theorem CT_next (hS : SK w) (hc : cb w = bs) (hn : cn w = n) (hT : CTk w bs n i) (h : PS X k 23 0 [.ref 23, pm_dead] [] w r w') : r = none ∧ FM [(23, 5), (23, 6), (23, 7), (23, 8)] [] w w' ∧ CTk w' bs n (tkN bs n i) := by
  obtain ⟨z1, z2, z3⟩ := F23 hS (by rw [hT.2.2.1]; omega) h
  have ec : cat w = tkN bs n i := by unfold cat; rw [hT.2.2.1]; omega
  unfold TKc at z3
  rw [hc, hn, ec] at z3
  exact ⟨z1, z2, z3⟩
def dueN (v : Nat) : Nat := ((xA pg_arr 1).getD v 0).toInt.toNat
theorem dueN_i {v : Nat} (h : v ≤ 12) : ((xA pg_arr 1).getD v 0).toInt = dueN v ∧ dueN v ≤ 4 := thirteen (P := fun v => ((xA pg_arr 1).getD v 0).toInt = dueN v ∧ dueN v ≤ 4) h (by decide +kernel) (by decide +kernel) (by decide +kernel) (by decide +kernel) (by decide +kernel) (by decide +kernel) (by decide +kernel) (by decide +kernel) (by decide +kernel) (by decide +kernel) (by decide +kernel) (by decide +kernel) (by decide +kernel)
theorem F29_39 (hX : XO X) {v : Nat} {f p s0 : Int32} (hc0 : cb w0 = bs) (hn0 : cn w0 = n) (hq0 : gR w0 23 3 ≠ 31) (hn6 : n ≤ 600) (hi : i ≤ n) (hv : p2.toInt = v) (h12 : v ≤ 12) (hk0 : tkK bs n i = 1) : ∀ (k : Nat) (w : pm_W) (j : Nat) (x y : Int32), RI w0 w bs n i v f p j → (∀ t, t < j → tkK bs n (tP bs n i (t + 1)) = 2) → (v ≠ 2 → j ≤ dueN v) → x.toInt = j → y.toInt = j → PS X k 29 39 [.ref 23, .int s0, .int p2, .int x, .int y] [] w r w' → ∃ m, (∀ t, t < m → tkK bs n (tP bs n i (t + 1)) = 2) ∧ (v ≠ 2 → m ≤ dueN v) ∧ ((v ≠ 2 ∧ m = dueN v ∧ tkK bs n (tP bs n i (m + 1)) = 2 ∧ r = some (.int 0) ∧ RI w0 w' bs n i v f p m) ∨ (tkK bs n (tP bs n i (m + 1)) ≠ 2 ∧ ∃ (k' : Nat) (w1 : pm_W) (x' y' : Int32), x'.toInt = m ∧ RI w0 w1 bs n i v f p m ∧ PS X k' 29 107 [.ref 23, .int s0, .int p2, .int x', .int y'] [] w1 r w')) := by
  intro k
  induction k with
  | zero => intro w j x y hR ht hd hx hy h; exact (PS_0 h).elim
  | succ k ih =>
    intro w j x y hR ht hd hx hy h
    obtain ⟨fm, hT, hf, hp, hns⟩ := hR
    have hS := fm.2.2.2
    have h := U29_39 hS h
    have hcw : cb w = bs := (cb_FM fm (by decide) (by intro z; exact hq0 (List.mem_singleton.mp z))).trans hc0
    have hnw : cn w = n := (cn_FM fm (by decide)).trans hn0
    have h4 : ((gI w 23 4).toInt.toNat : Nat) = n := hnw
    have stop : tkK bs n (tP bs n i (j + 1)) ≠ 2 → PS X k 29 107 [.ref 23, .int s0, .int p2, .int x, .int y] [] w r w' → ∃ m, (∀ t, t < m → tkK bs n (tP bs n i (t + 1)) = 2) ∧ (v ≠ 2 → m ≤ dueN v) ∧ ((v ≠ 2 ∧ m = dueN v ∧ tkK bs n (tP bs n i (m + 1)) = 2 ∧ r = some (.int 0) ∧ RI w0 w' bs n i v f p m) ∨ (tkK bs n (tP bs n i (m + 1)) ≠ 2 ∧ ∃ (k' : Nat) (w1 : pm_W) (x' y' : Int32), x'.toInt = m ∧ RI w0 w1 bs n i v f p m ∧ PS X k' 29 107 [.ref 23, .int s0, .int p2, .int x', .int y'] [] w1 r w')) := fun hk q => ⟨j, ht, hd, Or.inr ⟨hk, k, w, x, y, hx, ⟨fm, hT, hf, hp, hns⟩, q⟩⟩
    by_cases c1 : gI w 23 4 ≤ y
    · rw [if_pos c1] at h
      rw [Int32.le_iff_toInt_le, hy] at c1
      refine stop ?_ h
      intro hk
      have g := tP_grow (bs := bs) (n := n) (i := i) (j + 1) (fun t htt => by
        cases t with
        | zero => show tkK bs n i ≠ 0; rw [hk0]; decide
        | succ t => rw [ht t (by omega)]; decide)
      have b := tkN_b (bs := bs) (n := n) (i := tP bs n i (j + 1)) (by rw [hk]; decide)
      have s := tkS_b (bs := bs) (n := n) (i := tP bs n i (j + 1))
      omega
    · rw [if_neg c1] at h
      by_cases c2 : gI w 23 6 = 2
      · rw [if_pos c2] at h
        rw [hT.1, show (2 : Int32) = Int32.ofNat 2 from by decide +kernel, tkK_inj tkK_4 (by decide)] at c2
        rw [i_nat hv, (XO_A hX (j := 1) (by decide)).1] at h
        have h := h.2
        obtain ⟨dd, d4⟩ := dueN_i h12
        -- one number more
        have more : PS X k 29 72 [.ref 23, .int s0, .int p2, .int x, .int y] [] w r w' → (v ≠ 2 → j + 1 ≤ dueN v) → ∃ m, (∀ t, t < m → tkK bs n (tP bs n i (t + 1)) = 2) ∧ (v ≠ 2 → m ≤ dueN v) ∧ ((v ≠ 2 ∧ m = dueN v ∧ tkK bs n (tP bs n i (m + 1)) = 2 ∧ r = some (.int 0) ∧ RI w0 w' bs n i v f p m) ∨ (tkK bs n (tP bs n i (m + 1)) ≠ 2 ∧ ∃ (k' : Nat) (w1 : pm_W) (x' y' : Int32), x'.toInt = m ∧ RI w0 w1 bs n i v f p m ∧ PS X k' 29 107 [.ref 23, .int s0, .int p2, .int x', .int y'] [] w1 r w')) := by
          intro q hd2
          cases k with
          | zero => exact (PS_0 q).elim
          | succ k =>
            obtain ⟨r1, w2, q1, q2⟩ := U29_72 hS q
            obtain ⟨z1, f2, b, hb, g1, g2⟩ := F47 hX hS hv h12 hx q1
            have hS2 := f2.2.2.2
            have q := q2 z1 hS2
            have f2' : FM fl6 [31] w w2 := FM_mono f2 (by decide) (by decide)
            have eb : b = bJ bs n i v j := by
              have e := hb.trans (badN_I (y := nv bs n i j) (NS := nv bs n i) (hT.2.2.2 c2) hns)
              rw [← bJ_iff] at e
              exact Bool.eq_iff_iff.mpr e
            have hpl : gI w 23 7 = pl bs n (tP bs n i (j + 1)) := i32_of hT.2.1 (by have := (tkN_n (bs := bs) (tP_le (bs := bs) hi (j + 1))).1; omega)
            rw [eb, hf] at g1
            rw [eb, hf, hp, hpl] at g2
            have hT2 : CTk w2 bs n (tP bs n i (j + 1)) := CT_FM hT f2 (by decide) (by decide) (by decide) (by decide)
            -- from label 94 on
            have s94 : ∀ w3 : pm_W, FM fl6 [31] w w3 → gI w3 23 10 = (fJ bs n i v f p (j + 1)).1 → gI w3 23 11 = (fJ bs n i v f p (j + 1)).2 → CTk w3 bs n (tP bs n i (j + 1)) → (∀ t, t < j + 1 → t < 8 → (cns w3 t).toInt = nv bs n i t) → PS X k 29 94 [.ref 23, .int s0, .int p2, .int x, .int y] [] w3 r w' → ∃ m, (∀ t, t < m → tkK bs n (tP bs n i (t + 1)) = 2) ∧ (v ≠ 2 → m ≤ dueN v) ∧ ((v ≠ 2 ∧ m = dueN v ∧ tkK bs n (tP bs n i (m + 1)) = 2 ∧ r = some (.int 0) ∧ RI w0 w' bs n i v f p m) ∨ (tkK bs n (tP bs n i (m + 1)) ≠ 2 ∧ ∃ (k' : Nat) (w1 : pm_W) (x' y' : Int32), x'.toInt = m ∧ RI w0 w1 bs n i v f p m ∧ PS X k' 29 107 [.ref 23, .int s0, .int p2, .int x', .int y'] [] w1 r w')) := by
              intro w3 f3 e10 e11 hT3 hns3 z
              cases k with
              | zero => exact (PS_0 z).elim
              | succ k =>
                have hS3 := f3.2.2.2
                have f03 := FM_trans fm f3
                have hcw3 : cb w3 = bs := (cb_FM f03 (by decide) (by intro z; exact hq0 (List.mem_singleton.mp z))).trans hc0
                have hnw3 : cn w3 = n := (cn_FM f03 (by decide)).trans hn0
                obtain ⟨r4, w4, z1, z2⟩ := U29_94 hS3 z
                obtain ⟨u1, u2, u3⟩ := CT_next hS3 hcw3 hnw3 hT3 z1
                have z := z2 u1 u2.2.2.2
                have n6 := hn6
                have jn : j < 2147483647 := by
                  have := zi_hi x
                  have g := tP_grow (bs := bs) (n := n) (i := i) (j + 1) (fun t htt => by
                    cases t with
                    | zero => show tkK bs n i ≠ 0; rw [hk0]; decide
                    | succ t => rw [ht t (by omega)]; decide)
                  have := tP_le (bs := bs) hi (j + 1)
                  omega
                refine ih w4 (j + 1) (x + 1) (y + 1) ⟨FM_trans f03 (FM_mono u2 (by decide) (by decide)), u3, by rw [FM_i u2 (by decide)]; exact e10, by rw [FM_i u2 (by decide)]; exact e11, fun t h1 h2 => ?_⟩ (fun t htt => ?_) hd2 ?_ ?_ (PS_mono (by omega) z)
                · have e : cns w4 t = cns w3 t := by unfold cns; rw [FM_a u2 (by decide)]
                  rw [e]
                  exact hns3 t h1 h2
                · by_cases e : t = j
                  · rw [e]; exact c2
                  · exact ht t (by omega)
                · rw [zi_inc (n := 2147483647) (by omega) (by omega), hx]; rfl
                · rw [zi_inc (n := 2147483647) (by omega) (by omega), hy]; rfl
            have hns2 : ∀ t, t < j → t < 8 → (cns w2 t).toInt = nv bs n i t := by
              intro t h1 h2
              have e : cns w2 t = cns w t := by unfold cns; rw [FM_a f2 (by decide)]
              rw [e]
              exact hns t h1 h2
            by_cases c8 : 8 ≤ x
            · rw [if_pos c8] at q
              rw [Int32.le_iff_toInt_le, eight32, hx] at c8
              exact s94 w2 f2' g1 g2 hT2 (fun t h1 h2 => hns2 t (by omega) h2) q
            · rw [if_neg c8] at q
              rw [Int32.le_iff_toInt_le, eight32, hx] at c8
              have q3 := q.2 _ rfl
              have hI := q.1
              obtain ⟨w3, e3⟩ : ∃ w3, w3 = aS w2 31 x (gI w2 23 8) := ⟨_, rfl⟩
              rw [← e3] at q3
              have f3 : FM fl6 [31] w2 w3 := by rw [e3]; exact FM_aS hS2 (by decide)
              have i3 : ∀ a m, gI w3 a m = gI w2 a m := fun a m => by rw [e3]; exact gI_aS
              refine s94 w3 (FM_trans f2' f3) (by rw [i3]; exact g1) (by rw [i3]; exact g2) (by unfold CTk; rw [i3, i3, i3, i3]; exact hT2) (fun t h1 h2 => ?_) q3
              have ea : gA w3 31 = (gA w2 31).set j (gI w2 23 8) := by
                rw [e3, gA_aS (aI_isA hI), i_nat hx]
              unfold cns
              rw [ea]
              by_cases e : t = j
              · rw [e, gz_eq (by unfold aI iN at hI; omega), FM_i f2 (by decide)]
                exact hT.2.2.2 c2
              · rw [gz_ne (fun z => e z.symm)]
                exact hns2 t (by omega) h2
        by_cases c3 : x < ((xA pg_arr 1).getD v 0)
        · rw [if_pos c3] at h
          rw [Int32.lt_iff_toInt_lt, dd, hx] at c3
          exact more h (fun _ => by omega)
        · rw [if_neg c3] at h
          rw [Int32.lt_iff_toInt_lt, dd, hx] at c3
          by_cases c4 : p2 = 2
          · rw [if_pos c4] at h
            have e2 : v = 2 := by
              have := congrArg Int32.toInt c4
              rw [hv, two32] at this
              omega
            exact more h (fun z => absurd e2 z)
          · rw [if_neg c4] at h
            have e2 : v ≠ 2 := by
              intro z
              refine c4 (Int32.toInt_inj.mp ?_)
              rw [hv, two32, z]
              rfl
            refine ⟨j, ht, hd, Or.inl ⟨e2, by have := hd e2; omega, c2, h.1, ?_⟩⟩
            rw [h.2]
            exact ⟨fm, hT, hf, hp, hns⟩
      · rw [if_neg c2] at h
        rw [hT.1, show (2 : Int32) = Int32.ofNat 2 from by decide +kernel, tkK_inj tkK_4 (by decide)] at c2
        exact stop c2 h
end FJ
