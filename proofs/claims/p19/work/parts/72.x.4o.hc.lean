section
/-! ===== an act played (the reference) ===== -/
section HC
variable {X : pm_X} {k k2 : Nat} {w0 w w1 w2 w' : pm_W} {r r2 : Option Value} {p p1 p2 p3 p4 p5 f0 p0 f q x y M nn : Int32} {n i v j m T L u a c N K P t s b Q : Nat} {D D' G G1 G2 V E : Nat → Int32}
theorem rgW_q : ∀ m q, rgW E N m G q = if 10 * N + 4 ≤ q ∧ q < 10 * N + 4 + m then E (3 + (q - (10 * N + 4))) else G q
  | 0, q => by rw [if_neg (by omega)]; rfl
  | m + 1, q => by
    show (if q = 10 * N + 4 + m then E (3 + m) else rgW E N m G q) = _
    rw [rgW_q m q]
    by_cases c : q = 10 * N + 4 + m
    · rw [if_pos c, if_pos (by omega), show q - (10 * N + 4) = m by omega]
    · rw [if_neg c]
      by_cases c2 : 10 * N + 4 ≤ q ∧ q < 10 * N + 4 + m
      · rw [if_pos c2, if_pos (by omega)]
      · rw [if_neg c2, if_neg (by omega)]
theorem rg4_q {mm till : Int32} (q : Nat) : rg4 N mm nn till G q = if q = 10 * N + 3 then 1 else if q = 10 * N + 2 then till else if q = 10 * N + 1 then nn else if q = 10 * N then mm else G q := rfl
/-- the new ring's cells -/
theorem new_q {till : Int32} (hm : m ≤ 6) : let G' := rgW E N m (rg4 N (Int32.ofNat m) nn till G); G' (10 * N) = Int32.ofNat m ∧ G' (10 * N + 1) = nn ∧ G' (10 * N + 2) = till ∧ G' (10 * N + 3) = 1 ∧ (∀ j, j < m → G' (10 * N + 4 + j) = E (3 + j)) ∧ ∀ q, q < 10 * N → G' q = G q := by
  refine ⟨?_, ?_, ?_, ?_, fun j hj => ?_, fun q hq => ?_⟩
  · rw [rgW_q, if_neg (by omega), rg4_q, if_neg (by omega), if_neg (by omega), if_neg (by omega), if_pos rfl]
  · rw [rgW_q, if_neg (by omega), rg4_q, if_neg (by omega), if_neg (by omega), if_pos rfl]
  · rw [rgW_q, if_neg (by omega), rg4_q, if_neg (by omega), if_pos rfl]
  · rw [rgW_q, if_neg (by omega), rg4_q, if_pos rfl]
  · rw [rgW_q, if_pos (by omega), show 10 * N + 4 + j - (10 * N + 4) = j by omega]
  · rw [rgW_q, if_neg (by omega), rg4_q, if_neg (by omega), if_neg (by omega), if_neg (by omega), if_neg (by omega)]
theorem WR_new {till : Int32} (hE : ERg E m) (hf : fitS P V D E m nn) (hn : 0 ≤ nn.toInt ∧ nn.toInt ≤ 99) (ht : 0 ≤ till.toInt ∧ till.toInt ≤ 99) : WRg P (rgW E N m (rg4 N (Int32.ofNat m) nn till G)) N := by
  obtain ⟨m2, m6, hr, hd, hz⟩ := hE
  obtain ⟨n0, n1, n2, n3, n4, _⟩ := new_q (N := N) (E := E) (nn := nn) (till := till) (G := G) m6
  have em : (Int32.ofNat m).toInt = (m : Nat) := ofN_i (by omega)
  have my : rMy (rgW E N m (rg4 N (Int32.ofNat m) nn till G)) N = m := by unfold rMy; rw [n0, em]; rfl
  refine ⟨by rw [n0, em]; omega, by rw [n0, em]; omega, by rw [n1]; exact hn.1, by rw [n1]; exact hn.2, by rw [n2]; exact ht.1, by rw [n2]; exact ht.2, Or.inr n3, fun i hi => ?_, fun i j hij hj => ?_⟩
  · rw [my] at hi
    rw [n4 i hi]
    have z := (hf i hi).1
    have y := hr i hi
    unfold eWho at z
    omega
  · rw [my] at hj
    unfold rWho
    rw [n4 i (by omega), n4 j hj]
    have z := hd i j hij hj
    have y := hr i (by omega)
    have y2 := hr j hj
    omega
/-- the act's cells, in all -/
def eL (w : pm_W) (Q t : Nat) : Int32 := al w (Q + t)
theorem aG_L {z : Int32} (h : z.toInt = (Q + t : Nat)) : aG w 148 z = eL w Q t := aG_n (m := Q + t) h
theorem md6 {i5 i3 : Int32} (h5 : i5.toInt = t) (h3 : i3.toInt = m) (ht : t < 6) (hm : m ≤ 6) (h1 : 1 ≤ m) : ((i5 + 1) - (i5 + 1) / i3 * i3).toInt = ((t + 1) % m : Nat) := by
  have e5 := i32_of h5 (by omega)
  have e3 := i32_of h3 (by omega)
  have h : (List.range 6).all (fun t => (List.range 7).all (fun m => decide (m = 0) || decide (((Int32.ofNat t + 1) - (Int32.ofNat t + 1) / Int32.ofNat m * Int32.ofNat m).toInt = (((t + 1) % m : Nat) : Int)))) = true := by decide +kernel
  have q := List.all_eq_true.mp h t (List.mem_range.mpr ht)
  have q := List.all_eq_true.mp q m (List.mem_range.mpr (by omega))
  rw [Bool.or_eq_true, decide_eq_true_iff, decide_eq_true_iff] at q
  rw [e5, e3]
  exact q.resolve_left (by omega)
theorem L233_2 (hS : SK w) (hQ : p2.toInt = Q) (hQ2 : Q ≤ 6000) (hE : ERg (eL w Q) m) : ∀ (k t : Nat) (i3 : Int32), i3.toInt = t → t ≤ m → PS X k 233 2 [.ref 147, .int p1, .int p2, .int i3, pm_dead, pm_dead, pm_dead, pm_dead] [] w r w' → ∃ (k' : Nat) (i3' : Int32), i3'.toInt = m ∧ PS X k' 233 27 [.ref 147, .int p1, .int p2, .int i3', pm_dead, pm_dead, pm_dead, pm_dead] [] w r w' := by
  intro k
  obtain ⟨m2, m6, hr, hd, hz⟩ := hE
  have m1 : ((-1 : Int32)).toInt = -1 := by decide +kernel
  induction k with
  | zero => intro t i3 h3 ht h; exact (PS_0 h).elim
  | succ k ih =>
    intro t i3 h3 ht h
    have h := U233_2 hS h
    by_cases c : 6 ≤ i3
    · rw [if_pos c] at h
      rw [Int32.le_iff_toInt_le, six32, h3] at c
      exact ⟨k, i3, by rw [h3]; congr 1; omega, h⟩
    · rw [if_neg c] at h
      rw [Int32.le_iff_toInt_le, six32, h3] at c
      obtain ⟨_, h⟩ := h
      rw [aG_L (t := 3 + t) (Q := Q) (by rw [zi_add (zi_add hQ three32 (by omega) (by omega)) h3 (by omega) (by omega)]; omega)] at h
      by_cases c2 : eL w Q (3 + t) < 0
      · rw [if_pos c2] at h
        rw [Int32.lt_iff_toInt_lt, z32] at c2
        have e : t = m := by
          by_cases y : t < m
          · have z := (hr t y).1
            omega
          · omega
        exact ⟨k, i3, by rw [h3, e], h⟩
      · rw [if_neg c2] at h
        rw [Int32.lt_iff_toInt_lt, z32] at c2
        have e : t < m := by
          by_cases y : t < m
          · exact y
          · have z := hz t (by omega) (by omega)
            rw [z, m1] at c2
            omega
        exact ih (t + 1) (i3 + 1) (by rw [zi_inc (n := 10) (by omega) (by omega), h3]; rfl) (by omega) h
theorem L233_33 (hS : SK w) (hu : u ≤ 1) (hp : p1.toInt = (610 + 132 * u : Nat)) (hP : (al w (610 + 132 * u)).toInt = P) (hP9 : P ≤ 9) (hQ : p2.toInt = Q) (hQ2 : Q ≤ 6000) (hE : ERg (eL w Q) m) {i3 : Int32} (h3 : i3.toInt = m) : ∀ (k t : Nat) (i4 i5 : Int32) (u6 u7 : Value), i5.toInt = t → t ≤ m → ((i4 = 1 ∧ ∀ i, i < t → fitO P (fun k => al w (610 + 132 * u + k)) (dR w) (eL w Q) m (eL w Q 1) i) ∨ (i4 = 0 ∧ ¬ fitS P (fun k => al w (610 + 132 * u + k)) (dR w) (eL w Q) m (eL w Q 1))) → PS X k 233 33 [.ref 147, .int p1, .int p2, .int i3, .int i4, .int i5, u6, u7] [] w r w' → ∃ (k' : Nat) (i4' i5' : Int32) (u6' u7' : Value), PS X k' 233 127 [.ref 147, .int p1, .int p2, .int i3, .int i4', .int i5', u6', u7'] [] w r w' ∧ ((i4' = 1 ∧ fitS P (fun k => al w (610 + 132 * u + k)) (dR w) (eL w Q) m (eL w Q 1)) ∨ (i4' = 0 ∧ ¬ fitS P (fun k => al w (610 + 132 * u + k)) (dR w) (eL w Q) m (eL w Q 1))) := by
  intro k
  obtain ⟨m2, m6, hr, hd, hz⟩ := hE
  induction k with
  | zero => intro t i4 i5 u6 u7 h5 ht hf h; exact (PS_0 h).elim
  | succ k ih =>
    intro t i4 i5 u6 u7 h5 ht hf h
    have h := U233_33 hS h
    by_cases c : i3 ≤ i5
    · rw [if_pos c] at h
      rw [Int32.le_iff_toInt_le, h3, h5] at c
      refine ⟨k, i4, i5, u6, u7, h, ?_⟩
      rcases hf with ⟨e, hf⟩ | ⟨e, hf⟩
      · exact Or.inl ⟨e, fun i hi => hf i (by omega)⟩
      · exact Or.inr ⟨e, hf⟩
    · rw [if_neg c] at h
      rw [Int32.le_iff_toInt_le, h3, h5] at c
      rcases hf with ⟨e, hf⟩ | ⟨e, hf⟩
      · rw [e, if_neg (by decide +kernel)] at h
        have htm : t < m := by omega
        obtain ⟨w1, w9⟩ := E_who hr htm
        have n9 := E_nx hr htm
        have enx : (if t + 1 < m then t + 1 else 0) = (t + 1) % m := by
          by_cases y : t + 1 < m
          · rw [if_pos y, Nat.mod_eq_of_lt y]
          · rw [if_neg y, show t + 1 = m by omega, Nat.mod_self]
        have hl : (t + 1) % m < m := Nat.mod_lt _ (by omega)
        have ea : aG w 148 ((p2 + 3) + i5) = eL w Q (3 + t) := aG_L (by rw [zi_add (zi_add hQ three32 (by omega) (by omega)) h5 (by omega) (by omega)]; omega)
        have eb : aG w 148 ((p2 + 3) + ((i5 + 1) - (i5 + 1) / i3 * i3)) = eL w Q (3 + (t + 1) % m) := aG_L (by rw [zi_add (zi_add hQ three32 (by omega) (by omega)) (md6 h5 h3 (by omega) m6 (by omega)) (by omega) (by omega)]; omega)
        have hnx : (eL w Q (3 + (t + 1) % m)).toInt = (eNx (eL w Q) m t : Nat) := by
          unfold eNx
          rw [enx]
          exact (E_who hr hl).1
        have i51 : (i5 + 1).toInt = (t + 1 : Nat) := by rw [zi_inc (n := 10) (by omega) (by omega), h5]; rfl
        obtain ⟨_, _, h⟩ := h
        rw [ea, eb] at h
        -- it can't be
        have bad : ∀ (k2 : Nat) (x6 x7 : Int32), ¬ fitS P (fun k => al w (610 + 132 * u + k)) (dR w) (eL w Q) m (eL w Q 1) → k2 = k → PS X k2 233 118 [.ref 147, .int p1, .int p2, .int i3, .int 1, .int i5, .int x6, .int x7] [] w r w' → ∃ (k' : Nat) (i4' i5' : Int32) (u6' u7' : Value), PS X k' 233 127 [.ref 147, .int p1, .int p2, .int i3, .int i4', .int i5', u6', u7'] [] w r w' ∧ ((i4' = 1 ∧ fitS P (fun k => al w (610 + 132 * u + k)) (dR w) (eL w Q) m (eL w Q 1)) ∨ (i4' = 0 ∧ ¬ fitS P (fun k => al w (610 + 132 * u + k)) (dR w) (eL w Q) m (eL w Q 1))) := by
          intro k2 x6 x7 hn hk z
          subst hk
          cases k2 with
          | zero => exact (PS_0 z).elim
          | succ k2 => exact ih (t + 1) 0 (i5 + 1) _ _ i51 (by omega) (Or.inr ⟨rfl, hn⟩) (sp_up (U233_118 hS z))
        have h := use_p hS h (fun _ _ z => F221n (m := 610 + 132 * u) (L := P) hS hp hP (by omega) z)
        by_cases d1 : 0 ≤ (eL w Q (3 + t)).toInt ∧ (eL w Q (3 + t)).toInt < P
        · have h := ifb_t d1 h
          have h := use_p hS h (fun _ _ z => F221n (m := 610 + 132 * u) (L := P) hS hp hP (by omega) z)
          by_cases d2 : 0 ≤ (eL w Q (3 + (t + 1) % m)).toInt ∧ (eL w Q (3 + (t + 1) % m)).toInt < P
          · have h := ifb_t d2 h
            have h := use_p hS h (fun _ _ z => F231n hS hp hu w1 hnx w9 n9 z)
            obtain ⟨_, h⟩ := h
            have en : aG w 148 (p2 + 1) = eL w Q 1 := aG_L (by rw [zi_add hQ o32 (by omega) (by omega)]; rfl)
            rw [en] at h
            by_cases d3 : rmI (fun k => al w (610 + 132 * u + k)) (dR w) (eWho (eL w Q) t) (eNx (eL w Q) m t) < eL w Q 1
            · rw [if_pos d3] at h
              rw [Int32.lt_iff_toInt_lt] at d3
              exact bad k _ _ (fun q => by have := (q t htm).2.2; omega) rfl h
            · rw [if_neg d3] at h
              rw [Int32.lt_iff_toInt_lt] at d3
              refine ih (t + 1) 1 (i5 + 1) _ _ i51 (by omega) (Or.inl ⟨rfl, fun i hi => ?_⟩) h
              by_cases e : i = t
              · rw [e]; exact ⟨by omega, by omega, by omega⟩
              · exact hf i (by omega)
          · have h := ifb_f d2 h
            exact bad k _ _ (fun q => by have := (q t htm).2.1; omega) rfl h
        · have h := ifb_f d1 h
          exact bad k _ _ (fun q => by have := (q t htm).1; omega) rfl h
      · rw [e, if_pos rfl] at h
        exact ⟨k, 0, i5, u6, u7, h, Or.inr ⟨rfl, hf⟩⟩
theorem L233_198 (hQ : p2.toInt = Q) (hQ2 : Q ≤ 6000) (hN : N < 37) (hE0 : E = eL w0 Q) (hEm : m ≤ 6) {i3 i4 i5 : Int32} (h3 : i3.toInt = m) (h5 : i5.toInt = (10 * N : Nat)) : ∀ (k : Nat) (w : pm_W) (t : Nat) (i6 : Int32) (u7 : Value), FM [] [153] w0 w → i6.toInt = t → t ≤ m → (gI w 147 14).toInt = N → gRr w = rgW E N t G → PS X k 233 198 [.ref 147, .int p1, .int p2, .int i3, .int i4, .int i5, .int i6, u7] [] w r w' → ∃ (w1 : pm_W) (k' : Nat) (i5' : Int32), FM [(147, 14)] [153] w0 w1 ∧ (gI w1 147 14).toInt = (N + 1 : Nat) ∧ gRr w1 = rgW E N m G ∧ PS X k' 233 246 [.ref 147, .int p1, .int p2, .int i3, .int i4, .int i5', .int 0, u7] [] w1 r w' := by
  intro k
  induction k with
  | zero => intro w t i6 u7 f0 h6 ht hN0 hg h; exact (PS_0 h).elim
  | succ k ih =>
    intro w t i6 u7 f0 h6 ht hN0 hg h
    have hS := f0.2.2.2
    have h := U233_198 hS h
    by_cases c : i3 ≤ i6
    · rw [if_pos c] at h
      rw [Int32.le_iff_toInt_le, h3, h6] at c
      have h := h _ rfl
      have et : t = m := by omega
      rw [et] at hg
      have f1 : FM [(147, 14)] [153] w (sI w 147 14 (gI w 147 14 + 1)) := FM_sI hS (by decide)
      refine ⟨_, k, i5, FM_trans (FM_mono f0 (by intro z hz; cases hz) (by decide)) f1, ?_, ?_, h⟩
      · rw [gI_sI (SK_isF hS (by decide +kernel)), zi_add hN0 o32 (by omega) (by omega)]; rfl
      · rw [← hg]; unfold gRr; rw [gA_sI]
    · rw [if_neg c] at h
      rw [Int32.le_iff_toInt_le, h3, h6] at c
      obtain ⟨_, _, h⟩ := h
      have h := h _ rfl
      have ea : aG w 148 ((p2 + 3) + i6) = E (3 + t) := by
        rw [aG_L (t := 3 + t) (Q := Q) (by rw [zi_add (zi_add hQ three32 (by omega) (by omega)) h6 (by omega) (by omega)]; omega), hE0]
        unfold eL al
        rw [FM_a f0 (by decide)]
      rw [ea] at h
      have ei : ((i5 + 4) + i6).toInt = (10 * N + 4 + t : Nat) := by rw [zi_add (zi_add h5 four32 (by omega) (by omega)) h6 (by omega) (by omega)]; rfl
      have f1 : FM [] [153] w (aS w 153 ((i5 + 4) + i6) (E (3 + t))) := FM_aS hS (by decide)
      refine ih _ (t + 1) (i6 + 1) u7 (FM_trans f0 f1) (by rw [zi_inc (n := 10) (by omega) (by omega), h6]; rfl) (by omega) (by rw [FM_i f1 (by intro z; cases z)]; exact hN0) ?_ h
      rw [gRr_aS hS ei (by omega), hg]
      rfl
theorem L233_246 (hP9 : P ≤ 9) (hQ : p2.toInt = Q) (hQ2 : Q ≤ 6000) (hN : N < 37) (hE0 : E = eL w0 Q) (hE : ERg E m) (hW : WRg P (gRr w0) N) (hmy : rMy (gRr w0) N = m) (hwho : ∀ j, j < m → gRr w0 (10 * N + 4 + j) = E (3 + j)) (hN0 : (gI w0 147 14).toInt = (N + 1 : Nat)) {i3 i4 i5 : Int32} (h3 : i3.toInt = m) : ∀ (k : Nat) (w : pm_W) (t : Nat) (i6 : Int32) (u7 : Value), FM [] [152] w0 w → i6.toInt = t → t ≤ m → dR w = adD E m (E 1) t D → PS X k 233 246 [.ref 147, .int p1, .int p2, .int i3, .int i4, .int i5, .int i6, u7] [] w r w' → r = some (.int 1) ∧ FM [] [152] w0 w' ∧ dR w' = adD E m (E 1) m D := by
  intro k
  obtain ⟨m2, m6, hr, hd, hz⟩ := hE
  induction k with
  | zero => intro w t i6 u7 f0 h6 ht hdd h; exact (PS_0 h).elim
  | succ k ih =>
    intro w t i6 u7 f0 h6 ht hdd h
    have hS := f0.2.2.2
    have h := U233_246 hS h
    by_cases c : i3 ≤ i6
    · rw [if_pos c] at h
      rw [Int32.le_iff_toInt_le, h3, h6] at c
      have et : t = m := by omega
      rw [et] at hdd
      rw [h.2]
      exact ⟨h.1, f0, hdd⟩
    · rw [if_neg c] at h
      rw [Int32.le_iff_toInt_le, h3, h6] at c
      have htm : t < m := by omega
      have eg : gRr w = gRr w0 := by funext q; unfold gRr; rw [FM_a f0 (by decide)]
      have eN : (gI w 147 14 - 1).toInt = (N : Nat) := by
        rw [zi_sub (show (gI w 147 14).toInt = (N + 1 : Nat) by rw [FM_i f0 (by intro z; cases z)]; exact hN0) o32 (by omega) (by omega)]
        omega
      have h := use_p hS h (fun _ _ z => F234 (j := t) hS eN h6 (by omega) (by omega) z)
      rw [eg, hwho t htm] at h
      obtain ⟨x7, h7, h⟩ := use_z hS h (fun _ _ z => F235 hS eN h6 (by omega) (by rw [eg]; exact hW) (by rw [eg, hmy]; exact htm) z)
      rw [eg] at h7
      obtain ⟨w1, w9⟩ := E_who hr htm
      have n9 := E_nx hr htm
      have enx : rNx (gRr w0) N t = eNx E m t := by
        unfold rNx eNx rWho eWho
        rw [hmy]
        by_cases y : t + 1 < m
        · rw [if_pos y, hwho _ y]
        · rw [if_neg y, hwho _ (by omega)]
      rw [enx] at h7
      obtain ⟨_, _, _, h⟩ := h
      have h := h _ rfl
      have ei : (9 * E (3 + t) + x7).toInt = (eCl E m t : Nat) := by
        rw [zi_add (zi_mul nine32 w1 (by omega) (by omega)) h7 (by omega) (by omega)]
        unfold eCl
        omega
      have c81 : eCl E m t < 81 := by unfold eCl; omega
      have ed : aG w 152 (9 * E (3 + t) + x7) = adD E m (E 1) t D (eCl E m t) := by
        rw [aG_n (m := eCl E m t) ei, ← hdd]
        rfl
      have en : aG w 148 (p2 + 1) = E 1 := by
        rw [aG_L (t := 1) (Q := Q) (by rw [zi_add hQ o32 (by omega) (by omega)]; rfl), hE0]
        unfold eL al
        rw [FM_a f0 (by decide)]
      rw [ed, en] at h
      refine ih _ (t + 1) (i6 + 1) u7 (FM_trans f0 (FM_aS hS (by decide))) (by rw [zi_inc (n := 10) (by omega) (by omega), h6]; rfl) (by omega) ?_ h
      rw [dR_aS hS ei c81, hdd]
      rfl
theorem F233 (hS : SK w) (hu : u ≤ 1) (hp : p1.toInt = (610 + 132 * u : Nat)) (hP : (al w (610 + 132 * u)).toInt = P) (hP9 : P ≤ 9) (hQ : p2.toInt = Q) (hQ2 : Q ≤ 6000) (hE : ERg (eL w Q) m) (hn : 0 ≤ (eL w Q 1).toInt ∧ (eL w Q 1).toInt ≤ 99) (ht : 0 ≤ (eL w Q 2).toInt ∧ (eL w Q 2).toInt ≤ 99) (hN : N < 37) (hN0 : (gI w 147 14).toInt = N) (h : PS X k 233 0 [.ref 147, .int p1, .int p2, pm_dead, pm_dead, pm_dead, pm_dead, pm_dead] [] w r w') : (fitS P (fun k => al w (610 + 132 * u + k)) (dR w) (eL w Q) m (eL w Q 1) ∧ r = some (.int 1) ∧ FM [(147, 14)] [152, 153] w w' ∧ (gI w' 147 14).toInt = (N + 1 : Nat) ∧ dR w' = adD (eL w Q) m (eL w Q 1) m (dR w) ∧ gRr w' = rgW (eL w Q) N m (rg4 N (Int32.ofNat m) (eL w Q 1) (eL w Q 2) (gRr w))) ∨ (¬ fitS P (fun k => al w (610 + 132 * u + k)) (dR w) (eL w Q) m (eL w Q 1) ∧ r = some (.int 0) ∧ w' = w) := by
  cases k with
  | zero => exact (PS_0 h).elim
  | succ k =>
    obtain ⟨k1, i3, h3, h⟩ := L233_2 hS hQ hQ2 hE _ 0 0 z32 (Nat.zero_le _) (U233_0 hS h)
    cases k1 with
    | zero => exact (PS_0 h).elim
    | succ k1 =>
      obtain ⟨k2, i4, i5, u6, u7, h, hf⟩ := L233_33 hS hu hp hP hP9 hQ hQ2 hE h3 _ 0 1 0 _ _ z32 (Nat.zero_le _) (Or.inl ⟨rfl, fun i hi => absurd hi (Nat.not_lt_zero i)⟩) (U233_27 hS h)
      cases k2 with
      | zero => exact (PS_0 h).elim
      | succ k2 =>
        have h := U233_127 hS h
        rcases hf with ⟨e, hf⟩ | ⟨e, hf⟩
        · rw [e, if_neg (by decide +kernel)] at h
          have b0 : (10 * gI w 147 14).toInt = (10 * N : Nat) := rk10 hN0 (by omega)
          have b1 : (10 * gI w 147 14 + 1).toInt = (10 * N + 1 : Nat) := by rw [zi_add b0 o32 (by omega) (by omega)]; rfl
          have b2 : (10 * gI w 147 14 + 2).toInt = (10 * N + 2 : Nat) := by rw [zi_add b0 two32 (by omega) (by omega)]; rfl
          have b3 : (10 * gI w 147 14 + 3).toInt = (10 * N + 3 : Nat) := by rw [zi_add b0 three32 (by omega) (by omega)]; rfl
          obtain ⟨_, h⟩ := h
          obtain ⟨_, _, h⟩ := h _ rfl
          obtain ⟨_, _, h⟩ := h _ rfl
          obtain ⟨_, h⟩ := h _ rfl
          have h := h _ rfl
          have q1 : (p2 + 1).toInt = (Q + 1 : Nat) := by rw [zi_add hQ o32 (by omega) (by omega)]; rfl
          have q2 : (p2 + 2).toInt = (Q + 2 : Nat) := by rw [zi_add hQ two32 (by omega) (by omega)]; rfl
          have S1 : SK (aS w 153 (10 * gI w 147 14) i3) := SK_aS hS
          have e1 : aG (aS w 153 (10 * gI w 147 14) i3) 148 (p2 + 1) = eL w Q 1 := by
            rw [aG_L q1]
            unfold eL al
            rw [gA_aS_ne (by decide)]
          rw [e1] at h
          have S2 : SK (aS (aS w 153 (10 * gI w 147 14) i3) 153 (10 * gI w 147 14 + 1) (eL w Q 1)) := SK_aS S1
          have e2 : aG (aS (aS w 153 (10 * gI w 147 14) i3) 153 (10 * gI w 147 14 + 1) (eL w Q 1)) 148 (p2 + 2) = eL w Q 2 := by
            rw [aG_L q2]
            unfold eL al
            rw [gA_aS_ne (by decide), gA_aS_ne (by decide)]
          rw [e2] at h
          have S3 : SK (aS (aS (aS w 153 (10 * gI w 147 14) i3) 153 (10 * gI w 147 14 + 1) (eL w Q 1)) 153 (10 * gI w 147 14 + 2) (eL w Q 2)) := SK_aS S2
          obtain ⟨w4, e4⟩ : ∃ w4, w4 = aS (aS (aS (aS w 153 (10 * gI w 147 14) i3) 153 (10 * gI w 147 14 + 1) (eL w Q 1)) 153 (10 * gI w 147 14 + 2) (eL w Q 2)) 153 (10 * gI w 147 14 + 3) 1 := ⟨_, rfl⟩
          rw [← e4] at h
          have f4 : FM [] [153] w w4 := by
            rw [e4]
            exact FM_trans (FM_aS hS (by decide)) (FM_trans (FM_aS S1 (by decide)) (FM_trans (FM_aS S2 (by decide)) (FM_aS S3 (by decide))))
          have ei3 : i3 = Int32.ofNat m := i32_of h3 (by have := hE.2.1; omega)
          have g4 : gRr w4 = rg4 N (Int32.ofNat m) (eL w Q 1) (eL w Q 2) (gRr w) := by
            rw [e4, gRr_aS S3 b3 (by omega), gRr_aS S2 b2 (by omega), gRr_aS S1 b1 (by omega), gRr_aS hS b0 (by omega), ei3]
            rfl
          have eE : eL w Q = eL w4 Q := by
            funext t
            unfold eL al
            rw [FM_a f4 (by decide)]
          obtain ⟨w5, k5, i5', f5, n5, g5, h⟩ := L233_198 (w0 := w4) (E := eL w Q) hQ hQ2 hN eE hE.2.1 h3 b0 _ w4 0 0 _ (FM_refl f4.2.2.2) z32 (Nat.zero_le _) (by rw [FM_i f4 (by intro z; cases z)]; exact hN0) (by rw [g4]; rfl) h
          have g5 : gRr w5 = rgW (eL w Q) N m (rg4 N (Int32.ofNat m) (eL w Q 1) (eL w Q 2) (gRr w)) := g5
          have eE5 : eL w Q = eL w5 Q := by
            funext t
            unfold eL al
            rw [FM_a f5 (by decide), FM_a f4 (by decide)]
          have hW5 := WR_new (N := N) (G := gRr w) hE hf hn ht
          obtain ⟨n0, _, _, _, nw, _⟩ := new_q (N := N) (E := eL w Q) (nn := eL w Q 1) (till := eL w Q 2) (G := gRr w) hE.2.1
          rw [← g5] at hW5 n0 nw
          have d5 : dR w5 = dR w := by funext q; unfold dR; rw [FM_a f5 (by decide), FM_a f4 (by decide)]
          obtain ⟨z1, z2, z3⟩ := L233_246 (w0 := w5) (E := eL w Q) (D := dR w) hP9 hQ hQ2 hN eE5 hE hW5 (by unfold rMy; rw [n0, ofN_i (by have := hE.2.1; omega)]; rfl) nw n5 h3 _ w5 0 0 _ (FM_refl f5.2.2.2) z32 (Nat.zero_le _) (by rw [d5]; rfl) h
          refine Or.inl ⟨hf, z1, FM_trans (FM_mono f4 (by intro z hz; cases hz) (by decide)) (FM_trans (FM_mono f5 (by decide) (by decide)) (FM_mono z2 (by intro z hz; cases hz) (by decide))), ?_, z3, ?_⟩
          · rw [FM_i z2 (by intro z; cases z)]; exact n5
          · rw [← g5]
            funext q
            unfold gRr
            rw [FM_a z2 (by decide)]
        · rw [e, if_pos rfl] at h
          exact Or.inr ⟨hf, h.1, h.2⟩
end HC
end
section
/-! ===== an act played (the reference), as ACT has it ===== -/
section HD
variable {X : pm_X} {k k2 : Nat} {w0 w w1 w2 w' : pm_W} {r r2 : Option Value} {p p1 p2 p3 p4 p5 f0 p0 f q M nn : Int32} {n i v j m T L u a c N K P t s b Q : Nat} {D D' G G1 G2 V E : Nat → Int32}
/-- the reference's state -/
def RSt (w : pm_W) (D G : Nat → Int32) (M : Int32) (N : Nat) : Prop := dR w = D ∧ gRr w = G ∧ gI w 147 15 = M ∧ (gI w 147 14).toInt = N
theorem dR_81 (hS : SK w) {q : Nat} (h : 81 ≤ q) : dR w q = 0 := by
  unfold dR
  rw [List.getD_eq_getElem?_getD, List.getElem?_eq_none (by rw [SK_len hS (a := 152) (n := 81) (by decide +kernel) (by decide)]; exact h)]
  rfl
theorem sub_an {x y : Int32} : x + -y = x - y := by
  apply Int32.toBitVec_inj.mp
  show x.toBitVec + -y.toBitVec = x.toBitVec - y.toBitVec
  exact (BitVec.sub_eq_add_neg _ _).symm
theorem F232n {x y : Nat} (hS : SK w) (h1 : p1.toInt = x) (h2 : p2.toInt = y) (hx : x < 9) (hy : y < 9) (h : PS X k 232 0 [.ref 147, .int p1, .int p2] [] w r w') : r = some (.int (dR w (9 * x + y))) ∧ w' = w := by
  cases k with
  | zero => exact (PS_0 h).elim
  | succ k =>
    obtain ⟨_, z1, z2⟩ := U232_0 hS h
    rw [aG_n (m := 9 * x + y) (by rw [zi_add (zi_mul nine32 h1 (by omega) (by omega)) h2 (by omega) (by omega)]; omega)] at z1
    exact ⟨z1, z2⟩
theorem stD_hi (hP : P ≤ 9) (hR : WRg P G K) {q : Nat} (hq : 81 ≤ q) : ∀ i, i ≤ rMy G K → stD G K i D q = D q
  | 0, _ => rfl
  | i + 1, hi => by
    have w1 := WR_who hR (i := i) (by omega)
    have w2 := WR_nx hR (i := i) (by omega)
    show (if q = rCl G K i then subZ (stD G K i D (rCl G K i)) (G (10 * K + 1)) else stD G K i D q) = D q
    rw [if_neg (by unfold rCl; omega)]
    exact stD_hi hP hR hq i (by omega)
theorem flS_hi {c : (Nat → Int32) → Nat → Bool} {s : (Nat → Int32) × (Nat → Int32)} (hP : P ≤ 9) (hW : WS P N s) {q : Nat} (hq : 81 ≤ q) : ∀ n, n ≤ N → (flS c n s).1 q = s.1 q
  | 0, _ => rfl
  | n + 1, hn => by
    have z := flS_hi (c := c) hP hW hq n (by omega)
    have hw := WS_flS (c := c) hP hW n (by omega)
    show (cond (c (flS c n s).2 n) (strk n (flS c n s)) (flS c n s)).1 q = s.1 q
    cases c (flS c n s).2 n with
    | true =>
      rw [← z]
      exact stD_hi hP (hw.2 n (by omega)) hq _ (Nat.le_refl _)
    | false => exact z
theorem F230_e {i1 i2 i3 i4 i5 i6 : Int32} (hS : SK w) (h : PS X k 230 95 [.ref 147, .int i1, .int i2, .int i3, .int i4, .int i5, .int i6] [] w r w') : r = some (.int 0) ∧ w' = w := by
  cases k with
  | zero => exact (PS_0 h).elim
  | succ k => exact U230_95 hS h
theorem F230_z {i1 i2 i3 i4 : Int32} (hS : SK w) (h : PS X k 230 162 [.ref 147, .int i1, .int i2, .int i3, .int i4, pm_dead, pm_dead] [] w r w') : r = some (.int 0) ∧ w' = w := by
  cases k with
  | zero => exact (PS_0 h).elim
  | succ k => exact U230_162 hS h
theorem F230_o {i1 i2 i3 i4 : Int32} (hS : SK w) (h : PS X k 230 203 [.ref 147, .int i1, .int i2, .int i3, .int i4, pm_dead, pm_dead] [] w r w') : r = some (.int 1) ∧ w' = w := by
  cases k with
  | zero => exact (PS_0 h).elim
  | succ k => exact U230_203 hS h
theorem F230 (hS : SK w) (hu : u ≤ 1) (hp : p1.toInt = (610 + 132 * u : Nat)) (hP : (al w (610 + 132 * u)).toInt = P) (hP9 : P ≤ 9) (hQ : p2.toInt = Q) (hQ2 : Q ≤ 6000) (hR : RSt w D G M N) (hN : N < 37) (hW : WS P N (D, G)) (hA : VAc (eL w Q)) (h : PS X k 230 0 [.ref 147, .int p1, .int p2, pm_dead, pm_dead, pm_dead, pm_dead] [] w r w') : FM [(147, 14), (147, 15)] [152, 153] w w' ∧ ∃ o : AO, ACT P (fun k => al w (610 + 132 * u + k)) (eL w Q) D G M N o ∧ ((o = none ∧ r = some (.int 0)) ∨ (∃ (D' G' : Nat → Int32) (M' : Int32) (N' : Nat), o = some (D', G', M', N') ∧ r = some (.int 1) ∧ RSt w' D' G' M' N')) := by
  obtain ⟨hD, hG, hM, hN0⟩ := hR
  have hWs : WS P N (sR2 w) := by unfold sR2; rw [hD, hG]; exact hW
  have ew : sR2 w = (D, G) := by unfold sR2; rw [hD, hG]
  have e8 : ∀ {z : Int32}, 0 ≤ z.toInt → z.toInt = z.toInt.toNat := fun h => by omega
  have q0 : aG w 148 p2 = eL w Q 0 := aG_L (by rw [hQ]; rfl)
  have q1 : aG w 148 (p2 + 1) = eL w Q 1 := aG_L (by rw [zi_add hQ o32 (by omega) (by omega)]; rfl)
  have q2 : aG w 148 (p2 + 2) = eL w Q 2 := aG_L (by rw [zi_add hQ two32 (by omega) (by omega)]; rfl)
  have q3 : aG w 148 (p2 + 3) = eL w Q 3 := aG_L (by rw [zi_add hQ three32 (by omega) (by omega)]; rfl)
  have kp : ∀ {fs : List (Nat × Nat)} {as : List Nat} {D' G' : Nat → Int32}, FM fs as w w' → (147, 14) ∉ fs → (147, 15) ∉ fs → dR w' = D' → gRr w' = G' → RSt w' D' G' M N := fun fm y0 y1 hd hg => ⟨hd, hg, by rw [FM_i fm y1]; exact hM, by rw [FM_i fm y0]; exact hN0⟩
  cases k with
  | zero => exact (PS_0 h).elim
  | succ k =>
    obtain ⟨_, _, h⟩ := U230_0 hS h
    rw [q0, q1] at h
    rcases hA with ⟨h01, a1, a2, a3, a4, a5, a6, a7⟩ | ⟨h0, a1, a2, a3, a4, m, m2, m6, b1, b2, b3⟩ | ⟨h0, a1, a2⟩ | ⟨h0, a1, a2⟩ | h0
    · -- owe, pay
      have h26 : PS X k 230 26 [.ref 147, .int p1, .int p2, .int (eL w Q 0), .int (eL w Q 1), pm_dead, pm_dead] [] w r w' := by
        rcases h01 with h0 | h0
        · rw [if_pos h0] at h; exact h
        · rw [if_neg (by rw [h0]; decide +kernel), if_pos h0] at h; exact h
      clear h
      cases k with
      | zero => exact (PS_0 h26).elim
      | succ k =>
        obtain ⟨_, _, h⟩ := U230_26 hS h26
        rw [q2, q3] at h
        have h := use_p hS h (fun _ _ z => F221n (m := 610 + 132 * u) (L := P) hS hp hP (by omega) z)
        have ei : (9 * eL w Q 1 + eL w Q 2).toInt = (9 * (eL w Q 1).toInt.toNat + (eL w Q 2).toInt.toNat : Nat) := by
          rw [zi_add (zi_mul nine32 (e8 a1) (by omega) (by omega)) (e8 a3) (by omega) (by omega)]
          omega
        have ed : aG w 152 (9 * eL w Q 1 + eL w Q 2) = D (9 * (eL w Q 1).toInt.toNat + (eL w Q 2).toInt.toNat) := by
          rw [aG_n (m := 9 * (eL w Q 1).toInt.toNat + (eL w Q 2).toInt.toNat) ei, ← hD]
          rfl
        have no : (o : AO) → ACT P (fun k => al w (610 + 132 * u + k)) (eL w Q) D G M N o → o = none → r = some (.int 0) ∧ w' = w → FM [(147, 14), (147, 15)] [152, 153] w w' ∧ ∃ o : AO, ACT P (fun k => al w (610 + 132 * u + k)) (eL w Q) D G M N o ∧ ((o = none ∧ r = some (.int 0)) ∨ (∃ (D' G' : Nat → Int32) (M' : Int32) (N' : Nat), o = some (D', G', M', N') ∧ r = some (.int 1) ∧ RSt w' D' G' M' N')) := by
          intro o ho hn hz
          rw [hz.2]
          exact ⟨FM_refl hS, o, ho, Or.inl ⟨hn, hz.1⟩⟩
        by_cases d1 : 0 ≤ (eL w Q 1).toInt ∧ (eL w Q 1).toInt < P
        · have h := ifb_t d1 h
          have h := use_p hS h (fun _ _ z => F221n (m := 610 + 132 * u) (L := P) hS hp hP (by omega) z)
          by_cases d2 : 0 ≤ (eL w Q 2).toInt ∧ (eL w Q 2).toInt < P
          · have h := ifb_t d2 h
            rcases h01 with h0 | h0
            · rw [if_pos h0] at h
              have h := use_p hS h (fun _ _ z => F231n hS hp hu (e8 a1) (e8 a3) (by omega) (by omega) z)
              rw [hD] at h
              by_cases d3 : eL w Q 3 ≤ rmI (fun k => al w (610 + 132 * u + k)) D (eL w Q 1).toInt.toNat (eL w Q 2).toInt.toNat
              · rw [if_pos d3, if_pos h0] at h
                rw [Int32.le_iff_toInt_le] at d3
                obtain ⟨_, _, h⟩ := h
                have h := h _ rfl
                rw [ed] at h
                have fm : FM [] [152, 153] w w' := by rw [h.2]; exact FM_aS hS (by decide)
                refine ⟨FM_mono fm (by intro z hz; cases hz) (by decide), _, Or.inl ⟨h0, _, _, e8 a1, e8 a3, Or.inl ⟨by omega, by omega, d3, rfl⟩⟩, Or.inr ⟨_, _, _, _, rfl, h.1, kp fm (by intro z; cases z) (by intro z; cases z) ?_ ?_⟩⟩
                · rw [h.2, dR_aS hS ei (by omega), hD]
                · rw [h.2, gRr_ne (by decide)]; exact hG
              · rw [if_neg d3] at h
                rw [Int32.le_iff_toInt_le] at d3
                exact no none (Or.inl ⟨h0, _, _, e8 a1, e8 a3, Or.inr ⟨fun z => d3 z.2.2, rfl⟩⟩) rfl (F230_e hS h)
            · have n0 : ¬ eL w Q 0 = 0 := by rw [h0]; decide +kernel
              rw [if_neg n0] at h
              have h := use_p hS h (fun _ _ z => F232n hS (e8 a1) (e8 a3) (by omega) (by omega) z)
              rw [hD] at h
              by_cases d3 : eL w Q 3 ≤ D (9 * (eL w Q 1).toInt.toNat + (eL w Q 2).toInt.toNat)
              · rw [if_pos d3, if_neg n0] at h
                rw [Int32.le_iff_toInt_le] at d3
                obtain ⟨_, _, h⟩ := h
                have h := h _ rfl
                rw [ed, sub_an] at h
                have fm : FM [] [152, 153] w w' := by rw [h.2]; exact FM_aS hS (by decide)
                refine ⟨FM_mono fm (by intro z hz; cases hz) (by decide), _, Or.inr (Or.inl ⟨h0, _, _, e8 a1, e8 a3, Or.inl ⟨by omega, by omega, d3, rfl⟩⟩), Or.inr ⟨_, _, _, _, rfl, h.1, kp fm (by intro z; cases z) (by intro z; cases z) ?_ ?_⟩⟩
                · rw [h.2, dR_aS hS ei (by omega), hD]
                · rw [h.2, gRr_ne (by decide)]; exact hG
              · rw [if_neg d3] at h
                rw [Int32.le_iff_toInt_le] at d3
                exact no none (Or.inr (Or.inl ⟨h0, _, _, e8 a1, e8 a3, Or.inr ⟨fun z => d3 z.2.2, rfl⟩⟩)) rfl (F230_e hS h)
          · have h := ifb_f d2 h
            rcases h01 with h0 | h0
            · exact no none (Or.inl ⟨h0, _, _, e8 a1, e8 a3, Or.inr ⟨fun z => by have := z.2.1; omega, rfl⟩⟩) rfl (F230_e hS h)
            · exact no none (Or.inr (Or.inl ⟨h0, _, _, e8 a1, e8 a3, Or.inr ⟨fun z => by have := z.2.1; omega, rfl⟩⟩)) rfl (F230_e hS h)
        · have h := ifb_f d1 h
          rcases h01 with h0 | h0
          · exact no none (Or.inl ⟨h0, _, _, e8 a1, e8 a3, Or.inr ⟨fun z => by have := z.1; omega, rfl⟩⟩) rfl (F230_e hS h)
          · exact no none (Or.inr (Or.inl ⟨h0, _, _, e8 a1, e8 a3, Or.inr ⟨fun z => by have := z.1; omega, rfl⟩⟩)) rfl (F230_e hS h)
    · rw [if_neg (by rw [h0]; decide +kernel), if_neg (by rw [h0]; decide +kernel), if_pos h0] at h
      have hE : ERg (eL w Q) m := ⟨m2, m6, b1, b2, b3⟩
      obtain ⟨r13, w14, y1, h⟩ := h
      rcases F233 hS hu hp hP hP9 hQ hQ2 hE ⟨by omega, a2⟩ ⟨a3, a4⟩ hN hN0 y1 with ⟨y2, y3, y4, y5, y6, y7⟩ | ⟨y2, y3, y4⟩
      · obtain ⟨z1, z2⟩ := h 1 y3 y4.2.2.2
        subst w'
        rw [hD] at y2 y6
        rw [hG] at y7
        refine ⟨FM_mono y4 (by decide) (by decide), _, Or.inr (Or.inr (Or.inl ⟨h0, m, hE, Or.inl ⟨y2, rfl⟩⟩)), Or.inr ⟨_, _, _, _, rfl, z1, y6, y7, by rw [FM_i y4 (by decide)]; exact hM, y5⟩⟩
      · subst w14
        obtain ⟨z1, z2⟩ := h 0 y3 hS
        subst w'
        rw [hD] at y2
        exact ⟨FM_refl hS, none, Or.inr (Or.inr (Or.inl ⟨h0, m, hE, Or.inr ⟨y2, rfl⟩⟩)), Or.inl ⟨rfl, z1⟩⟩
    · rw [if_neg (by rw [h0]; decide +kernel), if_neg (by rw [h0]; decide +kernel), if_neg (by rw [h0]; decide +kernel), if_pos h0] at h
      by_cases c : gI w 147 14 ≤ eL w Q 1
      · rw [if_pos c] at h
        rw [Int32.le_iff_toInt_le, hN0] at c
        obtain ⟨z1, z2⟩ := F230_z hS h
        subst w'
        exact ⟨FM_refl hS, none, Or.inr (Or.inr (Or.inr (Or.inl ⟨h0, _, e8 a1, Or.inr ⟨fun z => by have := z.1; omega, rfl⟩⟩))), Or.inl ⟨rfl, z1⟩⟩
      · rw [if_neg c] at h
        rw [Int32.le_iff_toInt_le, hN0] at c
        have h := use_p hS h (fun _ _ z => F236 hS (e8 a1) (by omega) z)
        rw [hG] at h
        cases ho : opn G (eL w Q 1).toInt.toNat with
        | false =>
          rw [ho, if_pos (by decide +kernel)] at h
          obtain ⟨z1, z2⟩ := F230_z hS h
          subst w'
          exact ⟨FM_refl hS, none, Or.inr (Or.inr (Or.inr (Or.inl ⟨h0, _, e8 a1, Or.inr ⟨fun z => by rw [ho] at z; exact Bool.noConfusion z.2, rfl⟩⟩))), Or.inl ⟨rfl, z1⟩⟩
        | true =>
          rw [ho, if_neg (by decide +kernel)] at h
          obtain ⟨r11, w12, y1, h⟩ := h
          obtain ⟨y2, y3, y4⟩ := F237s hS hP9 (e8 a1) (by omega) (by omega) hWs y1
          obtain ⟨z1, z2⟩ := F230_o y3.2.2.2 (h y2 y3.2.2.2)
          subst w'
          rw [ew] at y4
          exact ⟨FM_mono y3 (by intro z hz; cases hz) (by decide), _, Or.inr (Or.inr (Or.inr (Or.inl ⟨h0, _, e8 a1, Or.inl ⟨by omega, ho, rfl⟩⟩))), Or.inr ⟨_, _, _, _, rfl, z1, kp y3 (by intro z; cases z) (by intro z; cases z) (congrArg Prod.fst y4) (congrArg Prod.snd y4)⟩⟩
    · rw [if_neg (by rw [h0]; decide +kernel), if_neg (by rw [h0]; decide +kernel), if_neg (by rw [h0]; decide +kernel), if_neg (by rw [h0]; decide +kernel), if_pos h0] at h
      have h := use_p hS h (fun _ _ z => F221n (m := 610 + 132 * u) (L := P) hS hp hP (by omega) z)
      by_cases d1 : 0 ≤ (eL w Q 1).toInt ∧ (eL w Q 1).toInt < P
      · have h := ifb_t d1 h
        obtain ⟨r11, w12, y1, h⟩ := h
        obtain ⟨y2, y3, y4, y5⟩ := F238 hS hP9 (by omega) hWs hN0 (e8 a1) (by omega) y1
        obtain ⟨z1, z2⟩ := F230_o y3.2.2.2 (h y2 y3.2.2.2)
        subst w'
        rw [ew] at y4 y5
        have h81 : ∀ q, 81 ≤ q → (flS (cF (eL w Q 1).toInt.toNat) N (D, G)).1 q = 0 := fun q hq => by
          rw [flS_hi hP9 hW hq N (Nat.le_refl _)]
          show D q = 0
          rw [← hD]
          exact dR_81 hS hq
        rw [zrL_9 hP9 (by omega) (WS_flS hP9 hW N (Nat.le_refl _)).1 h81] at y4
        exact ⟨FM_mono y3 (by intro z hz; cases hz) (by decide), _, Or.inr (Or.inr (Or.inr (Or.inr (Or.inl ⟨h0, _, e8 a1, Or.inl ⟨by omega, rfl⟩⟩)))), Or.inr ⟨_, _, _, _, rfl, z1, kp y3 (by intro z; cases z) (by intro z; cases z) y4 y5⟩⟩
      · have h := ifb_f d1 h
        obtain ⟨z1, z2⟩ := h
        subst w'
        exact ⟨FM_refl hS, none, Or.inr (Or.inr (Or.inr (Or.inr (Or.inl ⟨h0, _, e8 a1, Or.inr ⟨by omega, rfl⟩⟩)))), Or.inl ⟨rfl, z1⟩⟩
    · rw [if_neg (by rw [h0]; decide +kernel), if_neg (by rw [h0]; decide +kernel), if_neg (by rw [h0]; decide +kernel), if_neg (by rw [h0]; decide +kernel), if_neg (by rw [h0]; decide +kernel)] at h
      obtain ⟨r11, w12, y1, h⟩ := h
      obtain ⟨y2, y3, y4, y5⟩ := F240 hS hP9 (by omega) hWs hN0 y1
      obtain ⟨z1, z2⟩ := F230_o y3.2.2.2 (h y2 y3.2.2.2)
      subst w'
      rw [hM] at y4 y5
      rw [ew] at y5
      exact ⟨FM_mono y3 (by decide) (by decide), _, Or.inr (Or.inr (Or.inr (Or.inr (Or.inr ⟨h0, rfl⟩)))), Or.inr ⟨_, _, _, _, rfl, z1, congrArg Prod.fst y5, congrArg Prod.snd y5, y4, by rw [FM_i y3 (by decide)]; exact hN0⟩⟩
end HD
end
section
/-! ===== acts played on both sides leave like states ===== -/
section HE
variable {p1 p2 p3 x1 y1 M nn : Int32} {n i v j m N K P k t s b Q : Nat} {D D' G G' G1 G2 V E : Nat → Int32} {o o1 o2 : AO}
theorem ERg_m {m' : Nat} (h : ERg E m) (h' : ERg E m') : m' = m := by
  obtain ⟨a1, a2, a3, a4, a5⟩ := h
  obtain ⟨b1, b2, b3, b4, b5⟩ := h'
  have m1 : ((-1 : Int32)).toInt = -1 := by decide +kernel
  rcases Nat.lt_trichotomy m' m with c | c | c
  · have z := b5 m' (Nat.le_refl _) (by omega)
    have y := a3 m' c
    rw [z, m1] at y
    omega
  · exact c
  · have z := a5 m (Nat.le_refl _) (by omega)
    have y := b3 m c
    rw [z, m1] at y
    omega
theorem E_lt (h : ERg E m) (hi : i < m) : eWho E i < 9 ∧ eNx E m i < 9 := ⟨(E_who h.2.2.1 hi).2, E_nx h.2.2.1 hi⟩
theorem E_ne (h : ERg E m) (hi : i < m) (hj : j < m) (hij : i ≠ j) : eWho E i ≠ eWho E j := by
  have a := (E_who h.2.2.1 hi).1
  have c := (E_who h.2.2.1 hj).1
  intro z
  rcases Nat.lt_or_gt_of_ne hij with q | q
  · exact h.2.2.2.1 i j q hj (by rw [a, c, z])
  · exact h.2.2.2.1 j i q hi (by rw [a, c, z])
theorem E_nn (h : ERg E m) (hi : i < m) : eWho E i ≠ eNx E m i := by
  have m2 := h.1
  unfold eNx
  by_cases c : i + 1 < m
  · rw [if_pos c]; exact E_ne h hi c (by omega)
  · rw [if_neg c]; exact E_ne h hi (by omega) (by omega)
theorem eCl_ne (h : ERg E m) (hi : i < m) (hj : j < m) (hij : i ≠ j) : eCl E m i ≠ eCl E m j := by
  have a := E_lt h hi
  have c := E_lt h hj
  have d := E_ne h hi hj hij
  unfold eCl
  omega
theorem adD_q (h : ERg E m) : ∀ i, i ≤ m → ∀ q, ((∃ j, j < i ∧ q = eCl E m j) → adD E m nn i D q = D q + nn) ∧ ((¬ ∃ j, j < i ∧ q = eCl E m j) → adD E m nn i D q = D q)
  | 0, _, q => ⟨fun ⟨j, hj, _⟩ => absurd hj (Nat.not_lt_zero j), fun _ => rfl⟩
  | i + 1, hi, q => by
    have e : adD E m nn (i + 1) D q = if q = eCl E m i then adD E m nn i D (eCl E m i) + nn else adD E m nn i D q := rfl
    have z := adD_q h i (by omega)
    rw [e]
    by_cases c : q = eCl E m i
    · rw [if_pos c]
      have y := (z (eCl E m i)).2 (fun ⟨j, hj, hq⟩ => eCl_ne h (by omega) (by omega) (by omega) hq)
      rw [y]
      exact ⟨fun _ => by rw [c], fun hn => absurd ⟨i, by omega, c⟩ hn⟩
    · rw [if_neg c]
      refine ⟨fun ⟨j, hj, hq⟩ => (z q).1 ⟨j, ?_, hq⟩, fun hn => (z q).2 (fun ⟨j, hj, hq⟩ => hn ⟨j, by omega, hq⟩)⟩
      by_cases e2 : j = i
      · rw [e2] at hq; exact absurd hq c
      · omega
/-- room bounds what may be added -/
theorem rm_b {x y : Nat} (hV : VW V) (hD : WD P D) (hx : x < 9) (hy : y < 9) (hxy : x ≠ y) (hn : 1 ≤ nn.toInt) (h : nn.toInt ≤ (rmI V D x y).toInt) : 0 ≤ (D (9 * x + y) + nn).toInt ∧ (D (9 * x + y) + nn).toInt ≤ 99 := by
  unfold rmI at h
  rw [if_neg hxy] at h
  have v1 := hV (9 * y + x) (by omega)
  have d1 := hD.1 (9 * x + y)
  have e : (V (3 + (9 * y + x)) - D (9 * x + y)).toInt = (V (3 + (9 * y + x))).toInt - (D (9 * x + y)).toInt := zi_sub rfl rfl (by omega) (by omega)
  rw [e] at h
  by_cases c : 0 < (V (3 + (9 * y + x))).toInt - (D (9 * x + y)).toInt
  · rw [if_pos c, e] at h
    rw [show (D (9 * x + y) + nn).toInt = (D (9 * x + y)).toInt + nn.toInt from zi_add rfl rfl (by omega) (by omega)]
    omega
  · rw [if_neg c, z32] at h
    omega
theorem WD_up {x y : Nat} {z : Int32} (hD : WD P D) (hP : P ≤ 9) (hx : x < P) (hy : y < P) (hz : 0 ≤ z.toInt ∧ z.toInt ≤ 99) : WD P (updc D (9 * x + y) z) := by
  refine ⟨fun q => ?_, fun a c ha hc hac => ?_⟩
  · unfold updc
    by_cases e : q = 9 * x + y
    · rw [if_pos e]; exact hz
    · rw [if_neg e]; exact hD.1 q
  · unfold updc
    rw [if_neg (by omega)]
    exact hD.2 a c ha hc hac
theorem WD_ad (hV : VW V) (hD : WD P D) (hP : P ≤ 9) (hE : ERg E m) (hn : 1 ≤ nn.toInt) (hf : fitS P V D E m nn) : WD P (adD E m nn m D) := by
  refine ⟨fun q => ?_, fun a c ha hc hac => ?_⟩
  · obtain ⟨z1, z2⟩ := adD_q (nn := nn) (D := D) hE m (Nat.le_refl _) q
    by_cases e : ∃ j, j < m ∧ q = eCl E m j
    · rw [z1 e]
      obtain ⟨j, hj, hq⟩ := e
      have l := E_lt hE hj
      rw [hq]
      exact rm_b hV hD l.1 l.2 (E_nn hE hj) hn (hf j hj).2.2
    · rw [z2 e]; exact hD.1 q
  · have z2 := (adD_q (nn := nn) (D := D) hE m (Nat.le_refl _) (9 * a + c)).2
    rw [z2]
    · exact hD.2 a c ha hc hac
    · rintro ⟨j, hj, hq⟩
      have l := hf j hj
      have l9 := E_lt hE hj
      unfold eCl at hq
      have l1 := l.1
      have l2 := l.2.1
      omega
theorem WR_cg (h : WRg P G k) (e : ∀ q, 10 * k ≤ q → q < 10 * k + 10 → G' q = G q) : WRg P G' k := by
  obtain ⟨h1, h2, h3, h4, h5, h6, h7, h8, h9⟩ := h
  have e0 := e (10 * k) (by omega) (by omega)
  have my : rMy G' k = rMy G k := by unfold rMy; rw [e0]
  have m6 : rMy G k ≤ 6 := by unfold rMy; omega
  refine ⟨by rw [e0]; exact h1, by rw [e0]; exact h2, by rw [e _ (by omega) (by omega)]; exact h3, by rw [e _ (by omega) (by omega)]; exact h4, by rw [e _ (by omega) (by omega)]; exact h5, by rw [e _ (by omega) (by omega)]; exact h6, by rw [e _ (by omega) (by omega)]; exact h7, fun i hi => ?_, fun i j hij hj => ?_⟩
  · rw [my] at hi
    rw [e _ (by omega) (by omega)]
    exact h8 i hi
  · rw [my] at hj
    unfold rWho
    rw [e _ (by omega) (by omega), e _ (by omega) (by omega)]
    exact h9 i j hij hj
/-- like states -/
def LK (P : Nat) (D G1 G2 : Nat → Int32) (N : Nat) : Prop := RG2 N G1 G2 ∧ WS P N (D, G1) ∧ WS P N (D, G2)
theorem LK_new {till : Int32} (hP : P ≤ 9) (hV : VW V) (hL : LK P D G1 G2 N) (hE : ERg E m) (hf : fitS P V D E m nn) (hn : 1 ≤ nn.toInt ∧ nn.toInt ≤ 99) (ht : 0 ≤ till.toInt ∧ till.toInt ≤ 99) : LK P (adD E m nn m D) (rgW E N m (rg4 N (Int32.ofNat m) nn till G1)) (rgW E N m (rg4 N (Int32.ofNat m) nn till G2)) (N + 1) := by
  obtain ⟨h1, h2, h3⟩ := hL
  have m6 := hE.2.1
  obtain ⟨a0, a1, a2, a3, a4, a5⟩ := new_q (N := N) (E := E) (nn := nn) (till := till) (G := G1) m6
  obtain ⟨b0, b1, b2, b3, b4, b5⟩ := new_q (N := N) (E := E) (nn := nn) (till := till) (G := G2) m6
  have wd := WD_ad hV h2.1 hP hE hn.1 hf
  have my : rMy (rgW E N m (rg4 N (Int32.ofNat m) nn till G1)) N = m := by unfold rMy; rw [a0, ofN_i (by omega)]; rfl
  refine ⟨fun k hk i hi => ?_, ⟨wd, fun k hk => ?_⟩, ⟨wd, fun k hk => ?_⟩⟩
  · by_cases e : k = N
    · subst e
      rw [my] at hi
      by_cases i4 : i < 4
      · have c : i = 0 ∨ i = 1 ∨ i = 2 ∨ i = 3 := by omega
        rcases c with rfl | rfl | rfl | rfl
        · rw [Nat.add_zero, a0, b0]
        · rw [a1, b1]
        · rw [a2, b2]
        · rw [a3, b3]
      · obtain ⟨j, rfl⟩ : ∃ j, i = 4 + j := ⟨i - 4, by omega⟩
        rw [show 10 * k + (4 + j) = 10 * k + 4 + j by omega, a4 j (by omega), b4 j (by omega)]
    · have e0 : rMy (rgW E N m (rg4 N (Int32.ofNat m) nn till G1)) k = rMy G1 k := by unfold rMy; rw [a5 _ (by omega)]
      rw [e0] at hi
      have m6' : rMy G1 k ≤ 6 := by have z6 : (G1 (10 * k)).toInt ≤ 6 := (h2.2 k (by omega)).2.1; unfold rMy; exact (by omega)
      rw [a5 _ (by omega), b5 _ (by omega)]
      exact h1 k (by omega) i hi
  · by_cases e : k = N
    · rw [e]; exact WR_new hE hf ⟨by omega, hn.2⟩ ht
    · exact WR_cg (h2.2 k (by omega)) (fun q h1 h2 => a5 q (by omega))
  · by_cases e : k = N
    · rw [e]; exact WR_new hE hf ⟨by omega, hn.2⟩ ht
    · exact WR_cg (h3.2 k (by omega)) (fun q h1 h2 => b5 q (by omega))
theorem LK_fl {c : (Nat → Int32) → Nat → Bool} (hP : P ≤ 9) (hL : LK P D G1 G2 N) (hc : ∀ G1 G2, RG2 N G1 G2 → ∀ k, k < N → c G2 k = c G1 k) : (flS c N (D, G2)).1 = (flS c N (D, G1)).1 ∧ LK P (flS c N (D, G1)).1 (flS c N (D, G1)).2 (flS c N (D, G2)).2 N := by
  obtain ⟨h1, h2, h3⟩ := hL
  obtain ⟨z1, z2⟩ := flS_RG hP h1 h2 hc N (Nat.le_refl _)
  have w1 := WS_flS (c := c) hP h2 N (Nat.le_refl _)
  have w2 := WS_flS (c := c) hP h3 N (Nat.le_refl _)
  exact ⟨z1, z2, w1, ⟨w1.1, w2.2⟩⟩
/-- the same act in like states: both can't be, or like states again -/
theorem ACT_2 (hP : P ≤ 9) (hV : VW V) (hA : VAc E) (hL : LK P D G1 G2 N) (h1 : ACT P V E D G1 M N o1) (h2 : ACT P V E D G2 M N o2) : (o1 = none ∧ o2 = none) ∨ ∃ (D' G1' G2' : Nat → Int32) (M' : Int32) (N' : Nat), o1 = some (D', G1', M', N') ∧ o2 = some (D', G2', M', N') ∧ LK P D' G1' G2' N' ∧ N' ≤ N + 1 ∧ (M' = M ∨ M' = M + 1) := by
  have ne : ∀ {c d : Int32} (z : Int32), z = c → z = d → c ≠ d → False := fun z h1 h2 h3 => h3 (h1.symm.trans h2)
  have hL' := hL
  obtain ⟨l1, l2, l3⟩ := hL
  rcases h1 with ⟨a0, x, y, a1, a2, a3⟩ | ⟨a0, x, y, a1, a2, a3⟩ | ⟨a0, m, a1, a3⟩ | ⟨a0, K, a1, a3⟩ | ⟨a0, m, a1, a3⟩ | ⟨a0, a3⟩
  · rcases h2 with ⟨b0, x', y', b1, b2, b3⟩ | ⟨b0, _⟩ | ⟨b0, _⟩ | ⟨b0, _⟩ | ⟨b0, _⟩ | ⟨b0, _⟩
    · have ex : x' = x := by omega
      have ey : y' = y := by omega
      subst ex
      subst ey
      rcases a3 with ⟨c1, c2, c3, c4⟩ | ⟨c1, c2⟩
      · rcases b3 with ⟨d1, d2, d3, d4⟩ | ⟨d1, d2⟩
        · refine Or.inr ⟨_, _, _, _, _, c4, d4, ?_, by omega, Or.inl rfl⟩
          rcases hA with ⟨_, v1, v2, v3, v4, v5, v6, v7⟩ | ⟨v0, _⟩ | ⟨v0, _⟩ | ⟨v0, _⟩ | v0
          · have wd := WD_up l2.1 hP c1 c2 (rm_b hV l2.1 (by omega) (by omega) (by omega) v6 c3)
            exact ⟨l1, ⟨wd, l2.2⟩, ⟨wd, l3.2⟩⟩
          · exact (ne _ a0 v0 (by decide +kernel)).elim
          · exact (ne _ a0 v0 (by decide +kernel)).elim
          · exact (ne _ a0 v0 (by decide +kernel)).elim
          · exact (ne _ a0 v0 (by decide +kernel)).elim
        · exact absurd ⟨c1, c2, c3⟩ d1
      · rcases b3 with ⟨d1, d2, d3, d4⟩ | ⟨d1, d2⟩
        · exact absurd ⟨d1, d2, d3⟩ c1
        · exact Or.inl ⟨c2, d2⟩
    · exact (ne _ a0 b0 (by decide +kernel)).elim
    · exact (ne _ a0 b0 (by decide +kernel)).elim
    · exact (ne _ a0 b0 (by decide +kernel)).elim
    · exact (ne _ a0 b0 (by decide +kernel)).elim
    · exact (ne _ a0 b0 (by decide +kernel)).elim
  · rcases h2 with ⟨b0, _⟩ | ⟨b0, x', y', b1, b2, b3⟩ | ⟨b0, _⟩ | ⟨b0, _⟩ | ⟨b0, _⟩ | ⟨b0, _⟩
    · exact (ne _ a0 b0 (by decide +kernel)).elim
    · have ex : x' = x := by omega
      have ey : y' = y := by omega
      subst ex
      subst ey
      rcases a3 with ⟨c1, c2, c3, c4⟩ | ⟨c1, c2⟩
      · rcases b3 with ⟨d1, d2, d3, d4⟩ | ⟨d1, d2⟩
        · refine Or.inr ⟨_, _, _, _, _, c4, d4, ?_, by omega, Or.inl rfl⟩
          rcases hA with ⟨_, v1, v2, v3, v4, v5, v6, v7⟩ | ⟨v0, _⟩ | ⟨v0, _⟩ | ⟨v0, _⟩ | v0
          · have d9 := l2.1.1 (9 * x' + y')
            have wd := WD_up (z := D (9 * x' + y') - E 3) l2.1 hP c1 c2 (by
              have d9 : 0 ≤ (D (9 * x' + y')).toInt ∧ (D (9 * x' + y')).toInt ≤ 99 := d9
              rw [show (D (9 * x' + y') - E 3).toInt = (D (9 * x' + y')).toInt - (E 3).toInt from zi_sub rfl rfl (by omega) (by omega)]
              omega)
            exact ⟨l1, ⟨wd, l2.2⟩, ⟨wd, l3.2⟩⟩
          · exact (ne _ a0 v0 (by decide +kernel)).elim
          · exact (ne _ a0 v0 (by decide +kernel)).elim
          · exact (ne _ a0 v0 (by decide +kernel)).elim
          · exact (ne _ a0 v0 (by decide +kernel)).elim
        · exact absurd ⟨c1, c2, c3⟩ d1
      · rcases b3 with ⟨d1, d2, d3, d4⟩ | ⟨d1, d2⟩
        · exact absurd ⟨d1, d2, d3⟩ c1
        · exact Or.inl ⟨c2, d2⟩
    · exact (ne _ a0 b0 (by decide +kernel)).elim
    · exact (ne _ a0 b0 (by decide +kernel)).elim
    · exact (ne _ a0 b0 (by decide +kernel)).elim
    · exact (ne _ a0 b0 (by decide +kernel)).elim
  · rcases h2 with ⟨b0, _⟩ | ⟨b0, _⟩ | ⟨b0, m', b1, b3⟩ | ⟨b0, _⟩ | ⟨b0, _⟩ | ⟨b0, _⟩
    · exact (ne _ a0 b0 (by decide +kernel)).elim
    · exact (ne _ a0 b0 (by decide +kernel)).elim
    · have em := ERg_m a1 b1
      subst em
      rcases a3 with ⟨c1, c4⟩ | ⟨c1, c2⟩
      · rcases b3 with ⟨d1, d4⟩ | ⟨d1, d2⟩
        · refine Or.inr ⟨_, _, _, _, _, c4, d4, ?_, by omega, Or.inl rfl⟩
          rcases hA with ⟨v0 | v0, _⟩ | ⟨_, v1, v2, v3, v4, _⟩ | ⟨v0, _⟩ | ⟨v0, _⟩ | v0
          · exact (ne _ a0 v0 (by decide +kernel)).elim
          · exact (ne _ a0 v0 (by decide +kernel)).elim
          · exact LK_new hP hV hL' a1 c1 ⟨v1, v2⟩ ⟨v3, v4⟩
          · exact (ne _ a0 v0 (by decide +kernel)).elim
          · exact (ne _ a0 v0 (by decide +kernel)).elim
          · exact (ne _ a0 v0 (by decide +kernel)).elim
        · exact absurd c1 d1
      · rcases b3 with ⟨d1, d4⟩ | ⟨d1, d2⟩
        · exact absurd d1 c1
        · exact Or.inl ⟨c2, d2⟩
    · exact (ne _ a0 b0 (by decide +kernel)).elim
    · exact (ne _ a0 b0 (by decide +kernel)).elim
    · exact (ne _ a0 b0 (by decide +kernel)).elim
  · rcases h2 with ⟨b0, _⟩ | ⟨b0, _⟩ | ⟨b0, _⟩ | ⟨b0, K', b1, b3⟩ | ⟨b0, _⟩ | ⟨b0, _⟩
    · exact (ne _ a0 b0 (by decide +kernel)).elim
    · exact (ne _ a0 b0 (by decide +kernel)).elim
    · exact (ne _ a0 b0 (by decide +kernel)).elim
    · have ex : K' = K := by omega
      subst ex
      rcases a3 with ⟨c1, c2, c4⟩ | ⟨c1, c2⟩
      · rcases b3 with ⟨d1, d2, d4⟩ | ⟨d1, d2⟩
        · have h1 : 1 ≤ rMy G1 K' := by have z6 : 2 ≤ (G1 (10 * K')).toInt := (l2.2 K' c1).1; unfold rMy; exact (by omega)
          have ed : (strk K' (D, G2)).1 = (strk K' (D, G1)).1 := by
            show stD G2 K' (rMy G2 K') D = stD G1 K' (rMy G1 K') D
            rw [RG2_my l1 c1, RG2_stD l1 c1 h1 _ (Nat.le_refl _)]
          rw [ed] at d4
          have w1 := WS_strk hP l2 c1
          have w2 := WS_strk hP l3 c1
          exact Or.inr ⟨_, _, _, _, _, c4, d4, ⟨RG2_stG l1, w1, ⟨w1.1, w2.2⟩⟩, by omega, Or.inl rfl⟩
        · exact absurd ⟨c1, by rw [opn_RG l1 c1]; exact c2⟩ d1
      · rcases b3 with ⟨d1, d2, d4⟩ | ⟨d1, d2⟩
        · exact absurd ⟨d1, by rw [← opn_RG l1 d1]; exact d2⟩ c1
        · exact Or.inl ⟨c2, d2⟩
    · exact (ne _ a0 b0 (by decide +kernel)).elim
    · exact (ne _ a0 b0 (by decide +kernel)).elim
  · rcases h2 with ⟨b0, _⟩ | ⟨b0, _⟩ | ⟨b0, _⟩ | ⟨b0, _⟩ | ⟨b0, m', b1, b3⟩ | ⟨b0, _⟩
    · exact (ne _ a0 b0 (by decide +kernel)).elim
    · exact (ne _ a0 b0 (by decide +kernel)).elim
    · exact (ne _ a0 b0 (by decide +kernel)).elim
    · exact (ne _ a0 b0 (by decide +kernel)).elim
    · have ex : m' = m := by omega
      subst ex
      rcases a3 with ⟨c1, c4⟩ | ⟨c1, c2⟩
      · rcases b3 with ⟨d1, d4⟩ | ⟨d1, d2⟩
        · obtain ⟨z1, z2, z3, z4⟩ := LK_fl (c := cF m') hP hL' (fun G1 G2 h k hk => cF_RG h hk)
          rw [z1] at d4
          have wz := WD_zrL (n := P) (m := m') (by omega) z3.1 hP
          exact Or.inr ⟨_, _, _, _, _, c4, d4, ⟨z2, ⟨wz, z3.2⟩, ⟨wz, z4.2⟩⟩, by omega, Or.inl rfl⟩
        · exact absurd c1 d1
      · rcases b3 with ⟨d1, d4⟩ | ⟨d1, d2⟩
        · exact absurd d1 c1
        · exact Or.inl ⟨c2, d2⟩
    · exact (ne _ a0 b0 (by decide +kernel)).elim
  · rcases h2 with ⟨b0, _⟩ | ⟨b0, _⟩ | ⟨b0, _⟩ | ⟨b0, _⟩ | ⟨b0, _⟩ | ⟨b0, b3⟩
    · exact (ne _ a0 b0 (by decide +kernel)).elim
    · exact (ne _ a0 b0 (by decide +kernel)).elim
    · exact (ne _ a0 b0 (by decide +kernel)).elim
    · exact (ne _ a0 b0 (by decide +kernel)).elim
    · exact (ne _ a0 b0 (by decide +kernel)).elim
    · obtain ⟨z1, z2⟩ := LK_fl (c := cM (M + 1)) hP hL' (fun G1 G2 h k hk => cM_RG h hk)
      rw [z1] at b3
      exact Or.inr ⟨_, _, _, _, _, a3, b3, z2, by omega, Or.inr rfl⟩
end HE
end
section
/-! ===== balances; lawful ===== -/
section HFB
variable {X : pm_X} {k k2 : Nat} {w0 w w1 w2 w' : pm_W} {r r2 : Option Value} {p p1 p2 p3 p4 p5 f0 p0 f q M nn sl : Int32} {n i v j m T L u a c N K P t s b Q x : Nat} {D D' G G1 G2 V E : Nat → Int32}
def blS (D : Nat → Int32) (x : Nat) : Nat → Int32
  | 0 => 0
  | i + 1 => blS D x i + (D (9 * x + i) - D (9 * i + x))
theorem blS_b (hD : ∀ q, 0 ≤ (D q).toInt ∧ (D q).toInt ≤ 99) : ∀ i : Nat, i ≤ 9 → -(99 * (i : Int)) ≤ (blS D x i).toInt ∧ (blS D x i).toInt ≤ 99 * (i : Int) := by
  intro i
  induction i with
  | zero => intro _; exact ⟨by show _ ≤ (0 : Int32).toInt; rw [z32]; omega, by show (0 : Int32).toInt ≤ _; rw [z32]; omega⟩
  | succ i ih =>
    intro hi
    obtain ⟨h1, h2⟩ := ih (by omega)
    have a1 := hD (9 * x + i)
    have a2 := hD (9 * i + x)
    have e : (blS D x (i + 1)).toInt = (blS D x i).toInt + ((D (9 * x + i)).toInt - (D (9 * i + x)).toInt) := zi_add rfl (zi_sub rfl rfl (by omega) (by omega)) (by omega) (by omega)
    rw [e]
    omega
def lwS (P : Nat) (sl : Int32) (D : Nat → Int32) : Prop := ∀ t, t < P → -sl.toInt ≤ (blS D t P).toInt ∧ (blS D t P).toInt ≤ sl.toInt
theorem F242_5 (hS : SK w) (hu : u ≤ 1) (hp : p1.toInt = (610 + 132 * u : Nat)) (hP : (al w (610 + 132 * u)).toInt = P) (hP9 : P ≤ 9) (h1 : p2.toInt = x) (hx : x < 9) : ∀ (k t : Nat) (i3 i4 : Int32), i4.toInt = t → t ≤ P → i3 = blS (dR w) x t → PS X k 242 5 [.ref 147, .int p1, .int p2, .int i3, .int i4] [] w r w' → r = some (.int (blS (dR w) x P)) ∧ w' = w := by
  intro k
  induction k with
  | zero => intro t i3 i4 _ _ _ h; exact (PS_0 h).elim
  | succ k ih =>
    intro t i3 i4 h4 ht h3 h
    obtain ⟨_, h⟩ := U242_5 hS h
    rw [aG_n hp] at h
    by_cases c : al w (610 + 132 * u) ≤ i4
    · have h := (if_pos c).symm ▸ h
      rw [Int32.le_iff_toInt_le, hP, h4] at c
      have e : t = P := by omega
      rw [← e]
      exact ⟨by rw [h.1, h3], h.2⟩
    · have h := (if_neg c).symm ▸ h
      rw [Int32.le_iff_toInt_le, hP, h4] at c
      have h := use_p hS h (fun _ _ y => F232n hS h1 h4 hx (by omega) y)
      have h := use_p hS h (fun _ _ y => F232n hS h4 h1 (by omega) hx y)
      exact ih (t + 1) _ (i4 + 1) (by rw [zi_inc (n := 10) (by omega) (by omega), h4]; rfl) (by omega) (by rw [h3]; rfl) h
theorem F242 (hS : SK w) (hu : u ≤ 1) (hp : p1.toInt = (610 + 132 * u : Nat)) (hP : (al w (610 + 132 * u)).toInt = P) (hP9 : P ≤ 9) (h1 : p2.toInt = x) (hx : x < 9) (h : PS X k 242 0 [.ref 147, .int p1, .int p2, pm_dead, pm_dead] [] w r w') : r = some (.int (blS (dR w) x P)) ∧ w' = w := by
  cases k with
  | zero => exact (PS_0 h).elim
  | succ k => exact F242_5 hS hu hp hP hP9 h1 hx k 0 0 0 z32 (Nat.zero_le _) rfl (U242_0 hS h)
theorem F241_4 (hS : SK w) (hu : u ≤ 1) (hp : p1.toInt = (610 + 132 * u : Nat)) (hP : (al w (610 + 132 * u)).toInt = P) (hP9 : P ≤ 9) (hs : (al w (612 + 132 * u)) = sl) (hsl : 0 ≤ sl.toInt ∧ sl.toInt ≤ 9) (hD : ∀ q, 0 ≤ (dR w q).toInt ∧ (dR w q).toInt ≤ 99) : ∀ (k t : Nat) (i2 i3 : Int32), i3.toInt = t → t ≤ P → ((i2 = 1 ∧ ∀ j, j < t → -sl.toInt ≤ (blS (dR w) j P).toInt ∧ (blS (dR w) j P).toInt ≤ sl.toInt) ∨ (i2 = 0 ∧ ¬ lwS P sl (dR w))) → PS X k 241 4 [.ref 147, .int p1, .int i2, .int i3] [] w r w' → w' = w ∧ ((lwS P sl (dR w) ∧ r = some (.int 1)) ∨ (¬ lwS P sl (dR w) ∧ r = some (.int 0))) := by
  intro k
  induction k with
  | zero => intro t i2 i3 _ _ _ h; exact (PS_0 h).elim
  | succ k ih =>
    intro t i2 i3 h3 ht hi h
    obtain ⟨_, h⟩ := U241_4 hS h
    have ei : (i3 + 1).toInt = (t + 1 : Nat) := by rw [zi_inc (n := 10) (by omega) (by omega), h3]; rfl
    rw [aG_n hp] at h
    by_cases c : al w (610 + 132 * u) ≤ i3
    · have h := (if_pos c).symm ▸ h
      rw [Int32.le_iff_toInt_le, hP, h3] at c
      have e : t = P := by omega
      rcases hi with ⟨z1, z2⟩ | ⟨z1, z2⟩
      · exact ⟨h.2, Or.inl ⟨fun j hj => z2 j (by omega), by rw [h.1, z1]⟩⟩
      · exact ⟨h.2, Or.inr ⟨z2, by rw [h.1, z1]⟩⟩
    · have h := (if_neg c).symm ▸ h
      rw [Int32.le_iff_toInt_le, hP, h3] at c
      rcases hi with ⟨z1, z2⟩ | ⟨z1, z2⟩
      · rw [z1, if_neg (by decide +kernel)] at h
        have h := use_p hS h (fun _ _ y => F242 hS hu hp hP hP9 h3 (by omega) y)
        obtain ⟨_, _, h⟩ := h
        have es : aG w 148 (p1 + 2) = sl := by
          rw [aG_n (m := 612 + 132 * u) (by rw [zi_add hp two32 (by omega) (by omega)]; omega)]
          exact hs
        rw [es] at h
        have h := use_p hS h (fun _ _ y => F199 hS y)
        have bb := blS_b (x := t) hD P hP9
        have en : (-sl).toInt = -sl.toInt := by
          rw [← Int32.zero_sub, zi_sub z32 rfl (by omega) (by omega)]
          omega
        have eb : isI (blS (dR w) t P) (-sl) sl = decide (-sl.toInt ≤ (blS (dR w) t P).toInt ∧ (blS (dR w) t P).toInt ≤ sl.toInt) := by
          unfold isI
          rw [en]
          by_cases y : -sl.toInt ≤ (blS (dR w) t P).toInt ∧ (blS (dR w) t P).toInt ≤ sl.toInt
          · rw [decide_eq_true y, decide_eq_true y.1, decide_eq_true y.2]; rfl
          · rw [decide_eq_false y]
            by_cases y1 : -sl.toInt ≤ (blS (dR w) t P).toInt
            · rw [decide_eq_true y1, decide_eq_false (fun y2 => y ⟨y1, y2⟩)]; rfl
            · rw [decide_eq_false y1]; rfl
        rw [eb] at h
        by_cases y : -sl.toInt ≤ (blS (dR w) t P).toInt ∧ (blS (dR w) t P).toInt ≤ sl.toInt
        · have h := ifb_t y h
          refine ih (t + 1) 1 (i3 + 1) ei (by omega) (Or.inl ⟨rfl, fun j hj => ?_⟩) h
          by_cases e : j = t
          · rw [e]; exact y
          · exact z2 j (by omega)
        · have h := ifb_f y h
          exact ih (t + 1) 0 (i3 + 1) ei (by omega) (Or.inr ⟨rfl, fun z => y (z t (by omega))⟩) h
      · rw [z1, if_pos rfl] at h
        exact ih (t + 1) 0 (i3 + 1) ei (by omega) (Or.inr ⟨rfl, z2⟩) h
theorem F241 (hS : SK w) (hu : u ≤ 1) (hp : p1.toInt = (610 + 132 * u : Nat)) (hP : (al w (610 + 132 * u)).toInt = P) (hP9 : P ≤ 9) (hs : (al w (612 + 132 * u)) = sl) (hsl : 0 ≤ sl.toInt ∧ sl.toInt ≤ 9) (hD : ∀ q, 0 ≤ (dR w q).toInt ∧ (dR w q).toInt ≤ 99) (h : PS X k 241 0 [.ref 147, .int p1, pm_dead, pm_dead] [] w r w') : w' = w ∧ ((lwS P sl (dR w) ∧ r = some (.int 1)) ∨ (¬ lwS P sl (dR w) ∧ r = some (.int 0))) := by
  cases k with
  | zero => exact (PS_0 h).elim
  | succ k => exact F241_4 hS hu hp hP hP9 hs hsl hD k 0 1 0 z32 (Nat.zero_le _) (Or.inl ⟨rfl, fun j hj => by omega⟩) (U241_0 hS h)
end HFB
end
section
/-! ===== acts one after another ===== -/
section HGC
variable {p1 p2 p3 x1 y1 M nn : Int32} {n i v j m N K P k t s b Q : Nat} {D D' G G' G1 G2 V V' E E' : Nat → Int32} {o o1 o2 : AO}
/-- an act's outcome asks the words and the act's nine cells alone -/
theorem rmI_cg {x y : Nat} (hV : ∀ q, q < 81 → V' (3 + q) = V (3 + q)) (hx : x < 9) (hy : y < 9) : rmI V' D x y = rmI V D x y := by
  unfold rmI
  rw [hV _ (by omega)]
theorem eWho_cg (hE : ∀ t, t < 9 → E' t = E t) (h : i < 6) : eWho E' i = eWho E i := by
  unfold eWho
  rw [hE _ (by omega)]
theorem eNx_cg (hE : ∀ t, t < 9 → E' t = E t) (hm : m ≤ 6) (h : i < 6) : eNx E' m i = eNx E m i := by
  unfold eNx
  refine eWho_cg hE ?_
  split <;> omega
theorem adD_cg (hE : ∀ t, t < 9 → E' t = E t) (hm : m ≤ 6) : ∀ i, i ≤ 6 → adD E' m nn i D = adD E m nn i D := by
  intro i
  induction i with
  | zero => intro _; rfl
  | succ i ih =>
    intro hi
    have e : eCl E' m i = eCl E m i := by
      unfold eCl
      rw [eWho_cg hE (by omega), eNx_cg hE hm (by omega)]
    show updc _ _ _ = updc _ _ _
    rw [ih (by omega), e]
theorem rgW_cg (hE : ∀ t, t < 9 → E' t = E t) : ∀ i, i ≤ 6 → rgW E' N i G = rgW E N i G := by
  intro i
  induction i with
  | zero => intro _; rfl
  | succ i ih =>
    intro hi
    show updc _ _ _ = updc _ _ _
    rw [ih (by omega), hE _ (by omega)]
theorem ERg_cg (hE : ∀ t, t < 9 → E' t = E t) (h : ERg E m) : ERg E' m := by
  obtain ⟨h1, h2, h3, h4, h5⟩ := h
  refine ⟨h1, h2, fun t ht => ?_, fun t s ht hs => ?_, fun t ht h6 => ?_⟩
  · rw [hE _ (by omega)]; exact h3 t ht
  · rw [hE _ (by omega), hE _ (by omega)]; exact h4 t s ht hs
  · rw [hE _ (by omega)]; exact h5 t ht h6
theorem fitS_cg (hV : ∀ q, q < 81 → V' (3 + q) = V (3 + q)) (hE : ∀ t, t < 9 → E' t = E t) (hP : P ≤ 9) (hm : m ≤ 6) : fitS P V' D E' m nn ↔ fitS P V D E m nn := by
  have g : ∀ i, i < m → (fitO P V' D E' m nn i ↔ fitO P V D E m nn i) := by
    intro i hi
    unfold fitO
    rw [eWho_cg hE (by omega), eNx_cg hE hm (by omega)]
    by_cases c : eWho E i < P ∧ eNx E m i < P
    · rw [rmI_cg hV (by omega) (by omega)]
    · exact ⟨fun z => absurd ⟨z.1, z.2.1⟩ c, fun z => absurd ⟨z.1, z.2.1⟩ c⟩
  exact ⟨fun z i hi => (g i hi).mp (z i hi), fun z i hi => (g i hi).mpr (z i hi)⟩
theorem ACT_cg (hV : ∀ q, q < 81 → V' (3 + q) = V (3 + q)) (hE : ∀ t, t < 9 → E' t = E t) (hP : P ≤ 9) (h : ACT P V E D G M N o) : ACT P V' E' D G M N o := by
  have e0 := hE 0 (by decide)
  have e1 := hE 1 (by decide)
  have e2 := hE 2 (by decide)
  have e3 := hE 3 (by decide)
  unfold ACT at h ⊢
  rw [e0, e1, e2, e3]
  rcases h with ⟨a0, x, y, hx, hy, h⟩ | h | ⟨a0, m, hm, h⟩ | h | h | h
  · refine Or.inl ⟨a0, x, y, hx, hy, ?_⟩
    by_cases c : x < P ∧ y < P
    · rw [rmI_cg hV (by omega) (by omega)]; exact h
    · rcases h with ⟨z1, z2, _⟩ | ⟨_, z⟩
      · exact absurd ⟨z1, z2⟩ c
      · exact Or.inr ⟨fun q => c ⟨q.1, q.2.1⟩, z⟩
  · exact Or.inr (Or.inl h)
  · refine Or.inr (Or.inr (Or.inl ⟨a0, m, ERg_cg hE hm, ?_⟩))
    have m6 := hm.2.1
    rw [fitS_cg hV hE hP m6, adD_cg hE m6 m m6, rgW_cg hE m m6]
    exact h
  · exact Or.inr (Or.inr (Or.inr (Or.inl h)))
  · exact Or.inr (Or.inr (Or.inr (Or.inr (Or.inl h))))
  · exact Or.inr (Or.inr (Or.inr (Or.inr (Or.inr h))))
abbrev SN : Type := (Nat → Int32) × (Nat → Int32) × Int32 × Nat
theorem AO_sn {t : SN} : (some t : AO) ≠ none := fun y => by cases y
def RN (P : Nat) (V : Nat → Int32) (Es : Nat → Nat → Int32) : Nat → SN → SN → Prop
  | 0, s, s' => s' = s
  | i + 1, s, s' => ∃ s1 : SN, RN P V Es i s s1 ∧ ACT P V (Es i) s1.1 s1.2.1 s1.2.2.1 s1.2.2.2 (some s')
variable {s1 s2 t1 t2 : SN} {Es Es' : Nat → Nat → Int32}
theorem WS_A (hP : P ≤ 9) (hV : VW V) (hA : VAc E) (hW : WS P N (D, G)) (h : ACT P V E D G M N (some t1)) : WS P t1.2.2.2 (t1.1, t1.2.1) ∧ t1.2.2.2 ≤ N + 1 := by
  have z := ACT_2 hP hV hA (show LK P D G G N from ⟨fun _ _ _ _ => rfl, hW, hW⟩) h h
  rcases z with ⟨z, _⟩ | ⟨D', G1', G2', M', N', e1, e2, l, n, m⟩
  · exact absurd z AO_sn
  · have e1 := Option.some.inj e1
    subst e1
    exact ⟨l.2.1, n⟩
theorem RN_W (hP : P ≤ 9) (hV : VW V) (hW : WS P s1.2.2.2 (s1.1, s1.2.1)) : ∀ (i : Nat) (t1 : SN), (∀ j, j < i → VAc (Es j)) → RN P V Es i s1 t1 → WS P t1.2.2.2 (t1.1, t1.2.1) ∧ t1.2.2.2 ≤ s1.2.2.2 + i := by
  intro i
  induction i with
  | zero => intro t1 _ h; have h : t1 = s1 := h; rw [h]; exact ⟨hW, Nat.le_refl _⟩
  | succ i ih =>
    intro t1 hA h
    obtain ⟨s3, h1, h2⟩ := h
    obtain ⟨a1, a2⟩ := ih s3 (fun j hj => hA j (by omega)) h1
    obtain ⟨b1, b2⟩ := WS_A hP hV (hA i (by omega)) a1 h2
    exact ⟨b1, by omega⟩
/-- like states -/
def LSt (P : Nat) (s1 s2 : SN) : Prop := s2.1 = s1.1 ∧ s2.2.2.1 = s1.2.2.1 ∧ s2.2.2.2 = s1.2.2.2 ∧ LK P s1.1 s1.2.1 s2.2.1 s1.2.2.2
theorem ACT_LS (hP : P ≤ 9) (hV : VW V) (hA : VAc E) (hL : LSt P s1 s2) (h1 : ACT P V E s1.1 s1.2.1 s1.2.2.1 s1.2.2.2 o1) (h2 : ACT P V E s2.1 s2.2.1 s2.2.2.1 s2.2.2.2 o2) : (o1 = none ∧ o2 = none) ∨ ∃ t1 t2 : SN, o1 = some t1 ∧ o2 = some t2 ∧ LSt P t1 t2 := by
  obtain ⟨l1, l2, l3, l4⟩ := hL
  rw [l1, l2, l3] at h2
  rcases ACT_2 hP hV hA l4 h1 h2 with ⟨z1, z2⟩ | ⟨D', G1', G2', M', N', e1, e2, l, n, m⟩
  · exact Or.inl ⟨z1, z2⟩
  · exact Or.inr ⟨_, _, e1, e2, rfl, rfl, rfl, l⟩
theorem RN_2 (hP : P ≤ 9) (hV : VW V) (hL : LSt P s1 s2) : ∀ (i : Nat) (t1 t2 : SN), (∀ j, j < i → VAc (Es j)) → RN P V Es i s1 t1 → RN P V Es i s2 t2 → LSt P t1 t2 := by
  intro i
  induction i with
  | zero => intro t1 t2 _ h1 h2; have h1 : t1 = s1 := h1; have h2 : t2 = s2 := h2; rw [h1, h2]; exact hL
  | succ i ih =>
    intro t1 t2 hA h1 h2
    obtain ⟨s3, a1, a2⟩ := h1
    obtain ⟨s4, b1, b2⟩ := h2
    have l := ih s3 s4 (fun j hj => hA j (by omega)) a1 b1
    rcases ACT_LS hP hV (hA i (by omega)) l a2 b2 with ⟨z, _⟩ | ⟨t3, t4, e1, e2, l⟩
    · exact absurd z AO_sn
    · have e1 := Option.some.inj e1
      have e2 := Option.some.inj e2
      rw [e1, e2]
      exact l
theorem RN_pre : ∀ (i : Nat) (t1 : SN), RN P V Es i s1 t1 → j ≤ i → ∃ t2, RN P V Es j s1 t2 := by
  intro i
  induction i with
  | zero => intro t1 h hj; have e : j = 0 := by omega
            rw [e]; exact ⟨t1, h⟩
  | succ i ih =>
    intro t1 h hj
    by_cases e : j = i + 1
    · rw [e]; exact ⟨t1, h⟩
    · obtain ⟨s3, h1, _⟩ := h
      exact ih s3 h1 (by omega)
theorem RN_cg (hV : ∀ q, q < 81 → V' (3 + q) = V (3 + q)) (hP : P ≤ 9) : ∀ (i : Nat) (t1 : SN), (∀ j, j < i → ∀ t, t < 9 → Es' j t = Es j t) → RN P V Es i s1 t1 → RN P V' Es' i s1 t1 := by
  intro i
  induction i with
  | zero => intro t1 _ h; exact h
  | succ i ih =>
    intro t1 hE h
    obtain ⟨s3, h1, h2⟩ := h
    exact ⟨s3, ih s3 (fun j hj => hE j (by omega)) h1, ACT_cg hV (hE i (by omega)) hP h2⟩
end HGC
end
section
/-! ===== a row's acts played: the class's load, the reference's runs ===== -/
section HHL
variable {X : pm_X} {k k2 : Nat} {w0 w w1 w2 w' : pm_W} {r r2 : Option Value} {p p1 p2 p3 p4 p5 i1 i2 i3 sl : Int32} {n i v j m u a P t s b Q x rr len o4 : Nat} {V : Nat → Int32} {Es : Nat → Nat → Int32} {s0 s1 s2 : SN}
theorem F74 (hS : SK w) (h : PS X k 74 0 [.ref 33, .ref v] [] w r w') : r = none ∧ FM [(33, 0), (33, 1), (33, 2)] [39] w w' ∧ gR w' 33 0 = v ∧ gI w' 33 1 = 0 ∧ gI w' 33 2 = 0 ∧ dA w' 33 = fun _ => 0 := by
  cases k with
  | zero => exact (PS_0 h).elim
  | succ k =>
    have h := U74_0 hS h _ rfl _ rfl _ rfl
    have ok : okS 33 = true := by decide +kernel
    have S1 : SK (sR w 33 0 v) := SK_sR hS
    have S2 : SK (sI (sR w 33 0 v) 33 1 0) := SK_sI S1
    have S3 : SK (sI (sI (sR w 33 0 v) 33 1 0) 33 2 0) := SK_sI S2
    obtain ⟨r3, _, _, _, _, a6, _, _, l6, _⟩ := okS_r S3 ok
    obtain ⟨_, _, _, f1, _, _, _, _, _, _⟩ := okS_r S1 ok
    obtain ⟨_, _, _, _, f2, _, _, _, _, _⟩ := okS_r S2 ok
    have z0 : sk_rf 33 0 = true := (okS_r hS ok).2.2.2.2.2.2.2.2.2.2.2
    have fm : FM [(33, 0), (33, 1), (33, 2)] [39] w (sI (sI (sR w 33 0 v) 33 1 0) 33 2 0) := FM_trans (FM_sR hS z0 (by simp)) (FM_trans (FM_sI S1 (by simp)) (FM_sI S2 (by simp)))
    rw [r3] at h
    obtain ⟨w5, S5, ⟨g1, g2, g3⟩, h⟩ := use_v (D := fun w5 => FM [] [39] (sI (sI (sR w 33 0 v) 33 1 0) 33 2 0) w5 ∧ (gA w5 39).length = 81 ∧ ∀ q, q < 81 → (gA w5 39).getD q 0 = 0) h (fun r1 w2 z => by
      obtain ⟨b1, b2, b3, b4⟩ := F20 S3 a6 (by rw [l6]; decide) z
      rw [l6] at b3 b4
      exact ⟨b1, b2.2.2.2, b2, b3, b4⟩)
    obtain ⟨h1, h2⟩ := h
    subst h2
    refine ⟨h1, FM_trans fm (FM_mono g1 (by simp) (by simp)), ?_, ?_, ?_, ?_⟩
    · rw [FM_r g1 (by simp)]
      rw [FM_r (fs := [(33, 1), (33, 2)]) (as := []) (FM_trans (FM_sI S1 (by simp)) (FM_sI S2 (by simp))) (by simp), gR_sR hS z0]
    · rw [FM_i g1 (by simp), gI_sI_ne (by omega), gI_sI f1]
    · rw [FM_i g1 (by simp), gI_sI f2]
    · funext q
      show (gA w' 39).getD q 0 = 0
      by_cases c : q < 81
      · exact g3 q c
      · rw [List.getD_eq_getElem?_getD, List.getElem?_eq_none (by omega)]; rfl
theorem F98_74 (hb : b + 1 < 33) (okr : okR b = true) (okv : okV v = true) (hva : v + 4 < 33) (hP9 : P ≤ 9) (hV : VW (vcl w0 v)) (hn : n ≤ 30) (hA : ∀ j, j < n → VAc (eR w0 b j)) (hW : WS P s0.2.2.2 (s0.1, s0.2.1)) (hN0 : s0.2.2.2 = 0) (h3 : i3.toInt = n) : ∀ (k t : Nat) (w : pm_W) (i6 : Int32) (s : SN), FM [(33, 1), (33, 2)] [39, 40, 41] w0 w → SK w0 → i6.toInt = t → t ≤ n → RN P (vcl w0 v) (eR w0 b) t s0 s → CSt w 33 v P s.1 s.2.1 s.2.2.1 s.2.2.2 → PS X k 98 74 [.ref 0, .int i1, .int i2, .int i3, .ref o4, .ref b, .int i6] [] w r w' → FM [(33, 1), (33, 2)] [39, 40, 41] w0 w' ∧ ((∃ s' : SN, RN P (vcl w0 v) (eR w0 b) n s0 s' ∧ r = some (.int 1) ∧ CSt w' 33 v P s'.1 s'.2.1 s'.2.2.1 s'.2.2.2) ∨ (∃ (j : Nat) (s' : SN), j < n ∧ RN P (vcl w0 v) (eR w0 b) j s0 s' ∧ ACT P (vcl w0 v) (eR w0 b j) s'.1 s'.2.1 s'.2.2.1 s'.2.2.2 none ∧ r = some (.int 0))) := by
  intro k
  induction k with
  | zero => intro t w i6 s _ _ _ _ _ _ h; exact (PS_0 h).elim
  | succ k ih =>
    intro t w i6 s fm hS0 h6 ht hRN hC h
    have hS : SK w := fm.2.2.2
    have h := U98_74 hS h
    by_cases c : i3 ≤ i6
    · rw [if_pos c] at h
      rw [Int32.le_iff_toInt_le, h3, h6] at c
      have e : t = n := by omega
      subst e
      rw [h.2]
      exact ⟨fm, Or.inl ⟨s, hRN, h.1, hC⟩⟩
    · rw [if_neg c] at h
      rw [Int32.le_iff_toInt_le, h3, h6] at c
      obtain ⟨q1, w2, z, h⟩ := h
      have ev : vcl w v = vcl w0 v := by
        funext q
        exact vcl_FMv hS0 fm okv (by simp <;> omega) (by simp <;> omega) (by simp <;> omega) (by simp <;> omega) (by simp <;> omega) (by simp <;> omega) (by simp <;> omega) q
      have ee : eR w b t = eR w0 b t := by
        funext q
        unfold eR
        rw [FM_a fm (by simp <;> omega)]
      obtain ⟨a1, a2⟩ := RN_W hP9 hV hW t s (fun j hj => hA j (by omega)) hRN
      obtain ⟨f2, o, act, alt⟩ := F75 hS (by decide +kernel) okr hb okv hva hC hP9 (by omega) a1 h6 (by omega) (by rw [ee]; exact hA t (by omega)) z
      rw [ev, ee] at act
      have fm2 : FM [(33, 1), (33, 2)] [39, 40, 41] w0 w2 := FM_trans fm (FM_mono f2 (by decide) (by decide))
      rcases alt with ⟨o0, q0⟩ | ⟨D', G', M', N', o1, q1', hC'⟩
      · have h := h _ q0 f2.2.2.2
        rw [if_pos rfl] at h
        rw [h.2]
        exact ⟨fm2, Or.inr ⟨t, s, by omega, hRN, by rw [← o0]; exact act, h.1⟩⟩
      · have h := h _ q1' f2.2.2.2
        rw [if_neg (by decide +kernel)] at h
        exact ih (t + 1) w2 (i6 + 1) (D', G', M', N') fm2 hS0 (by rw [zi_inc (n := 40) (by omega) (by omega), h6]; rfl) (by omega) ⟨s, hRN, by rw [← o1]; exact act⟩ hC' h
/-- from when on a run is unlawful -/
def HT (P : Nat) (V : Nat → Int32) (Es : Nat → Nat → Int32) (sl : Int32) (s0 : SN) (t : Nat) (h : Int32) : Prop := (h = -1 ∧ ∀ j, j < t → ∃ s' : SN, RN P V Es (j + 1) s0 s' ∧ lwS P sl s'.1) ∨ ∃ j, j < t ∧ h.toInt = j ∧ (∃ s' : SN, RN P V Es (j + 1) s0 s' ∧ ¬ lwS P sl s'.1) ∧ ∀ i, i < j → ∃ s' : SN, RN P V Es (i + 1) s0 s' ∧ lwS P sl s'.1
theorem L228 (hu : u ≤ 1) (hp : i1.toInt = (610 + 132 * u : Nat)) (hP : (al w0 (610 + 132 * u)).toInt = P) (hP9 : P ≤ 9) (hs : al w0 (612 + 132 * u) = sl) (hsl : 0 ≤ sl.toInt ∧ sl.toInt ≤ 9) (hr : i2.toInt = rr) (hr2 : rr ≤ 2) (hlen : (al w0 (874 + 272 * rr)).toInt = len) (hl30 : len ≤ 30) (hV : VW (fun k => al w0 (610 + 132 * u + k))) (hA : ∀ j, j < len → VAc (eL w0 (874 + 272 * rr + 1 + 9 * j))) (hW : WS P s0.2.2.2 (s0.1, s0.2.1)) (hN0 : s0.2.2.2 = 0) (h3 : i3.toInt = n) : ∀ (k t : Nat) (w : pm_W) (i4 : Int32) (s : SN), FM [(147, 14), (147, 15), (147, 16)] [152, 153] w0 w → i4.toInt = t → t ≤ n → t ≤ len → RN P (fun k => al w0 (610 + 132 * u + k)) (fun j => eL w0 (874 + 272 * rr + 1 + 9 * j)) t s0 s → RSt w s.1 s.2.1 s.2.2.1 s.2.2.2 → HT P (fun k => al w0 (610 + 132 * u + k)) (fun j => eL w0 (874 + 272 * rr + 1 + 9 * j)) sl s0 t (gI w 147 16) → PS X k 228 12 [.ref 147, .int i1, .int i2, .int i3, .int i4] [] w r w' → FM [(147, 14), (147, 15), (147, 16)] [152, 153] w0 w' ∧ ∃ (t : Nat) (s : SN) (z : Int32), z.toInt = t ∧ r = some (.int z) ∧ RN P (fun k => al w0 (610 + 132 * u + k)) (fun j => eL w0 (874 + 272 * rr + 1 + 9 * j)) t s0 s ∧ HT P (fun k => al w0 (610 + 132 * u + k)) (fun j => eL w0 (874 + 272 * rr + 1 + 9 * j)) sl s0 t (gI w' 147 16) ∧ (((t = n ∨ t = len) ∧ t ≤ n ∧ t ≤ len ∧ RSt w' s.1 s.2.1 s.2.2.1 s.2.2.2) ∨ (t < n ∧ t < len ∧ ACT P (fun k => al w0 (610 + 132 * u + k)) (eL w0 (874 + 272 * rr + 1 + 9 * t)) s.1 s.2.1 s.2.2.1 s.2.2.2 none)) := by
  intro k
  induction k with
  | zero => intro t w i4 s _ _ _ _ _ _ _ h; exact (PS_0 h).elim
  | succ k ih =>
    intro t w i4 s fm h4 ht htl hRN hR hH h
    have hS : SK w := fm.2.2.2
    have eal : ∀ q, al w q = al w0 q := fun q => by unfold al; rw [FM_a fm (by simp)]
    have h := U228_12 hS h
    by_cases c : i3 ≤ i4
    · rw [if_pos c] at h
      rw [Int32.le_iff_toInt_le, h3, h4] at c
      rw [h.2]
      exact ⟨fm, t, s, i4, h4, h.1, hRN, hH, Or.inl ⟨Or.inl (by omega), ht, htl, hR⟩⟩
    · rw [if_neg c] at h
      rw [Int32.le_iff_toInt_le, h3, h4] at c
      have h := use_p hS h (fun _ _ y => F217r hS y)
      obtain ⟨_, h⟩ := h
      have er := plR hr hr2
      rw [aG_n (m := 874 + 272 * rr) er] at h
      have e0 : (gA w 148).getD (874 + 272 * rr) 0 = al w0 (874 + 272 * rr) := eal _
      rw [e0] at h
      by_cases c2 : al w0 (874 + 272 * rr) ≤ i4
      · rw [if_pos c2] at h
        rw [Int32.le_iff_toInt_le, hlen, h4] at c2
        rw [h.2]
        exact ⟨fm, t, s, i4, h4, h.1, hRN, hH, Or.inl ⟨Or.inr (by omega), ht, htl, hR⟩⟩
      · rw [if_neg c2] at h
        rw [Int32.le_iff_toInt_le, hlen, h4] at c2
        have h := use_p hS h (fun _ _ y => F217r hS y)
        obtain ⟨q1, w8, z, h⟩ := h
        obtain ⟨a1, a2⟩ := RN_W hP9 hV hW t s (fun j hj => hA j (by omega)) hRN
        have eV : (fun k => al w (610 + 132 * u + k)) = fun k => al w0 (610 + 132 * u + k) := by funext q; exact eal _
        have eE : eL w (874 + 272 * rr + 1 + 9 * t) = eL w0 (874 + 272 * rr + 1 + 9 * t) := by funext q; exact eal _
        obtain ⟨f2, o, act, alt⟩ := F230 (Q := 874 + 272 * rr + 1 + 9 * t) hS hu hp (by rw [eal]; exact hP) hP9 (by rw [zi_add (zi_add er o32 (by omega) (by omega)) (zi_mul nine32 h4 (by omega) (by omega)) (by omega) (by omega)]; omega) (by omega) hR (by omega) a1 (by rw [eE]; exact hA t (by omega)) z
        rw [eV, eE] at act
        have fm2 : FM [(147, 14), (147, 15), (147, 16)] [152, 153] w0 w8 := FM_trans fm (FM_mono f2 (by decide) (by decide))
        have e16 : gI w8 147 16 = gI w 147 16 := FM_i f2 (by decide)
        rcases alt with ⟨o0, q0⟩ | ⟨D', G', M', N', o1, q1', hR'⟩
        · have h := h _ q0 f2.2.2.2
          rw [if_pos rfl] at h
          rw [h.2]
          exact ⟨fm2, t, s, i4, h4, h.1, hRN, by rw [e16]; exact hH, Or.inr ⟨by omega, by omega, by rw [← o0]; exact act⟩⟩
        · have h := h _ q1' f2.2.2.2
          rw [if_neg (by decide +kernel)] at h
          have hRN' : RN P (fun k => al w0 (610 + 132 * u + k)) (fun j => eL w0 (874 + 272 * rr + 1 + 9 * j)) (t + 1) s0 (D', G', M', N') := ⟨s, hRN, by rw [← o1]; exact act⟩
          have i41 : (i4 + 1).toInt = (t + 1 : Nat) := by rw [zi_inc (n := 40) (by omega) (by omega), h4]; rfl
          by_cases c3 : 0 ≤ gI w8 147 16
          · rw [if_pos c3] at h
            rw [Int32.le_iff_toInt_le, z32, e16] at c3
            refine ih (t + 1) w8 (i4 + 1) (D', G', M', N') fm2 i41 (by omega) (by omega) hRN' hR' ?_ h
            rw [e16]
            rcases hH with ⟨y1, _⟩ | ⟨j, y1, y2, y3, y4⟩
            · rw [y1] at c3; exact absurd c3 (by decide +kernel)
            · exact Or.inr ⟨j, by omega, y2, y3, y4⟩
          · rw [if_neg c3] at h
            rw [Int32.le_iff_toInt_le, z32, e16] at c3
            have hH' : gI w 147 16 = -1 ∧ ∀ j, j < t → ∃ s' : SN, RN P (fun k => al w0 (610 + 132 * u + k)) (fun j => eL w0 (874 + 272 * rr + 1 + 9 * j)) (j + 1) s0 s' ∧ lwS P sl s'.1 := by
              rcases hH with y | ⟨j, y1, y2, y3, y4⟩
              · exact y
              · omega
            obtain ⟨q2, w11, z2, hq⟩ := h
            have S8 : SK w8 := f2.2.2.2
            have eal8 : ∀ q, al w8 q = al w0 q := fun q => by unfold al; rw [FM_a fm2 (by simp)]
            obtain ⟨b1, b2⟩ := RN_W hP9 hV hW (t + 1) _ (fun j hj => hA j (by omega)) hRN'
            have hd : dR w8 = D' := hR'.1
            obtain ⟨ew, alt⟩ := F241 S8 hu hp (by rw [eal8]; exact hP) hP9 (by rw [eal8]; exact hs) hsl (by rw [hd]; exact b1.1.1) z2
            subst ew
            rw [hd] at alt
            rcases alt with ⟨y1, y2⟩ | ⟨y1, y2⟩
            · have h := hq _ y2 S8
              rw [if_neg (by decide +kernel)] at h
              refine ih (t + 1) _ (i4 + 1) (D', G', M', N') fm2 i41 (by omega) (by omega) hRN' hR' ?_ h
              rw [e16]
              refine Or.inl ⟨hH'.1, fun j hj => ?_⟩
              by_cases e : j = t
              · rw [e]; exact ⟨_, hRN', y1⟩
              · exact hH'.2 j (by omega)
            · have h := hq _ y2 S8
              rw [if_pos rfl] at h
              have h := h _ rfl
              have F16 : isF w11 147 16 := SK_isF S8 (by decide +kernel)
              refine ih (t + 1) _ (i4 + 1) (D', G', M', N') (FM_trans fm2 (FM_sI S8 (by simp))) i41 (by omega) (by omega) hRN' ?_ ?_ h
              · obtain ⟨x1, x2, x3, x4⟩ := hR'
                refine ⟨?_, ?_, ?_, ?_⟩
                · rw [← x1]; funext q; unfold dR; rw [gA_sI]
                · rw [← x2]; funext q; unfold gRr; rw [gA_sI]
                · rw [gI_sI_ne (by omega)]; exact x3
                · rw [gI_sI_ne (by omega)]; exact x4
              · rw [gI_sI F16]
                exact Or.inr ⟨t, by omega, h4, ⟨_, hRN', y1⟩, fun i hi => hH'.2 i hi⟩
end HHL
end
section
/-! ===== what is behind n acts of a row in a village: the class's load, one description ===== -/
section HIS
variable {X : pm_X} {k k2 : Nat} {w0 w w1 w2 w' : pm_W} {r r2 : Option Value} {p p1 p2 p3 p4 p5 i1 i2 i3 sl : Int32} {n i v j m u u2 P t s b Q x rr len : Nat} {a V G G1 G2 : Nat → Int32} {Es : Nat → Nat → Int32} {s0 s1 s2 : SN}
def s00 (G : Nat → Int32) : SN := (fun _ => 0, G, 0, 0)
def Pof (a : Nat → Int32) (u : Nat) : Nat := (a (610 + 132 * u)).toInt.toNat
def Vof (a : Nat → Int32) (u : Nat) : Nat → Int32 := fun k => a (610 + 132 * u + k)
def Eof (a : Nat → Int32) (rr : Nat) : Nat → Nat → Int32 := fun j t => a (874 + 272 * rr + 1 + 9 * j + t)
def RL3 (w : pm_W) : Prop := RL2 w ∧ VAa (al w)
theorem WS_00 : WS P 0 ((s00 G).1, (s00 G).2.1) := ⟨⟨fun _ => by show 0 ≤ (0 : Int32).toInt ∧ (0 : Int32).toInt ≤ 99; rw [z32]; omega, fun _ _ _ _ _ => rfl⟩, fun k hk => absurd hk (Nat.not_lt_zero k)⟩
theorem LSt_00 : LSt P (s00 G1) (s00 G2) := ⟨rfl, rfl, rfl, fun k hk => absurd hk (Nat.not_lt_zero k), WS_00 (G := G1), WS_00 (G := G2)⟩
/-- loaded: the state s, in the village u -/
def LDR (a : Nat → Int32) (p1 p2 p3 : Int32) (G : Nat → Int32) (u : Nat) (s : SN) : Prop := p1.toInt = u ∧ u < (a 0).toInt.toNat ∧ ((p2 = -1 ∧ p3 = 0 ∧ s = s00 G) ∨ (p2 ≠ -1 ∧ ∃ rr n : Nat, p2.toInt = rr ∧ rr < (a 1).toInt.toNat ∧ p3.toInt = n ∧ n ≤ (a (874 + 272 * rr)).toInt.toNat ∧ RN (Pof a u) (Vof a u) (Eof a rr) n (s00 G) s))
/-- not loaded -/
def LDN (a : Nat → Int32) (p1 p2 p3 : Int32) (G : Nat → Int32) : Prop := (¬ ∃ u : Nat, p1.toInt = u ∧ u < (a 0).toInt.toNat) ∨ (p2 = -1 ∧ p3 ≠ 0) ∨ (p2 ≠ -1 ∧ ((¬ ∃ rr : Nat, p2.toInt = rr ∧ rr < (a 1).toInt.toNat) ∨ p3.toInt < 0 ∨ ∃ rr : Nat, p2.toInt = rr ∧ rr < (a 1).toInt.toNat ∧ (((a (874 + 272 * rr)).toInt.toNat : Int) < p3.toInt ∨ ∃ (u j : Nat) (s : SN), p1.toInt = u ∧ u < (a 0).toInt.toNat ∧ (j : Int) < p3.toInt ∧ j < (a (874 + 272 * rr)).toInt.toNat ∧ RN (Pof a u) (Vof a u) (Eof a rr) j (s00 G) s ∧ ACT (Pof a u) (Vof a u) (Eof a rr j) s.1 s.2.1 s.2.2.1 s.2.2.2 none)))
theorem VA_v (h : VAa a) (hu : u < (a 0).toInt.toNat) : Pof a u ≤ 9 ∧ 2 ≤ Pof a u ∧ (a (610 + 132 * u)).toInt = Pof a u ∧ VW (Vof a u) ∧ (0 ≤ (a (612 + 132 * u)).toInt ∧ (a (612 + 132 * u)).toInt ≤ 9) := by
  obtain ⟨g, _, ⟨c1, c2⟩, _, ⟨c3, c4⟩, c5, _⟩ := h.1 u hu
  have c1 : 2 ≤ (a (610 + 132 * u)).toInt := c1
  have c2 : (a (610 + 132 * u)).toInt ≤ 9 := c2
  have c3 : 0 ≤ (a (610 + 132 * u + 2)).toInt := c3
  have c4 : (a (610 + 132 * u + 2)).toInt ≤ 9 := c4
  rw [show 610 + 132 * u + 2 = 612 + 132 * u by omega] at c3 c4
  unfold Pof
  exact ⟨by omega, by omega, by omega, c5, c3, c4⟩
theorem VA_e (h : VAa a) (hr : rr < (a 1).toInt.toNat) (hj : j < (a (874 + 272 * rr)).toInt.toNat) : VAc (Eof a rr j) := by
  refine VAc_cg (h.2 rr hr j hj) (fun t _ => ?_)
  show a _ = a _
  rw [show 874 + 272 * rr + (1 + 9 * j + t) = 874 + 272 * rr + 1 + 9 * j + t by omega]
/-- what is loaded on one side is loaded on the other, alike -/
theorem LDR_2 (hV : VAa a) (h1 : LDR a p1 p2 p3 G1 u s1) (h2 : LDR a p1 p2 p3 G2 u2 s2) : u2 = u ∧ LSt (Pof a u) s1 s2 := by
  obtain ⟨a1, a2, a3⟩ := h1
  obtain ⟨b1, b2, b3⟩ := h2
  have e : u2 = u := by omega
  subst e
  refine ⟨rfl, ?_⟩
  obtain ⟨v1, _, _, v2, _⟩ := VA_v hV a2
  rcases a3 with ⟨c1, c2, c3⟩ | ⟨c1, rr, n, c2, c3, c4, c5, c6⟩
  · rcases b3 with ⟨_, _, d3⟩ | ⟨d1, _⟩
    · rw [c3, d3]; exact LSt_00
    · exact absurd c1 d1
  · rcases b3 with ⟨d1, _⟩ | ⟨_, rr2, n2, d2, d3, d4, d5, d6⟩
    · exact absurd d1 c1
    · have e1 : rr2 = rr := by omega
      have e2 : n2 = n := by omega
      subst e1
      subst e2
      exact RN_2 v1 v2 LSt_00 n2 s1 s2 (fun j hj => VA_e hV c3 (by omega)) c6 d6
theorem LD_no (hV : VAa a) (h1 : LDR a p1 p2 p3 G1 u s1) (h2 : LDN a p1 p2 p3 G2) : False := by
  obtain ⟨a1, a2, a3⟩ := h1
  obtain ⟨v1, _, _, v2, _⟩ := VA_v hV a2
  rcases h2 with b | ⟨b1, b2⟩ | ⟨b1, b2⟩
  · exact b ⟨u, a1, a2⟩
  · rcases a3 with ⟨_, c2, _⟩ | ⟨c1, _⟩
    · exact b2 c2
    · exact c1 b1
  · rcases a3 with ⟨c1, _⟩ | ⟨_, rr, n, c2, c3, c4, c5, c6⟩
    · exact b1 c1
    · rcases b2 with d | d | ⟨rr2, d1, d2, d3⟩
      · exact d ⟨rr, c2, c3⟩
      · omega
      · have e1 : rr2 = rr := by omega
        subst e1
        rcases d3 with d | ⟨u2, j, s, d4, d5, d6, d7, d8, d9⟩
        · omega
        · have e2 : u2 = u := by omega
          subst e2
          obtain ⟨t3, s3, x1, x2⟩ := RN_pre (j := j + 1) n s1 c6 (by omega)
          have l := RN_2 v1 v2 (LSt_00 (G1 := G2) (G2 := G1)) j s s3 (fun q hq => VA_e hV c3 (by omega)) d8 x1
          rcases ACT_LS v1 v2 (VA_e hV c3 (by omega)) l d9 x2 with ⟨_, z⟩ | ⟨t3, t4, e1, e2, l⟩
          · exact absurd z AO_sn
          · exact absurd e1.symm AO_sn
/-- the class's load -/
theorem F98 (h3 : RL3 w) (h : PS X k 98 0 [.ref 0, .int p1, .int p2, .int p3, pm_dead, pm_dead, pm_dead] [] w r w') : FM [(33, 0), (33, 1), (33, 2)] [39, 40, 41] w w' ∧ ((∃ (u : Nat) (s : SN), r = some (.int 1) ∧ LDR (al w) p1 p2 p3 (gAr w 33) u s ∧ CSt w' 33 (5 + 5 * u) (Pof (al w) u) s.1 s.2.1 s.2.2.1 s.2.2.2) ∨ (r = some (.int 0) ∧ LDN (al w) p1 p2 p3 (gAr w 33))) := by
  obtain ⟨⟨hS, hT, hI⟩, hV⟩ := h3
  have hT' := hT
  obtain ⟨⟨r1, r2, r3, r4, _, _, r7⟩, t1, t2, _, _, _, _, _, t8⟩ := hT
  cases k with
  | zero => exact (PS_0 h).elim
  | succ k =>
    obtain ⟨q1, w2, z, hn, hr⟩ := U98_0 hS h
    obtain ⟨e2, z⟩ := F60 (V := (al w 0).toInt.toNat) hS (by rw [t1]; omega) (by omega) z
    subst e2
    rcases z with ⟨z1, z2⟩ | ⟨u, hu, hu2, z1⟩
    · obtain ⟨x1, x2⟩ := hn z1 hS
      rw [x2]
      exact ⟨FM_refl hS, Or.inr ⟨x1, Or.inl (fun ⟨u, y1, y2⟩ => z2 ⟨by omega, by omega⟩)⟩⟩
    · obtain ⟨u1, g0, _, _, g3, _⟩ := VT hS hT' hu2
      obtain ⟨v1, _, v3, v2, _⟩ := VA_v hV hu2
      obtain ⟨q4, w5, y, hz⟩ := hr _ z1 hS
      obtain ⟨y1, f5, c1, c2, c3, c4⟩ := F74 hS y
      have S5 : SK w5 := f5.2.2.2
      have hz := hz y1 S5
      have okv := okV_n u1
      have f5' : FM [(33, 0), (33, 1), (33, 2)] [39, 40, 41] w2 w5 := FM_mono f5 (by simp) (by simp)
      have eg : gAr w5 33 = gAr w2 33 := by funext q; unfold gAr; rw [FM_a f5 (by decide)]
      have hC : CSt w5 33 (5 + 5 * u) (Pof (al w2) u) (fun _ => 0) (gAr w2 33) 0 0 := ⟨c1, by rw [FM_i f5 (by simp; omega), g0]; exact v3, c4, eg, c2, by rw [c3]; exact z32⟩
      by_cases m1 : p2 = -1
      · rw [if_pos m1] at hz
        by_cases m2 : p3 = 0
        · rw [if_pos m2] at hz
          rw [hz.2]
          exact ⟨f5', Or.inl ⟨u, s00 (gAr w2 33), hz.1, ⟨hu, hu2, Or.inl ⟨m1, m2, rfl⟩⟩, hC⟩⟩
        · rw [if_neg m2] at hz
          rw [hz.2]
          exact ⟨f5', Or.inr ⟨hz.1, Or.inr (Or.inl ⟨m1, m2⟩)⟩⟩
      · rw [if_neg m1] at hz
        obtain ⟨q6, w7, y6, hn6, hr6⟩ := hz
        have d3 : gI w5 1 3 = al w2 1 := by rw [FM_i f5 (by decide)]; exact t2
        obtain ⟨e7, y6⟩ := F67 (V := (al w2 1).toInt.toNat) S5 (by rw [d3]; omega) (by omega) y6
        rcases y6 with ⟨y6, y7⟩ | ⟨rr, hrr, hrr2, y6⟩
        · obtain ⟨x1, x2⟩ := hn6 y6 (by rw [e7]; exact S5)
          rw [x2, e7]
          exact ⟨f5', Or.inr ⟨x1, Or.inr (Or.inr ⟨m1, Or.inl (fun ⟨q, y1, y2⟩ => y7 ⟨by omega, by omega⟩)⟩)⟩⟩
        · have hz := hr6 _ y6 (by rw [e7]; exact S5)
          rw [e7] at hz
          obtain ⟨b1, b2⟩ := r7 rr hrr2
          obtain ⟨s1, s2⟩ := t8 rr hrr2
          have rr2 : rr ≤ 2 := by omega
          by_cases m3 : p3 < 0
          · rw [if_pos m3] at hz
            rw [Int32.lt_iff_toInt_lt, z32] at m3
            rw [hz.2]
            exact ⟨f5', Or.inr ⟨hz.1, Or.inr (Or.inr ⟨m1, Or.inr (Or.inl m3)⟩)⟩⟩
          · rw [if_neg m3] at hz
            rw [Int32.lt_iff_toInt_lt, z32] at m3
            have el : gI w5 (15 + 2 * rr) 0 = al w2 (874 + 272 * rr) := by rw [FM_i f5 (by simp; omega)]; exact s1
            rw [el] at hz
            by_cases m4 : p3 ≤ al w2 (874 + 272 * rr)
            · rw [if_pos m4] at hz
              rw [Int32.le_iff_toInt_le] at m4
              obtain ⟨n, hn⟩ : ∃ n : Nat, p3.toInt = n := ⟨p3.toInt.toNat, by omega⟩
              cases k with
              | zero => exact (PS_0 hz).elim
              | succ k =>
                have eE : ∀ j, j < n → ∀ t, t < 9 → Eof (al w2) rr j t = eR w5 (15 + 2 * rr) j t := by
                  intro j hj t ht
                  have z := s2 (9 * j + t) (by omega)
                  unfold eR Eof
                  rw [FM_a f5 (by simp <;> omega), show 874 + 272 * rr + 1 + 9 * j + t = 874 + 272 * rr + 1 + (9 * j + t) by omega, ← z]
                  rw [show 1 + 15 + 2 * rr = 15 + 2 * rr + 1 by omega]
                have eV : ∀ q, q < 81 → Vof (al w2) u (3 + q) = vcl w5 (5 + 5 * u) (3 + q) := by
                  intro q hq
                  rw [vcl_FMv hS f5 okv (by simp <;> omega) (by simp <;> omega) (by simp <;> omega) (by simp <;> omega) (by simp <;> omega) (by simp <;> omega) (by simp <;> omega)]
                  exact (hT'.2.2.2.2.2.2.2.1 u hu2 (3 + q) (by omega)).symm
                obtain ⟨f6, alt⟩ := F98_74 (s0 := s00 (gAr w2 33)) (by omega) (okR_n rr2) okv (by omega) v1 (fun q hq => by rw [← eV q hq]; exact v2 q hq) (by omega) (fun j hj => VAc_cg (VA_e hV hrr2 (by omega)) (fun t ht => (eE j hj t ht).symm)) WS_00 rfl hn _ 0 w5 0 (s00 (gAr w2 33)) (FM_refl S5) S5 z32 (Nat.zero_le _) rfl hC hz
                refine ⟨FM_trans f5' (FM_mono f6 (by simp) (by simp)), ?_⟩
                rcases alt with ⟨s', x1, x2, x3⟩ | ⟨j, s', x0, x1, x2, x3⟩
                · exact Or.inl ⟨u, s', x2, ⟨hu, hu2, Or.inr ⟨m1, rr, n, hrr, hrr2, hn, by omega, RN_cg eV v1 n s' eE x1⟩⟩, x3⟩
                · exact Or.inr ⟨x3, Or.inr (Or.inr ⟨m1, Or.inr (Or.inr ⟨rr, hrr, hrr2, Or.inr ⟨u, j, s', hu, hu2, by omega, by omega, RN_cg eV v1 j s' (fun i hi => eE i (by omega)) x1, ACT_cg eV (eE j x0) v1 x2⟩⟩)⟩)⟩
            · rw [if_neg m4] at hz
              rw [Int32.le_iff_toInt_le] at m4
              rw [hz.2]
              exact ⟨f5', Or.inr ⟨hz.1, Or.inr (Or.inr ⟨m1, Or.inr (Or.inr ⟨rr, hrr, hrr2, Or.inl (by omega)⟩)⟩)⟩⟩
end HIS
end
section
/-! ===== what is behind n acts: the reference's side ===== -/
section HJS
variable {X : pm_X} {k k2 : Nat} {w0 w w1 w2 w' : pm_W} {r r2 : Option Value} {p p1 p2 p3 p4 p5 i1 i2 i3 sl : Int32} {n i v j m u u2 P t s b Q x rr len : Nat} {a V G G1 G2 : Nat → Int32} {Es : Nat → Nat → Int32} {s0 s1 s2 : SN}
theorem F229_2 : ∀ (k t : Nat) (w : pm_W) (i1 : Int32), FM [] [152] w0 w → i1.toInt = t → t ≤ 81 → (∀ q, q < t → dR w q = 0) → PS X k 229 2 [.ref 147, .int i1] [] w r w' → r = none ∧ FM [(147, 14), (147, 15)] [152] w0 w' ∧ dR w' = (fun _ => 0) ∧ gI w' 147 14 = 0 ∧ gI w' 147 15 = 0 := by
  intro k
  induction k with
  | zero => intro t w i1 _ _ _ _ h; exact (PS_0 h).elim
  | succ k ih =>
    intro t w i1 fm h1 ht hz h
    have hS : SK w := fm.2.2.2
    have h := U229_2 hS h
    by_cases c : 81 ≤ i1
    · rw [if_pos c] at h
      rw [Int32.le_iff_toInt_le, h1, show (81 : Int32).toInt = 81 from by decide +kernel] at c
      obtain ⟨x1, x2⟩ := h _ rfl _ rfl
      have S1 : SK (sI w 147 14 0) := SK_sI hS
      rw [x2]
      refine ⟨x1, FM_trans (FM_mono fm (by simp) (by simp)) (FM_trans (FM_sI hS (by simp)) (FM_sI S1 (by simp))), ?_, ?_, ?_⟩
      · funext q
        unfold dR
        rw [gA_sI, gA_sI]
        by_cases d : q < 81
        · exact hz q (by omega)
        · exact dR_81 hS (by omega)
      · rw [gI_sI_ne (by omega), gI_sI (SK_isF hS (by decide +kernel))]
      · rw [gI_sI (SK_isF S1 (by decide +kernel))]
    · rw [if_neg c] at h
      rw [Int32.le_iff_toInt_le, h1, show (81 : Int32).toInt = 81 from by decide +kernel] at c
      have h := h.2 _ rfl
      refine ih (t + 1) _ (i1 + 1) (FM_trans fm (FM_aS hS (List.mem_singleton_self _))) (by rw [zi_inc (n := 100) (by omega) (by omega), h1]; rfl) (by omega) (fun q hq => ?_) h
      rw [dR_aS hS h1 (by omega)]
      unfold updc
      by_cases e : q = t
      · rw [if_pos e]
      · rw [if_neg e]; exact hz q (by omega)
theorem F229 (hS : SK w) (h : PS X k 229 0 [.ref 147, pm_dead] [] w r w') : r = none ∧ FM [(147, 14), (147, 15)] [152] w w' ∧ dR w' = (fun _ => 0) ∧ gI w' 147 14 = 0 ∧ gI w' 147 15 = 0 := by
  cases k with
  | zero => exact (PS_0 h).elim
  | succ k => exact F229_2 k 0 w 0 (FM_refl hS) z32 (Nat.zero_le _) (fun q hq => absurd hq (Nat.not_lt_zero q)) (U229_0 hS h)
theorem F228 (hS : SK w) (hA : RA (al w)) (hV : VAa (al w)) (hu : u < (al w 0).toInt.toNat) (hp : p1.toInt = (610 + 132 * u : Nat)) (hr : p2.toInt = rr) (hrr : rr < (al w 1).toInt.toNat) (hn : p3.toInt = n) (h : PS X k 228 0 [.ref 147, .int p1, .int p2, .int p3, pm_dead] [] w r w') : FM [(147, 14), (147, 15), (147, 16)] [152, 153] w w' ∧ ∃ (t : Nat) (s : SN) (z : Int32), z.toInt = t ∧ r = some (.int z) ∧ RN (Pof (al w) u) (Vof (al w) u) (Eof (al w) rr) t (s00 (gRr w)) s ∧ HT (Pof (al w) u) (Vof (al w) u) (Eof (al w) rr) (al w (612 + 132 * u)) (s00 (gRr w)) t (gI w' 147 16) ∧ (((t = n ∨ t = (al w (874 + 272 * rr)).toInt.toNat) ∧ t ≤ n ∧ t ≤ (al w (874 + 272 * rr)).toInt.toNat ∧ RSt w' s.1 s.2.1 s.2.2.1 s.2.2.2) ∨ (t < n ∧ t < (al w (874 + 272 * rr)).toInt.toNat ∧ ACT (Pof (al w) u) (Vof (al w) u) (Eof (al w) rr t) s.1 s.2.1 s.2.2.1 s.2.2.2 none)) := by
  obtain ⟨r1, r2, r3, r4, _, _, r7⟩ := hA
  obtain ⟨b1, b2⟩ := r7 rr hrr
  obtain ⟨v1, _, v3, v2, v4⟩ := VA_v hV hu
  cases k with
  | zero => exact (PS_0 h).elim
  | succ k =>
    have h := U228_0 hS h
    obtain ⟨w2, S2, ⟨f2, d1, d2, d3⟩, h⟩ := use_v (D := fun w2 => FM [(147, 14), (147, 15)] [152] w w2 ∧ dR w2 = (fun _ => 0) ∧ gI w2 147 14 = 0 ∧ gI w2 147 15 = 0) h (fun r1 w2 z => by
      obtain ⟨y1, y2, y3⟩ := F229 hS z
      exact ⟨y1, y2.2.2.2, y2, y3⟩)
    have h := h _ rfl
    have f3 : FM [(147, 14), (147, 15), (147, 16)] [152, 153] w (sI w2 147 16 (-1)) := FM_trans (FM_mono f2 (by simp) (by simp)) (FM_sI S2 (by simp))
    have hR : RSt (sI w2 147 16 (-1)) (fun _ => 0) (gRr w) 0 0 := by
      refine ⟨?_, ?_, ?_, ?_⟩
      · rw [← d1]; funext q; unfold dR; rw [gA_sI]
      · funext q; unfold gRr; rw [gA_sI, FM_a f2 (by simp)]
      · rw [gI_sI_ne (by omega)]; exact d3
      · rw [gI_sI_ne (by omega), d2]; exact z32
    exact L228 (s0 := s00 (gRr w)) (by omega) hp v3 v1 rfl v4 hr (by omega) (show (al w (874 + 272 * rr)).toInt = ((al w (874 + 272 * rr)).toInt.toNat : Nat) by omega) (by omega) v2 (fun j hj => VA_e hV hrr hj) WS_00 rfl hn k 0 _ 0 (s00 (gRr w)) f3 z32 (Nat.zero_le _) (Nat.zero_le _) rfl hR (Or.inl ⟨gI_sI (SK_isF S2 (by decide +kernel)), fun j hj => absurd hj (Nat.not_lt_zero j)⟩) h
/-- the reference's isState -/
theorem F246 (hS : SK w) (hA : RA (al w)) (hV : VAa (al w)) (h : PS X k 246 0 [.ref 147, .int p1, .int p2, .int p3] [] w r w') : FM [(147, 14), (147, 15), (147, 16)] [152, 153] w w' ∧ ((∃ (u : Nat) (s : SN), r = some (.int 1) ∧ LDR (al w) p1 p2 p3 (gRr w) u s ∧ RSt w' s.1 s.2.1 s.2.2.1 s.2.2.2) ∨ (r = some (.int 0) ∧ LDN (al w) p1 p2 p3 (gRr w))) := by
  have hA' := hA
  obtain ⟨r1, r2, r3, r4, _, _, r7⟩ := hA
  cases k with
  | zero => exact (PS_0 h).elim
  | succ k =>
    have h := U246_0 hS h
    have h := use_p hS h (fun _ _ y => F200n (L := (al w 0).toInt.toNat) hS (m := 0) z32 (by omega) (by omega) y)
    by_cases c : 0 ≤ p1.toInt ∧ p1.toInt < ((al w 0).toInt.toNat : Nat)
    · have h := ifb_t c h
      obtain ⟨u, hu⟩ : ∃ u : Nat, p1.toInt = u := ⟨p1.toInt.toNat, by omega⟩
      have hu2 : u < (al w 0).toInt.toNat := by omega
      obtain ⟨v1, _, v3, v2, v4⟩ := VA_v hV hu2
      by_cases c1 : p3 < 0
      · rw [if_pos c1] at h
        rw [Int32.lt_iff_toInt_lt, z32] at c1
        rw [h.2]
        refine ⟨FM_refl hS, Or.inr ⟨h.1, ?_⟩⟩
        by_cases m1 : p2 = -1
        · exact Or.inr (Or.inl ⟨m1, fun e => by rw [e, z32] at c1; omega⟩)
        · exact Or.inr (Or.inr ⟨m1, Or.inr (Or.inl c1)⟩)
      · rw [if_neg c1] at h
        rw [Int32.lt_iff_toInt_lt, z32] at c1
        by_cases m1 : p2 = -1
        · rw [if_pos m1] at h
          obtain ⟨w5, S5, ⟨f5, d1, d2, d3⟩, h⟩ := use_v (D := fun w2 => FM [(147, 14), (147, 15)] [152] w w2 ∧ dR w2 = (fun _ => 0) ∧ gI w2 147 14 = 0 ∧ gI w2 147 15 = 0) h (fun r1 w2 z => by
            obtain ⟨y1, y2, y3⟩ := F229 hS z
            exact ⟨y1, y2.2.2.2, y2, y3⟩)
          rw [if_pos m1] at h
          have f5' : FM [(147, 14), (147, 15), (147, 16)] [152, 153] w w5 := FM_mono f5 (by simp) (by simp)
          by_cases m2 : p3 = 0
          · rw [if_pos m2] at h
            rw [h.2]
            refine ⟨f5', Or.inl ⟨u, s00 (gRr w), h.1, ⟨hu, hu2, Or.inl ⟨m1, m2, rfl⟩⟩, d1, ?_, d3, by rw [d2]; exact z32⟩⟩
            funext q; unfold gRr; rw [FM_a f5 (by simp)]; rfl
          · rw [if_neg m2] at h
            rw [h.2]
            exact ⟨f5', Or.inr ⟨h.1, Or.inr (Or.inl ⟨m1, m2⟩)⟩⟩
        · rw [if_neg m1] at h
          have h := use_p hS h (fun _ _ y => F200n (L := (al w 1).toInt.toNat) hS (m := 1) o32 (by omega) (by omega) y)
          by_cases c2 : 0 ≤ p2.toInt ∧ p2.toInt < ((al w 1).toInt.toNat : Nat)
          · have h := ifb_t c2 h
            obtain ⟨rr, hrr⟩ : ∃ rr : Nat, p2.toInt = rr := ⟨p2.toInt.toNat, by omega⟩
            have hrr2 : rr < (al w 1).toInt.toNat := by omega
            obtain ⟨w5, S5, ⟨f5, d1, d2, d3⟩, h⟩ := use_v (D := fun w2 => FM [(147, 14), (147, 15)] [152] w w2 ∧ dR w2 = (fun _ => 0) ∧ gI w2 147 14 = 0 ∧ gI w2 147 15 = 0) h (fun r1 w2 z => by
              obtain ⟨y1, y2, y3⟩ := F229 hS z
              exact ⟨y1, y2.2.2.2, y2, y3⟩)
            rw [if_neg m1] at h
            have h := use_p S5 h (fun _ _ y => F217v S5 hu (by omega) y)
            obtain ⟨q7, w7, z, h⟩ := h
            obtain ⟨n, hn⟩ : ∃ n : Nat, p3.toInt = n := ⟨p3.toInt.toNat, by omega⟩
            have ea : al w5 = al w := by funext q; unfold al; rw [FM_a f5 (by simp)]
            have eg : gRr w5 = gRr w := by funext q; unfold gRr; rw [FM_a f5 (by simp)]
            obtain ⟨f7, t, s, zz, e1, e2, rn, ht, alt⟩ := F228 (u := u) (rr := rr) (n := n) S5 (by rw [ea]; exact hA') (by rw [ea]; exact hV) (by rw [ea]; exact hu2) (plV hu (by omega)) hrr (by rw [ea]; exact hrr2) hn z
            rw [ea, eg] at rn
            rw [ea] at alt
            have h := h _ e2 f7.2.2.2
            have f7' : FM [(147, 14), (147, 15), (147, 16)] [152, 153] w w7 := FM_trans (FM_mono f5 (by simp) (by simp)) f7
            by_cases c3 : zz = p3
            · rw [if_pos c3] at h
              rw [c3, hn] at e1
              rw [h.2]
              rcases alt with ⟨y1, y2, y3, y4⟩ | ⟨y1, y2, y3⟩
              · have e : t = n := by omega
                subst e
                exact ⟨f7', Or.inl ⟨u, s, h.1, ⟨hu, hu2, Or.inr ⟨m1, rr, t, hrr, hrr2, hn, y3, rn⟩⟩, y4⟩⟩
              · omega
            · rw [if_neg c3] at h
              have c3' : (t : Int) ≠ n := fun e => c3 (Int32.toInt_inj.mp (by omega))
              rw [h.2]
              refine ⟨f7', Or.inr ⟨h.1, Or.inr (Or.inr ⟨m1, Or.inr (Or.inr ⟨rr, hrr, hrr2, ?_⟩)⟩)⟩⟩
              rcases alt with ⟨y1, y2, y3, y4⟩ | ⟨y1, y2, y3⟩
              · exact Or.inl (by omega)
              · exact Or.inr ⟨u, t, s, hu, hu2, by omega, y2, rn, y3⟩
          · have h := ifb_f c2 h
            rw [h.2]
            exact ⟨FM_refl hS, Or.inr ⟨h.1, Or.inr (Or.inr ⟨m1, Or.inl (fun ⟨q, y1, y2⟩ => c2 ⟨by omega, by omega⟩)⟩)⟩⟩
    · have h := ifb_f c h
      rw [h.2]
      exact ⟨FM_refl hS, Or.inr ⟨h.1, Or.inl (fun ⟨q, y1, y2⟩ => c ⟨by omega, by omega⟩)⟩⟩
end HJS
end
section
/-! ===== states asked on both sides: lawful, over, room, owes ===== -/
section HKA
variable {X : pm_X} {k k2 : Nat} {w0 w w1 w2 w3 w4 w' : pm_W} {r r2 q1 q2 : Option Value} {p p1 p2 p3 p4 p5 i1 i2 i3 sl : Int32} {n i v j m u u2 P t s b Q x rr len : Nat} {a V G G1 G2 : Nat → Int32} {Es : Nat → Nat → Int32} {s0 s1 s2 : SN}
theorem FM_al {fs : List (Nat × Nat)} (h : FM fs [39, 40, 41] w w1) : al w1 = al w := by
  funext q
  unfold al
  rw [FM_a h (by simp)]
/-- the village loaded, in the class: its people, its slack, its words -/
theorem CVL (h3 : RL3 w) (hu : u < (al w 0).toInt.toNat) (f : FM [(33, 0), (33, 1), (33, 2)] [39, 40, 41] w w1) (hC : CSt w1 33 (5 + 5 * u) P s0.1 s0.2.1 s0.2.2.1 s0.2.2.2) : (gI w1 (gR w1 33 0) 0).toInt = P ∧ gI w1 (gR w1 33 0) 1 = al w (612 + 132 * u) ∧ gR w1 33 0 = 5 + 5 * u ∧ ∀ q, q < 81 → vcl w1 (5 + 5 * u) (3 + q) = Vof (al w) u (3 + q) := by
  obtain ⟨⟨hS, hT, hI⟩, hV⟩ := h3
  obtain ⟨u1, _, _, g2, _⟩ := VT hS hT hu
  obtain ⟨c1, c2, _⟩ := hC
  have okv := okV_n u1
  refine ⟨by rw [c1]; exact c2, ?_, c1, fun q hq => ?_⟩
  · rw [c1, FM_i f (by simp <;> omega)]; exact g2
  · rw [vcl_FMv hS f okv (by simp <;> omega) (by simp <;> omega) (by simp <;> omega) (by simp <;> omega) (by simp <;> omega) (by simp <;> omega) (by simp <;> omega)]
    exact hT.2.2.2.2.2.2.2.1 u hu (3 + q) (by omega)
/-- loaded on both sides or on neither -/
theorem LOAD2 (h3 : RL3 w) (z : PS X k 98 0 [.ref 0, .int p1, .int p2, .int p3, pm_dead, pm_dead, pm_dead] [] w q1 w1) (S2 : SK w2) (e : al w2 = al w) (y : PS X k2 246 0 [.ref 147, .int p1, .int p2, .int p3] [] w2 q2 w3) : FM [(147, 14), (147, 15), (147, 16)] [152, 153] w2 w3 ∧ ((q1 = some (.int 0) ∧ q2 = some (.int 0)) ∨ ∃ (u : Nat) (s1 s2 : SN), q1 = some (.int 1) ∧ q2 = some (.int 1) ∧ p1.toInt = u ∧ u < (al w 0).toInt.toNat ∧ LSt (Pof (al w) u) s1 s2 ∧ CSt w1 33 (5 + 5 * u) (Pof (al w) u) s1.1 s1.2.1 s1.2.2.1 s1.2.2.2 ∧ RSt w3 s2.1 s2.2.1 s2.2.2.1 s2.2.2.2) := by
  obtain ⟨f1, alt⟩ := F98 h3 z
  obtain ⟨f2, alt2⟩ := F246 S2 (by rw [e]; exact h3.1.2.1.1) (by rw [e]; exact h3.2) y
  rw [e] at alt2
  refine ⟨f2, ?_⟩
  rcases alt with ⟨u, s1, a1, a2, a3⟩ | ⟨a1, a2⟩
  · rcases alt2 with ⟨u2, s2, b1, b2, b3⟩ | ⟨b1, b2⟩
    · obtain ⟨e1, l⟩ := LDR_2 h3.2 a2 b2
      exact Or.inr ⟨u, s1, s2, a1, b1, a2.1, a2.2.1, l, a3, b3⟩
    · exact (LD_no h3.2 a2 b2).elim
  · rcases alt2 with ⟨u2, s2, b1, b2, b3⟩ | ⟨b1, b2⟩
    · exact (LD_no h3.2 b2 a2).elim
    · exact Or.inl ⟨a1, b1⟩
theorem i10 : ¬ (some (Value.int 1) = some (Value.int 0)) := fun h => absurd (Value.int.inj (Option.some.inj h)) (by decide +kernel)
end HKA
end
section
/-! ===== over ===== -/
section HLA
variable {X : pm_X} {k k2 : Nat} {w0 w w1 w2 w3 w4 w' : pm_W} {r r2 q1 q2 : Option Value} {p p1 p2 p3 p4 p5 i1 i2 i3 sl : Int32} {n i v j m u u2 P t s b Q x rr len : Nat} {a V G G1 G2 : Nat → Int32} {Es : Nat → Nat → Int32} {s0 s1 s2 : SN}
/-- the reference's isState with two people -/
theorem F245 (h3 : RL3 w) (z : PS X k 98 0 [.ref 0, .int p1, .int p2, .int p3, pm_dead, pm_dead, pm_dead] [] w q1 w1) (S2 : SK w2) (e : al w2 = al w) (h : PS X k2 245 0 [.ref 147, .int p1, .int p2, .int p3, .int p4, .int p5] [] w2 r w') : SK w' ∧ al w' = al w ∧ ((q1 = some (.int 0) ∧ r = some (.int 0)) ∨ ∃ (u : Nat) (s1 s2 : SN), q1 = some (.int 1) ∧ p1.toInt = u ∧ u < (al w 0).toInt.toNat ∧ LSt (Pof (al w) u) s1 s2 ∧ CSt w1 33 (5 + 5 * u) (Pof (al w) u) s1.1 s1.2.1 s1.2.2.1 s1.2.2.2 ∧ RSt w' s2.1 s2.2.1 s2.2.2.1 s2.2.2.2 ∧ r = some (.int (b2i (decide ((0 ≤ p4.toInt ∧ p4.toInt < (Pof (al w) u : Nat)) ∧ (0 ≤ p5.toInt ∧ p5.toInt < (Pof (al w) u : Nat))))))) := by
  cases k2 with
  | zero => exact (PS_0 h).elim
  | succ k2 =>
    obtain ⟨q6, w6, y6, h⟩ := U245_0 S2 h
    obtain ⟨f2, alt2⟩ := LOAD2 h3 z S2 e y6
    have S6 : SK w6 := f2.2.2.2
    have e6 : al w6 = al w := by rw [← e]; funext q; unfold al; rw [FM_a f2 (by simp)]
    rcases alt2 with ⟨b0, b2⟩ | ⟨u, t1, t2, b1, b2, b3, b4, b5, b6, b7⟩
    · have h := h _ b2 S6
      rw [if_pos rfl] at h
      rw [h.2]
      exact ⟨S6, e6, Or.inl ⟨b0, h.1⟩⟩
    · have h := h _ b2 S6
      rw [if_neg (by decide +kernel)] at h
      have u1 : u ≤ 1 := by have := h3.1.2.1.1.2.1; omega
      obtain ⟨v1, _, v3, v2, v4⟩ := VA_v h3.2 b4
      have h := use_p S6 h (fun _ _ y => F217v S6 b3 u1 y)
      have h := use_p S6 h (fun _ _ y => F221n (m := 610 + 132 * u) (L := Pof (al w) u) S6 (plV b3 u1) (by rw [e6]; exact v3) (by omega) y)
      by_cases c : 0 ≤ p4.toInt ∧ p4.toInt < (Pof (al w) u : Nat)
      · have h := ifb_t c h
        have h := use_p S6 h (fun _ _ y => F217v S6 b3 u1 y)
        have h := use_p S6 h (fun _ _ y => F221n (m := 610 + 132 * u) (L := Pof (al w) u) S6 (plV b3 u1) (by rw [e6]; exact v3) (by omega) y)
        by_cases c2 : 0 ≤ p5.toInt ∧ p5.toInt < (Pof (al w) u : Nat)
        · have h := ifb_t c2 h
          rw [h.2]
          refine ⟨S6, e6, Or.inr ⟨u, t1, t2, b1, b3, b4, b5, b6, b7, ?_⟩⟩
          rw [decide_eq_true ⟨c, c2⟩]; exact h.1
        · have h := ifb_f c2 h
          rw [h.2]
          refine ⟨S6, e6, Or.inr ⟨u, t1, t2, b1, b3, b4, b5, b6, b7, ?_⟩⟩
          rw [decide_eq_false (fun y => c2 y.2)]; exact h.1
      · have h := ifb_f c h
        rw [h.2]
        refine ⟨S6, e6, Or.inr ⟨u, t1, t2, b1, b3, b4, b5, b6, b7, ?_⟩⟩
        rw [decide_eq_false (fun y => c y.1)]; exact h.1
end HLA
end
section
/-! ===== room, owes ===== -/
section HMA
variable {X : pm_X} {k k2 : Nat} {w0 w w1 w2 w3 w4 w' : pm_W} {r r2 q1 q2 : Option Value} {p p1 p2 p3 p4 p5 i1 i2 i3 sl : Int32} {n i v j m u u2 P t s b Q x rr len : Nat} {a V G G1 G2 : Nat → Int32} {Es : Nat → Nat → Int32} {s0 s1 s2 : SN}
def PR2 (P : Nat) (p4 p5 : Int32) : Prop := (0 ≤ p4.toInt ∧ p4.toInt < (P : Nat)) ∧ (0 ≤ p5.toInt ∧ p5.toInt < (P : Nat))
/-- the class's loadTwo -/
theorem F97 (h3 : RL3 w) (h : PS X k 97 0 [.ref 0, .int p1, .int p2, .int p3, .int p4, .int p5] [] w r w') : ∃ (k' : Nat) (q1 : Option Value), PS X k' 98 0 [.ref 0, .int p1, .int p2, .int p3, pm_dead, pm_dead, pm_dead] [] w q1 w' ∧ ((q1 = some (.int 0) ∧ r = some (.int 0)) ∨ (q1 = some (.int 1) ∧ ∃ (u : Nat) (s1 : SN), LDR (al w) p1 p2 p3 (gAr w 33) u s1 ∧ CSt w' 33 (5 + 5 * u) (Pof (al w) u) s1.1 s1.2.1 s1.2.2.1 s1.2.2.2 ∧ ((PR2 (Pof (al w) u) p4 p5 ∧ r = some (.int 1)) ∨ (¬ PR2 (Pof (al w) u) p4 p5 ∧ r = some (.int 0))))) := by
  have hS := h3.1.1
  cases k with
  | zero => exact (PS_0 h).elim
  | succ k =>
    obtain ⟨q1, w3, z, h⟩ := U97_0 hS h
    obtain ⟨f1, alt⟩ := F98 h3 z
    have S3 : SK w3 := f1.2.2.2
    rcases alt with ⟨u, s1, a1, a2, a3⟩ | ⟨a1, a2⟩
    · have h := h _ a1 S3
      rw [if_neg (by decide +kernel)] at h
      obtain ⟨g1, g2, g3, g4⟩ := CVL h3 a2.2.1 f1 a3
      have h := use_p S3 h (fun _ _ y => F61 S3 g1 y)
      by_cases c : 0 ≤ p4.toInt ∧ p4.toInt < (Pof (al w) u : Nat)
      · have h := ifb_t c h
        have h := use_p S3 h (fun _ _ y => F61 S3 g1 y)
        by_cases c2 : 0 ≤ p5.toInt ∧ p5.toInt < (Pof (al w) u : Nat)
        · have h := ifb_t c2 h
          rw [h.2]
          exact ⟨k, q1, z, Or.inr ⟨a1, u, s1, a2, a3, Or.inl ⟨⟨c, c2⟩, h.1⟩⟩⟩
        · have h := ifb_f c2 h
          rw [h.2]
          exact ⟨k, q1, z, Or.inr ⟨a1, u, s1, a2, a3, Or.inr ⟨fun y => c2 y.2, h.1⟩⟩⟩
      · have h := ifb_f c h
        rw [h.2]
        exact ⟨k, q1, z, Or.inr ⟨a1, u, s1, a2, a3, Or.inr ⟨fun y => c y.1, h.1⟩⟩⟩
    · have h := h _ a1 S3
      rw [if_pos rfl] at h
      rw [h.2]
      exact ⟨k, q1, z, Or.inl ⟨a1, h.1⟩⟩
end HMA
end
section
/-! ===== what is told and the images stay valid ===== -/
section HPV
variable {X : pm_X} {k k2 : Nat} {w0 w w1 w2 w' : pm_W} {r r2 : Option Value} {p p1 p2 p3 p4 p5 f0 p0 f q x : Int32} {n i v j m s T L : Nat} {a : Nat → Int32}
def VI (w : pm_W) : Prop := ∀ k, k < 3 → (gA w 149).getD k 0 ≠ 0 → VAa (fun q => al w (1690 * (k + 1) + q))
/-- alike and valid: what is told now, and each image that is there -/
def RL4 (w : pm_W) : Prop := RL3 w ∧ VI w
theorem VI_cg (h : VI w) (h9 : gA w2 149 = gA w 149) (e : ∀ q, 1690 ≤ q → al w2 q = al w q) : VI w2 := by
  intro k hk z
  rw [h9] at z
  have q := h k hk z
  rw [show (fun q => al w2 (1690 * (k + 1) + q)) = (fun q => al w (1690 * (k + 1) + q)) from funext fun q => e _ (by omega)]
  exact q
theorem REFV (hS : SK w) (hr : RA (al w)) (hB : ∀ i, i < (al w 2).toInt.toNat → 0 ≤ (rb w i).toInt) (hV : VAa (al w)) (h : PS X k 198 0 [.ref 147, .int p1, .int p2, pm_dead, pm_dead, pm_dead] [] w r w') : VAa (al w') ∧ FM ((147, 2) :: rl7) [148, 150, 151] w w' := by
  have hr' := hr
  obtain ⟨r1, r2, r3, r4, r5, r6, r7⟩ := hr'
  obtain ⟨b, hb⟩ : ∃ b, b = decide (p1 = 0) := ⟨_, rfl⟩
  obtain ⟨fm, z⟩ := F198 (n := (al w 2).toInt.toNat) hS r5 r6 rfl hB r1 r2 r3 r4 hb h
  refine ⟨?_, fm⟩
  rcases z with ⟨b1, b2, b3⟩ | ⟨b1, N, o, b2, ⟨c1, c2, c3⟩ | ⟨c1, c2, s0, cnt, hs, c3⟩⟩
  · exact VAa_cg hV hr (fun q _ hq => by rw [b3, if_neg (by omega), if_neg (by omega), if_neg (by omega)])
  · exact VAa_cg hV hr (fun q _ hq => by rw [c3, if_neg (by omega), if_neg (by omega), if_neg (by omega)])
  · have oz : o.2.1 = 0 := by
      by_cases y : o.2.1 = 0
      · exact y
      · unfold fF at c1
        rw [if_neg (fun hh => y hh.2.1)] at c1
        exact c1
    have hG : b = true → o.2.2.2.2 < (o.2.2.2.1 0).toInt := by
      intro hbt
      by_cases y : (o.2.2.2.1 0).toInt ≤ o.2.2.2.2
      · unfold fF at c1
        rw [if_pos ⟨hbt, oz, y⟩] at c1
        exact absurd c1 (by decide +kernel)
      · omega
    have hC := RD_VLD N b2 (fun _ => VLD_0) oz
    have m1 : (-1 : Int32).toInt = -1 := by decide +kernel
    have pe := plc_eq (a := p2) hs
    obtain ⟨P, hP⟩ : ∃ P, P = plcF p1 p2 (al w 0) (al w 1) := ⟨_, rfl⟩
    rw [← hP] at b1 c3 pe
    have cs : (b = true ∧ s0 = 0) ∨ (b = false ∧ s0 = 1) := by
      rcases hs with ⟨h1, _, h3⟩ | ⟨h1, _, h3⟩
      · exact Or.inl ⟨by rw [hb, decide_eq_true h1], h3⟩
      · exact Or.inr ⟨by rw [hb, decide_eq_false (by rw [h1]; decide +kernel)], h3⟩
    have hcn : cnt = al w s0 := by
      rcases hs with ⟨_, h2, h3⟩ | ⟨_, h2, h3⟩ <;> rw [h2, h3]
    have hc0 : 0 ≤ cnt.toInt ∧ cnt.toInt ≤ s0 + 2 := by
      rcases hs with ⟨_, h2, h3⟩ | ⟨_, h2, h3⟩ <;> rw [h2, h3] <;> constructor <;> omega
    by_cases e : p2 = -1
    · rw [if_pos e] at pe c3
      by_cases c : cnt.toInt < (s0 + 2 : Nat)
      · rw [if_pos c] at pe
        have e1 : (cnt + 1).toInt = cnt.toInt + 1 := zi_add rfl o32 (by omega) (by omega)
        rw [pe] at c3
        exact VA_text hV hr hC hG (cs.elim (fun z => Or.inl ⟨z.1, z.2, by have := z.2; omega⟩) (fun z => Or.inr ⟨z.1, z.2, by have := z.2; omega⟩)) hcn (by rw [e1]; omega) (by rw [e1]; omega) c3 (by omega)
      · rw [if_neg c] at pe
        exact absurd pe b1
    · rw [if_neg e] at pe c3
      by_cases c : 0 ≤ p2.toInt ∧ p2.toInt < cnt.toInt
      · rw [if_pos c] at pe
        rw [pe] at c3
        exact VA_text hV hr hC hG (cs.elim (fun z => Or.inl ⟨z.1, z.2, by have := z.2; omega⟩) (fun z => Or.inr ⟨z.1, z.2, by have := z.2; omega⟩)) hcn (by omega) (by omega) c3 (by omega)
      · rw [if_neg c] at pe
        exact absurd pe b1
/-- the class's text leaves the reference alone -/
theorem F16_r (hX : XO X) (hS : SK w) (hTE : TE w 1 (al w)) (h1 : PS X k 16 0 [.ref 0, .int p1, .int p2, pm_dead, pm_dead] [] w r w1) : SK w1 ∧ gA w1 148 = gA w 148 ∧ gA w1 149 = gA w 149 := by
  obtain ⟨⟨r1, r2', r3, r4, r5, r6, r7⟩, t1, t2, t3, t4, t5, t6, t7, t8⟩ := hTE
  have A := F16 (n := (al w 2).toInt.toNat) hX hS (by rw [t1]; exact r1) (by rw [t1]; exact r2') (by rw [t2]; exact r3) (by rw [t2]; exact r4) (by rw [t3]; omega) (by omega) rfl h1
  rcases A with ⟨a1, a2, a3, a4, a5, a6⟩ | ⟨a1, N, o, a2, ⟨a3, a4, a5, a6, a7, a8⟩ | ⟨a3, a4, a5, a6, a7, κ, a8, a9⟩⟩
  · exact ⟨a3.2.2.2, FM_a a3 (by decide), FM_a a3 (by decide)⟩
  · exact ⟨a5.2.2.2, FM_a a5 (by decide), FM_a a5 (by decide)⟩
  · rcases a9 with ⟨_, h, fm, _⟩ | ⟨_, h, fm, _⟩
    · have kc : κ = 0 ∨ κ = 1 := by omega
      rcases kc with rfl | rfl
      · exact ⟨fm.2.2.2, FM_a fm (by decide), FM_a fm (by decide)⟩
      · exact ⟨fm.2.2.2, FM_a fm (by decide), FM_a fm (by decide)⟩
    · have kc : κ = 0 ∨ κ = 1 ∨ κ = 2 := by omega
      rcases kc with rfl | rfl | rfl
      · exact ⟨fm.2.2.2, FM_a fm (by decide), FM_a fm (by decide)⟩
      · exact ⟨fm.2.2.2, FM_a fm (by decide), FM_a fm (by decide)⟩
      · exact ⟨fm.2.2.2, FM_a fm (by decide), FM_a fm (by decide)⟩
theorem al_8 (h : gA w1 148 = gA w 148) : al w1 = al w := by funext q; unfold al; rw [h]
theorem R4TXT (hX : XO X) (h : RL4 w) (h1 : PS X k 16 0 [.ref 0, .int p1, .int p2, pm_dead, pm_dead] [] w r w1) (h2 : PS X k2 198 0 [.ref 147, .int p1, .int p2, pm_dead, pm_dead, pm_dead] [] w1 r2 w2) : r2 = r ∧ RL4 w2 := by
  obtain ⟨⟨hR, hV⟩, hI⟩ := h
  obtain ⟨e, R2⟩ := RTXT hX hR h1 h2
  obtain ⟨hS, hT, _⟩ := hR
  obtain ⟨_, _, _, hi⟩ := TXT hX hS hT h1 h2
  obtain ⟨S1, g8, g9⟩ := F16_r hX hS hT h1
  have ea := al_8 g8
  have eb : rb w1 = rb w := by funext q; unfold rb; rw [g8]
  have t6 := hT.2.2.2.2.2.2.1
  obtain ⟨v, fm⟩ := REFV (w := w1) S1 (by rw [ea]; exact hT.1) (by
    rw [ea, eb]
    intro i hi
    have y := (t6 i hi).2.2
    have y1 := (t6 i hi).1
    show 0 ≤ (al w (10 + i)).toInt
    rw [y]
    split <;> omega) (by rw [ea]; exact hV) h2
  exact ⟨e, ⟨R2, v⟩, VI_cg hI (by rw [FM_a fm (by decide), g9]) hi⟩
theorem R4FEED (h : RL4 w) (h1 : PS X k 13 0 [.ref 0, .int p1, .int p2, .int p3, .int p4, .int p5] [] w r w1) (h2 : PS X k2 196 0 [.ref 147, .int p1, .int p2, .int p3, .int p4, .int p5, pm_dead, pm_dead] [] w1 r2 w2) : r2 = r ∧ RL4 w2 := by
  obtain ⟨⟨hR, hV⟩, hI⟩ := h
  obtain ⟨e, R2⟩ := RFEED hR h1 h2
  obtain ⟨hS, hT, _⟩ := hR
  obtain ⟨_, _, fm, hi⟩ := FEED hS hT h1 h2
  obtain ⟨r1, r2', r3, r4, r5, r6, r7⟩ := hT.1
  have t3 := hT.2.2.2.1
  obtain ⟨a1, A⟩ := F13 (L := (al w 2).toInt.toNat) hS (by rw [t3]; omega) (by omega) h1
  have ea : al w1 = al w := al_FM a1 (by decide)
  obtain ⟨b1, B⟩ := F196 (L := (al w 2).toInt.toNat) a1.2.2.2 (by rw [ea]; omega) (by omega) h2
  rw [ea] at B
  have h9 : gA w2 149 = gA w 149 := FM_a fm (by decide)
  refine ⟨e, ⟨R2, ?_⟩, VI_cg hI h9 hi⟩
  rcases B with ⟨d1, d2, d3⟩ | ⟨d1, d2, d3, d4⟩
  · rw [d3, ea]; exact hV
  · exact VAa_cg hV hT.1 (fun q _ hq => by rw [d4 q (by omega), if_neg (by omega)])
theorem F197 (hS : SK w) (h : PS X k 197 0 [.ref 147, .int p1] [] w r w') : ∀ q, q ≠ 2 → al w' q = al w q := by
  intro q hq
  cases k with
  | zero => exact (PS_0 h).elim
  | succ k =>
    have h := U197_0 hS h
    by_cases c : p1 < 0
    · rw [if_pos c] at h
      rw [h.2]
    · rw [if_neg c] at h
      obtain ⟨_, h⟩ := h
      by_cases c2 : p1 ≤ aG w 148 2
      · rw [if_pos c2] at h
        obtain ⟨_, h⟩ := h
        obtain ⟨b1, b2⟩ := h _ rfl
        rw [b2, al_aS hS two32 (by decide), if_neg hq]
      · rw [if_neg c2] at h
        rw [h.2]
theorem F15_r (hS : SK w) (h : PS X k 15 0 [.ref 0, .int p1] [] w r w1) : SK w1 ∧ al w1 = al w := by
  cases k with
  | zero => exact (PS_0 h).elim
  | succ k =>
    have h := U15_0 hS h
    by_cases c : p1 < 0
    · rw [if_pos c] at h
      rw [h.2]; exact ⟨hS, rfl⟩
    · rw [if_neg c] at h
      by_cases c2 : p1 ≤ gI w 1 5
      · rw [if_pos c2] at h
        obtain ⟨a1, a2⟩ := h _ rfl
        have f1 : FM [(1, 5)] [4, 148] w w1 := by rw [a2]; exact FM_sI hS (by decide)
        refine ⟨f1.2.2.2, ?_⟩
        funext q; rw [a2]; unfold al; rw [gA_sI]
      · rw [if_neg c2] at h
        rw [h.2]; exact ⟨hS, rfl⟩
theorem R4ENDS (h : RL4 w) (h1 : PS X k 15 0 [.ref 0, .int p1] [] w r w1) (h2 : PS X k2 197 0 [.ref 147, .int p1] [] w1 r2 w2) : r2 = r ∧ RL4 w2 := by
  obtain ⟨⟨hR, hV⟩, hI⟩ := h
  obtain ⟨e, R2⟩ := RENDS hR h1 h2
  obtain ⟨hS, hT, _⟩ := hR
  obtain ⟨_, _, fm, hi⟩ := ENDS hS hT h1 h2
  obtain ⟨S1, ea⟩ := F15_r hS h1
  have z := F197 S1 h2
  rw [ea] at z
  exact ⟨e, ⟨R2, VAa_cg hV hT.1 (fun q _ hq => z q (by omega))⟩, VI_cg hI (FM_a fm (by decide)) hi⟩
theorem nisI {y : Int32} (h : ¬ isI p1 0 2 = true) : isI p1 0 2 = false := by
  cases hh : isI p1 0 2 with
  | false => rfl
  | true => exact absurd hh h
/-- the class's image leaves the reference alone -/
theorem F70_r (h : RL2 w) (h1 : PS X k 70 0 [.ref 0, .int p1] [] w r w1) : SK w1 ∧ al w1 = al w ∧ gA w1 149 = gA w 149 := by
  obtain ⟨hS, hT, hI⟩ := h
  have e3 : (3 : Int32).toInt = 3 := three32
  cases k with
  | zero => exact (PS_0 h1).elim
  | succ k =>
    have h1 := U70_0 hS h1
    by_cases c : p1 < 0
    · rw [if_pos c] at h1
      rw [h1.2]; exact ⟨hS, rfl, rfl⟩
    · rw [if_neg c] at h1
      rw [Int32.lt_iff_toInt_lt, z32] at c
      by_cases c3 : p1 < 3
      · rw [if_pos c3] at h1
        rw [Int32.lt_iff_toInt_lt, e3] at c3
        obtain ⟨κ, hκ⟩ : ∃ κ, κ = p1.toInt.toNat := ⟨_, rfl⟩
        have ek : p1.toInt = κ := by omega
        have k3 : κ < 3 := by omega
        obtain ⟨_, r1, wa, q1, q2⟩ := h1
        rw [q21 k3 hS ek] at q1
        obtain ⟨a1, a2, a3⟩ := F71_img k3 hS hT q1
        have Sa := a2.2.2.2
        obtain ⟨_, q2⟩ := q2 a1 Sa
        obtain ⟨q3, q4⟩ := q2 _ rfl
        have f1 : FM [] [22] wa w1 := by rw [q4]; exact FM_aB Sa (by decide)
        have nt : ∀ x, x = 148 ∨ x = 149 → x ∉ tAs (87 + 20 * κ) := by
          intro x hx
          have c : κ = 0 ∨ κ = 1 ∨ κ = 2 := by omega
          rcases c with rfl | rfl | rfl <;> rcases hx with rfl | rfl <;> decide
        exact ⟨f1.2.2.2, by rw [al_FM f1 (by decide), al_FM a2 (nt 148 (Or.inl rfl))], by rw [FM_a f1 (by decide), FM_a a2 (nt 149 (Or.inr rfl))]⟩
      · rw [if_neg c3] at h1
        rw [h1.2]; exact ⟨hS, rfl, rfl⟩
theorem F316 (hS : SK w) (h : PS X k 316 0 [.ref 147, .int p1, pm_dead] [] w r w') : w' = w ∨ ∃ κ : Nat, κ < 3 ∧ (∀ j, (gA w' 149).getD j 0 = if j = κ then 1 else (gA w 149).getD j 0) ∧ ∀ q, al w' q = if 1690 * (κ + 1) ≤ q ∧ q < 1690 * (κ + 1) + 1690 then al w (q - 1690 * (κ + 1)) else al w q := by
  cases k with
  | zero => exact (PS_0 h).elim
  | succ k =>
    have h := use_p hS (U316_0 hS h) (fun _ _ z => F199 hS z)
    by_cases hf : isI p1 0 2 = true
    · have c := (isI_3 (y := 0)).mp hf
      obtain ⟨κ, hκ⟩ : ∃ κ, κ = p1.toInt.toNat := ⟨_, rfl⟩
      have ek : p1.toInt = κ := by omega
      have k3 : κ < 3 := by omega
      rw [hf, if_neg (by decide +kernel)] at h
      obtain ⟨_, h⟩ := h
      have h := h _ rfl
      have fb : FM [] [149] w (aB w 149 p1 1) := FM_aB hS (by decide)
      obtain ⟨b1, b2, b3⟩ := L316 k3 ek _ _ 0 0 fb.2.2.2 z32 (by decide) h
      rw [al_FM fb (by decide)] at b3
      refine Or.inr ⟨κ, k3, fun j => ?_, b3⟩
      rw [FM_a b2 (by decide), aB_b hS (by decide +kernel) (by decide +kernel) (by decide +kernel) ek k3]
    · rw [nisI (y := 0) hf, if_pos (by decide +kernel)] at h
      exact Or.inl h.2
theorem R4IMG (h : RL4 w) (h1 : PS X k 70 0 [.ref 0, .int p1] [] w r w1) (h2 : PS X k2 316 0 [.ref 147, .int p1, pm_dead] [] w1 r2 w2) : r2 = r ∧ RL4 w2 := by
  obtain ⟨⟨hR, hV⟩, hI⟩ := h
  obtain ⟨e, R2⟩ := RIMG hR h1 h2
  obtain ⟨S1, ea, e9⟩ := F70_r hR h1
  obtain ⟨hS, hT, hIM⟩ := hR
  refine ⟨e, ⟨R2, ?_⟩, ?_⟩
  · rcases F316 S1 h2 with z | ⟨κ, k3, z1, z2⟩
    · rw [z, ea]; exact hV
    · exact VAa_cg hV hT.1 (fun q hq _ => by rw [z2, if_neg (by omega), ea])
  · rcases F316 S1 h2 with z | ⟨κ, k3, z1, z2⟩
    · rw [z]; exact VI_cg hI e9 (fun q _ => by rw [ea])
    · intro k hk z
      rw [ea] at z2
      by_cases y : k = κ
      · rw [show (fun q => al w2 (1690 * (k + 1) + q)) = (fun q => al w2 (1690 * (κ + 1) + q)) by rw [y]]
        exact VAa_cg hV hT.1 (fun q hq _ => by
          show al w2 (1690 * (κ + 1) + q) = _
          rw [z2, if_pos (by omega), show 1690 * (κ + 1) + q - 1690 * (κ + 1) = q by omega])
      · rw [z1, if_neg y, e9] at z
        exact VAa_cg (hI k hk z) ((hIM k hk).2 z).1 (fun q hq _ => by
          show al w2 (1690 * (k + 1) + q) = al w (1690 * (k + 1) + q)
          rw [z2, if_neg (by omega)])
theorem F72_r (h : RL2 w) (h1 : PS X k 72 0 [.ref 0, .int p1] [] w r w1) : SK w1 ∧ al w1 = al w ∧ gA w1 149 = gA w 149 := by
  obtain ⟨hS, hT, hI⟩ := h
  have e3 : (3 : Int32).toInt = 3 := three32
  cases k with
  | zero => exact (PS_0 h1).elim
  | succ k =>
    have h1 := U72_0 hS h1
    by_cases c : p1 < 0
    · rw [if_pos c] at h1
      rw [h1.2]; exact ⟨hS, rfl, rfl⟩
    · rw [if_neg c] at h1
      rw [Int32.lt_iff_toInt_lt, z32] at c
      by_cases c3 : 3 ≤ p1
      · rw [if_pos c3] at h1
        rw [h1.2]; exact ⟨hS, rfl, rfl⟩
      · rw [if_neg c3] at h1
        rw [Int32.le_iff_toInt_le, e3] at c3
        obtain ⟨κ, hκ⟩ : ∃ κ, κ = p1.toInt.toNat := ⟨_, rfl⟩
        have ek : p1.toInt = κ := by omega
        have k3 : κ < 3 := by omega
        obtain ⟨i1, i2⟩ := hI κ k3
        obtain ⟨_, h1⟩ := h1
        rw [aG_n (m := κ) ek, i1] at h1
        by_cases cz : (gA w 149).getD κ 0 = 0
        · rw [if_pos cz] at h1
          rw [h1.2]; exact ⟨hS, rfl, rfl⟩
        · rw [if_neg cz] at h1
          obtain ⟨_, r1, wa, q1, q2⟩ := h1
          rw [q21 k3 hS ek] at q1
          obtain ⟨a1, a2, a3⟩ := F71_agn k3 hS (i2 cz) q1
          have Sa := a2.2.2.2
          obtain ⟨q3, q4⟩ := q2 a1 Sa
          rw [q4]
          exact ⟨Sa, al_FM a2 (by decide), FM_a a2 (by decide)⟩
theorem F317 (hS : SK w) (h : PS X k 317 0 [.ref 147, .int p1, pm_dead] [] w r w') : gA w' 149 = gA w 149 ∧ (w' = w ∨ ∃ κ : Nat, κ < 3 ∧ (gA w 149).getD κ 0 ≠ 0 ∧ ∀ q, al w' q = if q < 1690 then al w (1690 * (κ + 1) + q) else al w q) := by
  cases k with
  | zero => exact (PS_0 h).elim
  | succ k =>
    have h := use_p hS (U317_0 hS h) (fun _ _ z => F199 hS z)
    by_cases hf : isI p1 0 2 = true
    · have c := (isI_3 (y := 0)).mp hf
      obtain ⟨κ, hκ⟩ : ∃ κ, κ = p1.toInt.toNat := ⟨_, rfl⟩
      have ek : p1.toInt = κ := by omega
      have k3 : κ < 3 := by omega
      rw [hf, if_neg (by decide +kernel)] at h
      obtain ⟨_, h⟩ := h
      rw [aG_n (m := κ) ek] at h
      by_cases cz : (gA w 149).getD κ 0 = 0
      · rw [if_pos cz] at h
        rw [h.2]; exact ⟨rfl, Or.inl rfl⟩
      · rw [if_neg cz] at h
        obtain ⟨b1, b2, b3⟩ := L317 k3 ek _ _ 0 0 hS z32 (by decide) h
        refine ⟨FM_a b2 (by decide), Or.inr ⟨κ, k3, cz, fun q => ?_⟩⟩
        rw [b3]
        by_cases y : q < 1690
        · rw [if_pos ⟨by omega, y⟩, if_pos y]
        · rw [if_neg (fun z => y z.2), if_neg y]
    · rw [nisI (y := 0) hf, if_pos (by decide +kernel)] at h
      rw [h.2]; exact ⟨rfl, Or.inl rfl⟩
theorem R4AGN (h : RL4 w) (h1 : PS X k 72 0 [.ref 0, .int p1] [] w r w1) (h2 : PS X k2 317 0 [.ref 147, .int p1, pm_dead] [] w1 r2 w2) : r2 = r ∧ RL4 w2 := by
  obtain ⟨⟨hR, hV⟩, hI⟩ := h
  obtain ⟨e, R2⟩ := RAGN hR h1 h2
  obtain ⟨S1, ea, e9⟩ := F72_r hR h1
  obtain ⟨hS, hT, hIM⟩ := hR
  obtain ⟨g9, z⟩ := F317 S1 h2
  refine ⟨e, ⟨R2, ?_⟩, ?_⟩
  · rcases z with z | ⟨κ, k3, cz, z2⟩
    · rw [z, ea]; exact hV
    · rw [e9] at cz
      exact VAa_cg (hI κ k3 cz) ((hIM κ k3).2 cz).1 (fun q hq _ => by
        show al w2 q = al w (1690 * (κ + 1) + q)
        rw [z2, if_pos hq, ea])
  · refine VI_cg hI (g9.trans e9) (fun q hq => ?_)
    rcases z with z | ⟨κ, k3, cz, z2⟩
    · rw [z, ea]
    · rw [z2, if_neg (by omega), ea]
end HPV
end
section
/-! ===== ring; what both sides load ===== -/
section HRR
variable {X : pm_X} {k k2 : Nat} {w0 w w1 w2 w3 w4 w' : pm_W} {r r2 q1 q2 : Option Value} {p p1 p2 p3 p4 p5 i1 i2 i3 sl z z1 z2 : Int32} {n i v j m u u2 P t s b Q x rr len o3 N K : Nat} {a V V' G G1 G2 : Nat → Int32} {Es Es' : Nat → Nat → Int32} {s0 s1 s2 t1 t2 : SN}
theorem LDR_N (hV : VAa a) (hA : RA a) (h : LDR a p1 p2 p3 G u s0) : s0.2.2.2 ≤ 30 := by
  obtain ⟨h1, h2, h3⟩ := h
  obtain ⟨v1, _, _, v2, _⟩ := VA_v hV h2
  rcases h3 with ⟨_, _, e⟩ | ⟨_, rr, n, _, c2, _, c3, c4⟩
  · rw [e]; exact Nat.zero_le 30
  · have r := hA.2.2.2.2.2.2 rr c2
    obtain ⟨_, w2⟩ := RN_W v1 v2 WS_00 n s0 (fun j hj => VA_e hV c2 (by omega)) c4
    have z : (s00 G).2.2.2 = 0 := rfl
    omega
/-- what stands behind both loads -/
def LD3 (w w1 w3 : pm_W) (p1 : Int32) (u : Nat) (s1 s2 : SN) : Prop := p1.toInt = u ∧ u < (al w 0).toInt.toNat ∧ u ≤ 1 ∧ LSt (Pof (al w) u) s1 s2 ∧ CSt w1 33 (5 + 5 * u) (Pof (al w) u) s1.1 s1.2.1 s1.2.2.1 s1.2.2.2 ∧ RSt w3 s2.1 s2.2.1 s2.2.2.1 s2.2.2.2 ∧ s1.2.2.2 ≤ 30
theorem LOAD3 (h3 : RL3 w) (z : PS X k 98 0 [.ref 0, .int p1, .int p2, .int p3, pm_dead, pm_dead, pm_dead] [] w q1 w1) (S2 : SK w2) (e : al w2 = al w) (y : PS X k2 246 0 [.ref 147, .int p1, .int p2, .int p3] [] w2 q2 w3) : FM [(147, 14), (147, 15), (147, 16)] [152, 153] w2 w3 ∧ al w3 = al w ∧ ((q1 = some (.int 0) ∧ q2 = some (.int 0)) ∨ ∃ (u : Nat) (s1 s2 : SN), q1 = some (.int 1) ∧ q2 = some (.int 1) ∧ LD3 w w1 w3 p1 u s1 s2) := by
  obtain ⟨f1, alt⟩ := F98 h3 z
  obtain ⟨f2, alt2⟩ := F246 S2 (by rw [e]; exact h3.1.2.1.1) (by rw [e]; exact h3.2) y
  have e3 : al w3 = al w := by rw [← e]; funext q; unfold al; rw [FM_a f2 (by simp)]
  rw [e] at alt2
  refine ⟨f2, e3, ?_⟩
  have hu2 := h3.1.2.1.1.2.1
  rcases alt with ⟨u, s1, a1, a2, a3⟩ | ⟨a1, a2⟩
  · rcases alt2 with ⟨u2, s2, b1, b2, b3⟩ | ⟨b1, b2⟩
    · obtain ⟨e1, l⟩ := LDR_2 h3.2 a2 b2
      exact Or.inr ⟨u, s1, s2, a1, b1, a2.1, a2.2.1, by have := a2.2.1; omega, l, a3, b3, LDR_N h3.2 h3.1.2.1.1 a2⟩
    · exact (LD_no h3.2 a2 b2).elim
  · rcases alt2 with ⟨u2, s2, b1, b2, b3⟩ | ⟨b1, b2⟩
    · exact (LD_no h3.2 b2 a2).elim
    · exact Or.inl ⟨a1, b1⟩
end HRR
end
section
/-! ===== masks of bits ===== -/
section HSM
variable {x y z : Int32} {B b : Nat} {c d : Nat → Bool}
/-- x's bits below B are c, the rest is 0 -/
def MSK (x : Int32) (B : Nat) (c : Nat → Bool) : Prop := ∀ i, i < 32 → x.toBitVec.getLsbD i = (decide (i < B) && c i)
theorem MSK_cg (h1 : MSK x B c) (h : ∀ b, b < B → d b = c b) : MSK x B d := by
  intro i hi
  rw [h1 i hi]
  by_cases e : i < B
  · rw [h i e]
  · rw [decide_eq_false e]; rfl
theorem MSK_0 : MSK 0 B (fun _ => false) := by
  intro i hi
  rw [Bool.and_false]
  show (0 : Int32).toBitVec.getLsbD i = false
  rw [show (0 : Int32).toBitVec = 0#32 from rfl]
  exact BitVec.getLsbD_zero
theorem MSK_or (h1 : MSK x B c) (h2 : MSK y B d) : MSK (x ||| y) B (fun q => c q || d q) := by
  intro i hi
  rw [Int32.toBitVec_or, BitVec.getLsbD_or, h1 i hi, h2 i hi]
  cases decide (i < B) <;> rfl
theorem i32_o (h : y.toInt = b) (hb : b < 32) : y = Int32.ofNat b := by
  apply Int32.toInt_inj.mp
  rw [h, Int32.toInt_ofNat_of_lt (by omega)]
theorem sh1_b (h : y.toInt = b) (hb : b < 32) (i : Nat) (hi : i < 32) : ((1 : Int32) <<< (y &&& 31)).toBitVec.getLsbD i = decide (i = b) := by
  have e := i32_o h hb
  have t : (List.range 32).all (fun b => (List.range 32).all (fun i => ((1 : Int32) <<< (Int32.ofNat b &&& 31)).toBitVec.getLsbD i == decide (i = b))) = true := by decide +kernel
  have t1 := List.all_eq_true.mp t b (List.mem_range.mpr hb)
  have t2 := List.all_eq_true.mp t1 i (List.mem_range.mpr hi)
  rw [e]
  exact eq_of_beq t2
theorem MSK_b (h : y.toInt = b) (hb : b < B) (hB : B ≤ 32) : MSK (1 <<< (y &&& 31)) B (fun q => decide (q = b)) := by
  intro i hi
  rw [sh1_b h (by omega) i hi]
  show decide (i = b) = (decide (i < B) && decide (i = b))
  by_cases e : i = b
  · rw [decide_eq_true e, decide_eq_true (show i < B by omega)]; rfl
  · rw [decide_eq_false e, Bool.and_false]
theorem MSK_ob (h1 : MSK x B c) (h : y.toInt = b) (hb : b < B) (hB : B ≤ 32) : MSK (x ||| (1 <<< (y &&& 31))) B (fun q => c q || decide (q = b)) := MSK_or h1 (MSK_b h hb hB)
theorem shr_b (h : y.toInt = b) (hb : b < 32) : (x >>> (y &&& 31)).toBitVec.getLsbD 0 = x.toBitVec.getLsbD b := by
  have e := i32_o h hb
  have t : (List.range 32).all (fun b => ((Int32.ofNat b &&& 31).toBitVec.smod 32).toNat == b) = true := by decide +kernel
  have t1 := eq_of_beq (List.all_eq_true.mp t b (List.mem_range.mpr hb))
  rw [e, Int32.toBitVec_shiftRight, BitVec.sshiftRight_eq', t1, BitVec.getLsbD_sshiftRight]
  rw [Nat.add_zero, if_pos hb]
  rfl
theorem and1 : (x &&& 1) = 1 ↔ x.toBitVec.getLsbD 0 = true := by
  have g : ∀ i, i < 32 → (x &&& 1).toBitVec.getLsbD i = (x.toBitVec.getLsbD 0 && decide (i = 0)) := by
    intro i hi
    rw [Int32.toBitVec_and, BitVec.getLsbD_and]
    have t : (List.range 32).all (fun i => (1 : Int32).toBitVec.getLsbD i == decide (i = 0)) = true := by decide +kernel
    rw [eq_of_beq (List.all_eq_true.mp t i (List.mem_range.mpr hi))]
    by_cases e : i = 0
    · rw [e]
    · rw [decide_eq_false e, Bool.and_false, Bool.and_false]
  constructor
  · intro e
    have q := g 0 (by decide)
    rw [e] at q
    rw [show (1 : Int32).toBitVec.getLsbD 0 = true by decide +kernel, decide_eq_true rfl, Bool.and_true] at q
    exact q.symm
  · intro e
    apply Int32.toBitVec_inj.mp
    apply BitVec.eq_of_getLsbD_eq
    intro i hi
    rw [g i hi, e, Bool.true_and]
    have t : (List.range 32).all (fun i => (1 : Int32).toBitVec.getLsbD i == decide (i = 0)) = true := by decide +kernel
    exact (eq_of_beq (List.all_eq_true.mp t i (List.mem_range.mpr hi))).symm
theorem and1z : (x &&& 1) = 0 ↔ x.toBitVec.getLsbD 0 = false := by
  constructor
  · intro e
    cases h : x.toBitVec.getLsbD 0 with
    | false => rfl
    | true =>
      rw [and1.mpr h] at e
      exact absurd e (by decide +kernel)
  · intro e
    apply Int32.toBitVec_inj.mp
    apply BitVec.eq_of_getLsbD_eq
    intro i hi
    rw [Int32.toBitVec_and, BitVec.getLsbD_and]
    have t : (List.range 32).all (fun i => (1 : Int32).toBitVec.getLsbD i == decide (i = 0)) = true := by decide +kernel
    rw [eq_of_beq (List.all_eq_true.mp t i (List.mem_range.mpr hi))]
    rw [show (0 : Int32).toBitVec = 0#32 from rfl, BitVec.getLsbD_zero]
    by_cases e2 : i = 0
    · rw [e2, e]; rfl
    · rw [decide_eq_false e2, Bool.and_false]
/-- a bit asked for -/
theorem MSK_t (h1 : MSK x B c) (h : y.toInt = b) (hb : b < B) (hB : B ≤ 32) : ((x >>> (y &&& 31)) &&& 1) = 1 ↔ c b = true := by
  rw [and1, shr_b h (by omega), h1 b (by omega), decide_eq_true hb, Bool.true_and]
theorem MSK_f (h1 : MSK x B c) (h : y.toInt = b) (hb : b < B) (hB : B ≤ 32) : ((x >>> (y &&& 31)) &&& 1) = 0 ↔ c b = false := by
  rw [and1z, shr_b h (by omega), h1 b (by omega), decide_eq_true hb, Bool.true_and]
end HSM
end
section
/-! ===== take ===== -/
section HVT
variable {X : pm_X} {k k2 : Nat} {w0 w w1 w2 w3 w4 w' : pm_W} {r r2 q1 q2 : Option Value} {p p1 p2 p3 p4 p5 p6 i1 i2 i3 sl x y z z1 z2 : Int32} {n i v j m u u2 P t s a b Q B rr len o3 N K S : Nat} {V V' D E G G1 G2 : Nat → Int32} {s0 s1 s2 t1 t2 : SN} {c d f g : Nat → Bool}
theorem zi_div (hx : x.toInt = a) (hy : y.toInt = b) : (x / y).toInt = (a / b : Nat) := by
  have h1 := x.toInt_lt
  rw [Int32.toInt_div, hx, hy, show Int.tdiv (a : Int) b = ((a / b : Nat) : Int) from rfl]
  have : a / b ≤ a := Nat.div_le_self a b
  generalize a / b = q at this ⊢
  exact Int.bmod_eq_of_le (by omega) (by omega)
theorem zi_rem (hx : x.toInt = a) (hy : y.toInt = b) : (x - x / y * y).toInt = (a % b : Nat) := by
  have h1 := x.toInt_lt
  have hd := zi_div hx hy
  have hm : a / b * b ≤ a := Nat.div_mul_le_self a b
  have e : ((a / b : Nat) : Int) * (b : Int) = ((a / b * b : Nat) : Int) := (Int.natCast_mul _ _).symm
  have q := Nat.div_add_mod a b
  rw [Nat.mul_comm] at q
  rw [Int32.toInt_sub, Int32.toInt_mul, hd, hx, hy, e]
  generalize a / b * b = c at hm q ⊢
  generalize a % b = d at q ⊢
  rw [Int.bmod_eq_of_le (n := ((c : Nat) : Int)) (by omega) (by omega), Int.bmod_eq_of_le (by omega) (by omega)]
  omega
theorem F89m (hS : SK w) (hx : MSK p1 B c) (hy : p2.toInt = b) (hb : b < B) (hB : B ≤ 32) (h : PS X k 89 0 [.int p1, .int p2] [] w r w') : r = some (.int (b2i (c b))) ∧ w' = w := by
  cases k with
  | zero => exact (PS_0 h).elim
  | succ k =>
    have h := U89_0 hS h
    by_cases q : ((p1 >>> (p2 &&& 31)) &&& 1) = 0
    · rw [if_pos q] at h
      rw [(MSK_f hx hy hb hB).mp q]
      exact h
    · rw [if_neg q] at h
      have e : c b = true := by
        cases hh : c b with
        | true => rfl
        | false => exact absurd ((MSK_f hx hy hb hB).mpr hh) q
      rw [e]
      exact h
end HVT
end
section
/-! ===== steps from one to others in a graph of at most nine ===== -/
section HXR
variable {E : Nat → Nat → Bool} {P s k j b a n i : Nat} {f g c d : Nat → Bool} {x y : Int32} {B : Nat}
def cntN (f : Nat → Bool) : Nat → Nat
  | 0 => 0
  | n + 1 => cntN f n + if f n = true then 1 else 0
theorem cntN_le : ∀ n, cntN f n ≤ n
  | 0 => Nat.le_refl 0
  | n + 1 => by
    have ih := cntN_le n
    unfold cntN
    split <;> omega
end HXR
end
section
/-! ===== a want of a loaded state; who is reached with room ===== -/
section HYW
variable {X : pm_X} {k k2 : Nat} {w0 w w1 w2 w3 w4 w' : pm_W} {r r2 q0 q1 q2 : Option Value} {p p1 p2 p3 p4 p5 p6 i1 i2 i3 sl x y z z1 z2 : Int32} {i v j m u u2 P t s b Q B rr len o3 N K S W κ c : Nat} {n : Int32} {V V' D E G G1 G2 : Nat → Int32} {s0 s1 s2 t1 t2 : SN} {a : Nat → Int32}
/-- how many wants, a want's part -/
def Wof (a : Nat → Int32) (u : Nat) : Nat := (a (611 + 132 * u)).toInt.toNat
def wtP (a : Nat → Int32) (u κ c : Nat) : Int32 := a (712 + 132 * u + 4 * κ + c)
theorem VA_w (h : VAa a) (hu : u < (a 0).toInt.toNat) : (a (611 + 132 * u)).toInt = Wof a u ∧ Wof a u ≤ 7 ∧ ∀ κ, κ < Wof a u → 0 ≤ (wtP a u κ 0).toInt ∧ (wtP a u κ 0).toInt < Pof a u ∧ 0 ≤ (wtP a u κ 1).toInt ∧ (wtP a u κ 1).toInt < Pof a u ∧ (wtP a u κ 0).toInt ≠ (wtP a u κ 1).toInt ∧ 1 ≤ (wtP a u κ 2).toInt ∧ (wtP a u κ 2).toInt ≤ 99 ∧ 0 ≤ (wtP a u κ 3).toInt ∧ (wtP a u κ 3).toInt ≤ 99 := by
  obtain ⟨g, hg, ⟨c1, c2⟩, ⟨d1, d2⟩, _, _, _, _, hw⟩ := h.1 u hu
  have d1 : 0 ≤ (a (610 + 132 * u + 1)).toInt := d1
  have d2 : (a (610 + 132 * u + 1)).toInt ≤ 7 := d2
  rw [show 610 + 132 * u + 1 = 611 + 132 * u by omega] at d1 d2
  have hw : ∀ k, k < (a (610 + 132 * u + 1)).toInt.toNat → 0 ≤ (a (610 + 132 * u + (102 + 4 * k))).toInt ∧ (a (610 + 132 * u + (102 + 4 * k))).toInt ≤ g ∧ 0 ≤ (a (610 + 132 * u + (103 + 4 * k))).toInt ∧ (a (610 + 132 * u + (103 + 4 * k))).toInt ≤ g ∧ (a (610 + 132 * u + (102 + 4 * k))).toInt ≠ (a (610 + 132 * u + (103 + 4 * k))).toInt ∧ 1 ≤ (a (610 + 132 * u + (104 + 4 * k))).toInt ∧ (a (610 + 132 * u + (104 + 4 * k))).toInt ≤ 99 ∧ 0 ≤ (a (610 + 132 * u + (105 + 4 * k))).toInt ∧ (a (610 + 132 * u + (105 + 4 * k))).toInt ≤ 99 := hw
  rw [show 610 + 132 * u + 1 = 611 + 132 * u by omega] at hw
  unfold Wof
  refine ⟨by omega, by omega, fun κ hκ => ?_⟩
  have q := hw κ hκ
  have e0 : wtP a u κ 0 = a (610 + 132 * u + (102 + 4 * κ)) := by unfold wtP; rw [show 712 + 132 * u + 4 * κ + 0 = 610 + 132 * u + (102 + 4 * κ) by omega]
  have e1 : wtP a u κ 1 = a (610 + 132 * u + (103 + 4 * κ)) := by unfold wtP; rw [show 712 + 132 * u + 4 * κ + 1 = 610 + 132 * u + (103 + 4 * κ) by omega]
  have e2 : wtP a u κ 2 = a (610 + 132 * u + (104 + 4 * κ)) := by unfold wtP; rw [show 712 + 132 * u + 4 * κ + 2 = 610 + 132 * u + (104 + 4 * κ) by omega]
  have e3 : wtP a u κ 3 = a (610 + 132 * u + (105 + 4 * κ)) := by unfold wtP; rw [show 712 + 132 * u + 4 * κ + 3 = 610 + 132 * u + (105 + 4 * κ) by omega]
  rw [e0, e1, e2, e3]
  unfold Pof
  omega
/-- the reference's -/
theorem F265 (h3 : RL3 w) (z : PS X k 98 0 [.ref 0, .int p1, .int p2, .int p3, pm_dead, pm_dead, pm_dead] [] w q1 w1) (S2 : SK w2) (e : al w2 = al w) (h : PS X k2 265 0 [.ref 147, .int p1, .int p2, .int p3, .int p4] [] w2 r w') : SK w' ∧ al w' = al w ∧ ((q1 = some (.int 0) ∧ r = some (.int 0)) ∨ ∃ (u : Nat) (s1 s2 : SN), q1 = some (.int 1) ∧ LD3 w w1 w' p1 u s1 s2 ∧ r = some (.int (b2i (decide (0 ≤ p4.toInt ∧ p4.toInt < (Wof (al w) u : Nat)))))) := by
  cases k2 with
  | zero => exact (PS_0 h).elim
  | succ k2 =>
    obtain ⟨q6, w6, y6, h⟩ := U265_0 S2 h
    obtain ⟨f2, e6, alt2⟩ := LOAD3 h3 z S2 e y6
    have S6 : SK w6 := f2.2.2.2
    rcases alt2 with ⟨b0, b2⟩ | ⟨u, t1, t2, b1, b2, b3⟩
    · have h := h _ b2 S6
      rw [if_pos rfl] at h
      rw [h.2]
      exact ⟨S6, e6, Or.inl ⟨b0, h.1⟩⟩
    · have h := h _ b2 S6
      rw [if_neg (by decide +kernel)] at h
      obtain ⟨c1, c2, c3, _⟩ := id b3
      obtain ⟨v1, v2, _⟩ := VA_w h3.2 c2
      have h := use_p S6 h (fun _ _ y => F217v S6 c1 c3 y)
      have h := use_p S6 h (fun _ _ y => F223n (m := 610 + 132 * u) (L := Wof (al w) u) S6 (plV c1 c3) (by omega) (by rw [e6, show 610 + 132 * u + 1 = 611 + 132 * u by omega]; exact v1) (by omega) y)
      by_cases c : 0 ≤ p4.toInt ∧ p4.toInt < (Wof (al w) u : Nat)
      · have h := ifb_t c h
        rw [h.2]
        refine ⟨S6, e6, Or.inr ⟨u, t1, t2, b1, b3, ?_⟩⟩
        rw [decide_eq_true c]; exact h.1
      · have h := ifb_f c h
        rw [h.2]
        refine ⟨S6, e6, Or.inr ⟨u, t1, t2, b1, b3, ?_⟩⟩
        rw [decide_eq_false c]; exact h.1
theorem F224w (hS : SK w) (hu : u ≤ 1) (hp : p1.toInt = (610 + 132 * u : Nat)) (h4 : p2.toInt = κ) (hκ : κ < 7) (hc : p3.toInt = c) (hc4 : c < 4) (h : PS X k 224 0 [.ref 147, .int p1, .int p2, .int p3] [] w r w') : r = some (.int (wtP (al w) u κ c)) ∧ w' = w := by
  have e102 : (102 : Int32).toInt = 102 := by decide +kernel
  obtain ⟨h1, h2⟩ := F224 hS h
  refine ⟨?_, h2⟩
  rw [h1, aG_n (m := 712 + 132 * u + 4 * κ + c) (by rw [zi_add (zi_add (zi_add hp e102 (by omega) (by omega)) (zi_mul four32 h4 (by omega) (by omega)) (by omega) (by omega)) hc (by omega) (by omega)]; omega)]
  rfl
end HYW
end
section
/-! ===== sums, cuts ===== -/
section ICS
variable {f g : Nat → Int} {n m i j s t : Nat} {h c r : Nat → Nat → Int} {S S1 S2 : Nat → Bool} {o v : Nat → Int} {x y : Int}
def suI (f : Nat → Int) : Nat → Int
  | 0 => 0
  | n + 1 => suI f n + f n
theorem suI_cg : ∀ n, (∀ i, i < n → f i = g i) → suI f n = suI g n
  | 0, _ => rfl
  | n + 1, h => by unfold suI; rw [suI_cg n (fun i hi => h i (by omega)), h n (by omega)]
theorem suI_add : ∀ n, suI (fun i => f i + g i) n = suI f n + suI g n
  | 0 => rfl
  | n + 1 => by unfold suI; rw [suI_add n]; omega
theorem suI_sub : ∀ n, suI (fun i => f i - g i) n = suI f n - suI g n
  | 0 => rfl
  | n + 1 => by unfold suI; rw [suI_sub n]; omega
theorem suI_neg : ∀ n, suI (fun i => -f i) n = -suI f n
  | 0 => rfl
  | n + 1 => by unfold suI; rw [suI_neg n]; omega
theorem suI_le : ∀ n, (∀ i, i < n → f i ≤ g i) → suI f n ≤ suI g n
  | 0, _ => Int.le_refl _
  | n + 1, h => by
    have a := suI_le n (fun i hi => h i (by omega))
    have b := h n (by omega)
    unfold suI
    omega
theorem suI_z : ∀ n, (∀ i, i < n → f i = 0) → suI f n = 0
  | 0, _ => rfl
  | n + 1, h => by unfold suI; rw [suI_z n (fun i hi => h i (by omega)), h n (by omega)]; rfl
theorem suI_nn (h : ∀ i, i < n → 0 ≤ f i) : 0 ≤ suI f n := by
  have a := suI_le (f := fun _ => 0) (g := f) n h
  rw [suI_z (f := fun _ => 0) n (fun _ _ => rfl)] at a
  exact a
theorem suI_ext (hm : m ≤ n) (h : ∀ i, m ≤ i → i < n → f i = 0) : suI f n = suI f m := by
  induction n with
  | zero => rw [show m = 0 by omega]
  | succ n ih =>
    by_cases e : m = n + 1
    · rw [e]
    · show suI f n + f n = suI f m
      rw [ih (by omega) (fun i h1 h2 => h i h1 (by omega)), h n (by omega) (by omega)]
      omega
theorem suI_one : ∀ n, j < n → suI (fun i => if i = j then x else 0) n = x
  | 0, h => absurd h (Nat.not_lt_zero j)
  | n + 1, h => by
    unfold suI
    by_cases e : j = n
    · subst e
      rw [suI_z j (fun i hi => if_neg (by omega)), if_pos rfl]
      omega
    · rw [suI_one n (by omega), if_neg (by omega)]
      omega
theorem suI_swap : ∀ m n, suI (fun a => suI (fun b => h a b) n) m = suI (fun b => suI (fun a => h a b) m) n
  | 0, n => (suI_z n (fun _ _ => rfl)).symm
  | m + 1, n => by
    show suI (fun a => suI (fun b => h a b) n) m + suI (fun b => h m b) n = suI (fun b => suI (fun a => h a b) m + h m b) n
    rw [suI_swap m n, suI_add n]
def bz (b : Bool) (x : Int) : Int := if b = true then x else 0
theorem bz_t : bz true x = x := rfl
theorem bz_f : bz false x = 0 := rfl
theorem bz_s {b : Bool} : ∀ n, bz b (suI f n) = suI (fun i => bz b (f i)) n := by
  intro n
  cases b with
  | true => exact suI_cg n (fun _ _ => rfl)
  | false => exact (suI_z n (fun _ _ => rfl)).symm
theorem bz_le {b : Bool} (h : x ≤ y) : bz b x ≤ bz b y := by
  cases b
  · exact Int.le_refl _
  · exact h
/-- what is from S to the others -/
def cutC (c : Nat → Nat → Int) (S : Nat → Bool) (n : Nat) : Int := suI (fun a => bz (S a) (suI (fun b => bz (!S b) (c a b)) n)) n
/-- what goes out of S, without the part within S, is nothing less -/
theorem net_S (ha : ∀ a b, a < n → b < n → h a b = -h b a) : suI (fun a => bz (S a) (suI (fun b => h a b) n)) n = cutC h S n := by
  have z : suI (fun a => suI (fun b => bz (S a) (bz (S b) (h a b))) n) n = 0 := by
    have sw := suI_swap (h := fun a b => bz (S a) (bz (S b) (h a b))) n n
    have ng : suI (fun b => suI (fun a => bz (S a) (bz (S b) (h a b))) n) n = -suI (fun a => suI (fun b => bz (S a) (bz (S b) (h a b))) n) n := by
      rw [← suI_neg n]
      refine suI_cg n (fun b hb => ?_)
      rw [← suI_neg n]
      refine suI_cg n (fun a hx => ?_)
      rw [ha a b hx hb]
      cases S a <;> cases S b <;> simp [bz]
    omega
  have e : suI (fun a => bz (S a) (suI (fun b => h a b) n)) n = suI (fun a => suI (fun b => bz (S a) (bz (S b) (h a b))) n) n + cutC h S n := by
    unfold cutC
    rw [← suI_add n]
    refine suI_cg n (fun a _ => ?_)
    rw [bz_s, bz_s, ← suI_add n]
    refine suI_cg n (fun b _ => ?_)
    cases S a <;> cases S b <;> simp [bz]
  rw [e, z, Int.zero_add]
theorem cut_le (hr : ∀ a b, a < n → b < n → a ≠ b → h a b ≤ c a b) : cutC h S n ≤ cutC c S n := by
  unfold cutC
  refine suI_le n (fun a ha => ?_)
  cases hs : S a with
  | false => exact Int.le_refl _
  | true =>
    rw [bz_t, bz_t]
    refine suI_le n (fun b hb => ?_)
    by_cases e : a = b
    · rw [← e, hs]
      exact Int.le_refl _
    · exact bz_le (hr a b ha hb e)
theorem cut_eq (hr : ∀ a b, a < n → b < n → S a = true → S b = false → h a b = c a b) : cutC h S n = cutC c S n := by
  unfold cutC
  refine suI_cg n (fun a ha => ?_)
  cases hs : S a with
  | false => rfl
  | true =>
    rw [bz_t, bz_t]
    refine suI_cg n (fun b hb => ?_)
    cases hb2 : S b with
    | true => rfl
    | false => exact hr a b ha hb hs hb2
end ICS
end
section
/-! ===== the least cut is the most that goes through ===== -/
section IDF
variable {f g : Nat → Int} {n m i j s t k : Nat} {c r c' : Nat → Nat → Int} {S : Nat → Bool} {o o' v : Nat → Int} {x y : Int}
/-- what is left of c on the way and back -/
def FLW (c r : Nat → Nat → Int) (n : Nat) : Prop := (∀ a b, a < n → b < n → a ≠ b → 0 ≤ r a b) ∧ ∀ a b, a < n → b < n → r a b + r b a = c a b + c b a
def gone (c r : Nat → Nat → Int) (n a : Nat) : Int := suI (fun b => c a b - r a b) n
/-- the most from s to t -/
def MCst (c : Nat → Nat → Int) (n s t : Nat) (x : Int) : Prop := (∀ S : Nat → Bool, S s = true → S t = false → x ≤ cutC c S n) ∧ ∃ S : Nat → Bool, S s = true ∧ S t = false ∧ x = cutC c S n
theorem net_F (hF : FLW c r n) : suI (fun a => bz (S a) (gone c r n a)) n = cutC (fun a b => c a b - r a b) S n := by
  refine net_S (h := fun a b => c a b - r a b) (fun a b ha hb => ?_)
  have q := hF.2 a b ha hb
  show c a b - r a b = -(c b a - r b a)
  omega
theorem net_le (hF : FLW c r n) : suI (fun a => bz (S a) (gone c r n a)) n ≤ cutC c S n := by
  rw [net_F hF]
  refine cut_le (fun a b ha hb hne => ?_)
  have q := hF.1 a b ha hb hne
  show c a b - r a b ≤ c a b
  omega
theorem net_eq (hF : FLW c r n) (h0 : ∀ a b, a < n → b < n → S a = true → S b = false → r a b = 0) : suI (fun a => bz (S a) (gone c r n a)) n = cutC c S n := by
  rw [net_F hF]
  refine cut_eq (fun a b ha hb h1 h2 => ?_)
  have q := h0 a b ha hb h1 h2
  show c a b - r a b = c a b
  omega
theorem st_sum (hs : s < n) (h1 : S s = true) (h2 : S t = false) (hv : ∀ a, a < n → gone c r n a = (if a = s then x else 0) - (if a = t then x else 0)) : suI (fun a => bz (S a) (gone c r n a)) n = x := by
  have e : suI (fun a => bz (S a) (gone c r n a)) n = suI (fun i => if i = s then x else 0) n := by
    refine suI_cg n (fun a ha => ?_)
    rw [hv a ha]
    by_cases e1 : a = s
    · rw [e1, h1, if_pos rfl, if_neg (fun e => by rw [e, h2] at h1; exact Bool.noConfusion h1)]
      show x - 0 = x
      omega
    · rw [if_neg e1]
      by_cases e2 : a = t
      · rw [e2, h2]; rfl
      · rw [if_neg e2]
        cases S a <;> rfl
  rw [e, suI_one n hs]
theorem st_MC (hF : FLW c r n) (hs : s < n) (hv : ∀ a, a < n → gone c r n a = (if a = s then x else 0) - (if a = t then x else 0)) (h1 : S s = true) (h2 : S t = false) (h0 : ∀ a b, a < n → b < n → S a = true → S b = false → r a b = 0) : MCst c n s t x := by
  refine ⟨fun S' a1 a2 => ?_, S, h1, h2, ?_⟩
  · have q := net_le (S := S') hF
    rw [st_sum hs a1 a2 hv] at q
    exact q
  · have q := net_eq hF h0
    rw [st_sum hs h1 h2 hv] at q
    exact q
/-- with what each has and wants -/
def psI (x : Int) : Int := max x 0
def CUTo (c : Nat → Nat → Int) (o : Nat → Int) (S : Nat → Bool) (n : Nat) : Int := suI (fun a => bz (!S a) (psI (o a)) + bz (S a) (psI (-o a))) n + cutC c S n
def MCo (c : Nat → Nat → Int) (o : Nat → Int) (n : Nat) (x : Int) : Prop := (∀ S : Nat → Bool, x ≤ CUTo c o S n) ∧ ∃ S : Nat → Bool, x = CUTo c o S n
theorem MCo_uq (h1 : MCo c o n x) (h2 : MCo c o n y) : x = y := by
  obtain ⟨a1, S1, a2⟩ := h1
  obtain ⟨b1, S2, b2⟩ := h2
  have q1 := a1 S2
  have q2 := b1 S1
  omega
/-- what is left over, between nothing and what there was -/
def OV (o v : Nat → Int) (n : Nat) : Prop := ∀ a, a < n → (0 ≤ o a → 0 ≤ v a ∧ v a ≤ o a) ∧ (o a ≤ 0 → o a ≤ v a ∧ v a ≤ 0)
theorem o_le (hF : FLW c r n) (hv : ∀ a, a < n → gone c r n a = o a - v a) (hO : OV o v n) : suI (fun a => psI (o a)) n - suI (fun a => psI (v a)) n ≤ CUTo c o S n := by
  have q := net_le (S := S) hF
  have e : suI (fun a => bz (S a) (gone c r n a)) n = suI (fun a => bz (S a) (o a - v a)) n := suI_cg n (fun a ha => by rw [hv a ha])
  rw [e] at q
  unfold CUTo
  rw [← suI_sub n]
  have l : suI (fun a => psI (o a) - psI (v a)) n ≤ suI (fun a => bz (S a) (o a - v a) + (bz (!S a) (psI (o a)) + bz (S a) (psI (-o a)))) n := by
    refine suI_le n (fun a ha => ?_)
    obtain ⟨h1, h2⟩ := hO a ha
    cases S a with
    | false =>
      show psI (o a) - psI (v a) ≤ 0 + (psI (o a) + 0)
      unfold psI
      omega
    | true =>
      show psI (o a) - psI (v a) ≤ (o a - v a) + (0 + psI (-o a))
      unfold psI
      omega
  rw [suI_add n] at l
  omega
theorem o_eq (hF : FLW c r n) (hv : ∀ a, a < n → gone c r n a = o a - v a) (hO : OV o v n) (h0 : ∀ a b, a < n → b < n → S a = true → S b = false → r a b = 0) (h1 : ∀ a, a < n → 0 < v a → S a = true) (h2 : ∀ a, a < n → v a < 0 → S a = false) : suI (fun a => psI (o a)) n - suI (fun a => psI (v a)) n = CUTo c o S n := by
  have q := net_eq hF h0
  have e : suI (fun a => bz (S a) (gone c r n a)) n = suI (fun a => bz (S a) (o a - v a)) n := suI_cg n (fun a ha => by rw [hv a ha])
  rw [e] at q
  unfold CUTo
  rw [← suI_sub n]
  have l : suI (fun a => psI (o a) - psI (v a)) n = suI (fun a => bz (S a) (o a - v a) + (bz (!S a) (psI (o a)) + bz (S a) (psI (-o a)))) n := by
    refine suI_cg n (fun a ha => ?_)
    obtain ⟨h3, h4⟩ := hO a ha
    have h1 := h1 a ha
    have h2 := h2 a ha
    cases hs : S a with
    | false =>
      rw [hs] at h1
      have : ¬ 0 < v a := fun z => Bool.noConfusion (h1 z)
      show psI (o a) - psI (v a) = 0 + (psI (o a) + 0)
      unfold psI
      omega
    | true =>
      rw [hs] at h2
      have : ¬ v a < 0 := fun z => Bool.noConfusion (h2 z)
      show psI (o a) - psI (v a) = (o a - v a) + (0 + psI (-o a))
      unfold psI
      omega
  rw [suI_add n] at l
  omega
theorem o_MC (hF : FLW c r n) (hv : ∀ a, a < n → gone c r n a = o a - v a) (hO : OV o v n) (h0 : ∀ a b, a < n → b < n → S a = true → S b = false → r a b = 0) (h1 : ∀ a, a < n → 0 < v a → S a = true) (h2 : ∀ a, a < n → v a < 0 → S a = false) : MCo c o n (suI (fun a => psI (o a)) n - suI (fun a => psI (v a)) n) := ⟨fun _ => o_le hF hv hO, S, o_eq hF hv hO h0 h1 h2⟩
end IDF
end
