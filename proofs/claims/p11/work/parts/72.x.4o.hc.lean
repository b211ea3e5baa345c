/-! ===== an act played (the reference) ===== -/
section HC
variable {X : pm_X} {k k2 : Nat} {w0 w w1 w2 w' : pm_W} {r r2 : Option Value} {p p1 p2 p3 p4 p5 f0 p0 f q x y M nn : Int32} {n i v j m T L u a c N K P t s b Q : Nat} {D D' G G1 G2 V E : Nat → Int32}
theorem rgW_q : ∀ m q, rgW E N m G q = if 10 * N + 4 ≤ q ∧ q < 10 * N + 4 + m then E (3 + (q - (10 * N + 4))) else G q
  | 0, q => by rw [if_neg (by omega)]; rfl
  | m + 1, q => by
    show (if q = 10 * N + 4 + m then E (3 + m) else rgW E N m G q) = _
    rw [rgW_q m q]
    by_cases c : q = 10 * N + 4 + m
    · rw [if_pos c, if_pos (by omega), show q - (10 * N + 4) = m by omega]
    · rw [if_neg c]
      by_cases c2 : 10 * N + 4 ≤ q ∧ q < 10 * N + 4 + m
      · rw [if_pos c2, if_pos (by omega)]
      · rw [if_neg c2, if_neg (by omega)]
theorem rg4_q {mm till : Int32} (q : Nat) : rg4 N mm nn till G q = if q = 10 * N + 3 then 1 else if q = 10 * N + 2 then till else if q = 10 * N + 1 then nn else if q = 10 * N then mm else G q := rfl
/-- the new ring's cells -/
theorem new_q {till : Int32} (hm : m ≤ 6) : let G' := rgW E N m (rg4 N (Int32.ofNat m) nn till G); G' (10 * N) = Int32.ofNat m ∧ G' (10 * N + 1) = nn ∧ G' (10 * N + 2) = till ∧ G' (10 * N + 3) = 1 ∧ (∀ j, j < m → G' (10 * N + 4 + j) = E (3 + j)) ∧ ∀ q, q < 10 * N → G' q = G q := by
  refine ⟨?_, ?_, ?_, ?_, fun j hj => ?_, fun q hq => ?_⟩
  · rw [rgW_q, if_neg (by omega), rg4_q, if_neg (by omega), if_neg (by omega), if_neg (by omega), if_pos rfl]
  · rw [rgW_q, if_neg (by omega), rg4_q, if_neg (by omega), if_neg (by omega), if_pos rfl]
  · rw [rgW_q, if_neg (by omega), rg4_q, if_neg (by omega), if_pos rfl]
  · rw [rgW_q, if_neg (by omega), rg4_q, if_pos rfl]
  · rw [rgW_q, if_pos (by omega), show 10 * N + 4 + j - (10 * N + 4) = j by omega]
  · rw [rgW_q, if_neg (by omega), rg4_q, if_neg (by omega), if_neg (by omega), if_neg (by omega), if_neg (by omega)]
theorem WR_new {till : Int32} (hE : ERg E m) (hf : fitS P V D E m nn) (hn : 0 ≤ nn.toInt ∧ nn.toInt ≤ 99) (ht : 0 ≤ till.toInt ∧ till.toInt ≤ 99) : WRg P (rgW E N m (rg4 N (Int32.ofNat m) nn till G)) N := by
  obtain ⟨m2, m6, hr, hd, hz⟩ := hE
  obtain ⟨n0, n1, n2, n3, n4, _⟩ := new_q (N := N) (E := E) (nn := nn) (till := till) (G := G) m6
  have em : (Int32.ofNat m).toInt = (m : Nat) := ofN_i (by omega)
  have my : rMy (rgW E N m (rg4 N (Int32.ofNat m) nn till G)) N = m := by unfold rMy; rw [n0, em]; rfl
  refine ⟨by rw [n0, em]; omega, by rw [n0, em]; omega, by rw [n1]; exact hn.1, by rw [n1]; exact hn.2, by rw [n2]; exact ht.1, by rw [n2]; exact ht.2, Or.inr n3, fun i hi => ?_, fun i j hij hj => ?_⟩
  · rw [my] at hi
    rw [n4 i hi]
    have z := (hf i hi).1
    have y := hr i hi
    unfold eWho at z
    omega
  · rw [my] at hj
    unfold rWho
    rw [n4 i (by omega), n4 j hj]
    have z := hd i j hij hj
    have y := hr i (by omega)
    have y2 := hr j hj
    omega
/-- the act's cells, in all -/
def eL (w : pm_W) (Q t : Nat) : Int32 := al w (Q + t)
theorem aG_L {z : Int32} (h : z.toInt = (Q + t : Nat)) : aG w 148 z = eL w Q t := aG_n (m := Q + t) h
theorem md6 {i5 i3 : Int32} (h5 : i5.toInt = t) (h3 : i3.toInt = m) (ht : t < 6) (hm : m ≤ 6) (h1 : 1 ≤ m) : ((i5 + 1) - (i5 + 1) / i3 * i3).toInt = ((t + 1) % m : Nat) := by
  have e5 := i32_of h5 (by omega)
  have e3 := i32_of h3 (by omega)
  have h : (List.range 6).all (fun t => (List.range 7).all (fun m => decide (m = 0) || decide (((Int32.ofNat t + 1) - (Int32.ofNat t + 1) / Int32.ofNat m * Int32.ofNat m).toInt = (((t + 1) % m : Nat) : Int)))) = true := by decide +kernel
  have q := List.all_eq_true.mp h t (List.mem_range.mpr ht)
  have q := List.all_eq_true.mp q m (List.mem_range.mpr (by omega))
  rw [Bool.or_eq_true, decide_eq_true_iff, decide_eq_true_iff] at q
  rw [e5, e3]
  exact q.resolve_left (by omega)
theorem L233_2 (hS : SK w) (hQ : p2.toInt = Q) (hQ2 : Q ≤ 6000) (hE : ERg (eL w Q) m) : ∀ (k t : Nat) (i3 : Int32), i3.toInt = t → t ≤ m → PS X k 233 2 [.ref 147, .int p1, .int p2, .int i3, pm_dead, pm_dead, pm_dead, pm_dead] [] w r w' → ∃ (k' : Nat) (i3' : Int32), i3'.toInt = m ∧ PS X k' 233 27 [.ref 147, .int p1, .int p2, .int i3', pm_dead, pm_dead, pm_dead, pm_dead] [] w r w' := by
  intro k
  obtain ⟨m2, m6, hr, hd, hz⟩ := hE
  have m1 : ((-1 : Int32)).toInt = -1 := by decide +kernel
  induction k with
  | zero => intro t i3 h3 ht h; exact (PS_0 h).elim
  | succ k ih =>
    intro t i3 h3 ht h
    have h := U233_2 hS h
    by_cases c : 6 ≤ i3
    · rw [if_pos c] at h
      rw [Int32.le_iff_toInt_le, six32, h3] at c
      exact ⟨k, i3, by rw [h3]; congr 1; omega, h⟩
    · rw [if_neg c] at h
      rw [Int32.le_iff_toInt_le, six32, h3] at c
      obtain ⟨_, h⟩ := h
      rw [aG_L (t := 3 + t) (Q := Q) (by rw [zi_add (zi_add hQ three32 (by omega) (by omega)) h3 (by omega) (by omega)]; omega)] at h
      by_cases c2 : eL w Q (3 + t) < 0
      · rw [if_pos c2] at h
        rw [Int32.lt_iff_toInt_lt, z32] at c2
        have e : t = m := by
          by_cases y : t < m
          · have z := (hr t y).1
            omega
          · omega
        exact ⟨k, i3, by rw [h3, e], h⟩
      · rw [if_neg c2] at h
        rw [Int32.lt_iff_toInt_lt, z32] at c2
        have e : t < m := by
          by_cases y : t < m
          · exact y
          · have z := hz t (by omega) (by omega)
            rw [z, m1] at c2
            omega
        exact ih (t + 1) (i3 + 1) (by rw [zi_inc (n := 10) (by omega) (by omega), h3]; rfl) (by omega) h
theorem L233_33 (hS : SK w) (hu : u ≤ 1) (hp : p1.toInt = (610 + 132 * u : Nat)) (hP : (al w (610 + 132 * u)).toInt = P) (hP9 : P ≤ 9) (hQ : p2.toInt = Q) (hQ2 : Q ≤ 6000) (hE : ERg (eL w Q) m) {i3 : Int32} (h3 : i3.toInt = m) : ∀ (k t : Nat) (i4 i5 : Int32) (u6 u7 : Value), i5.toInt = t → t ≤ m → ((i4 = 1 ∧ ∀ i, i < t → fitO P (fun k => al w (610 + 132 * u + k)) (dR w) (eL w Q) m (eL w Q 1) i) ∨ (i4 = 0 ∧ ¬ fitS P (fun k => al w (610 + 132 * u + k)) (dR w) (eL w Q) m (eL w Q 1))) → PS X k 233 33 [.ref 147, .int p1, .int p2, .int i3, .int i4, .int i5, u6, u7] [] w r w' → ∃ (k' : Nat) (i4' i5' : Int32) (u6' u7' : Value), PS X k' 233 127 [.ref 147, .int p1, .int p2, .int i3, .int i4', .int i5', u6', u7'] [] w r w' ∧ ((i4' = 1 ∧ fitS P (fun k => al w (610 + 132 * u + k)) (dR w) (eL w Q) m (eL w Q 1)) ∨ (i4' = 0 ∧ ¬ fitS P (fun k => al w (610 + 132 * u + k)) (dR w) (eL w Q) m (eL w Q 1))) := by
  intro k
  obtain ⟨m2, m6, hr, hd, hz⟩ := hE
  induction k with
  | zero => intro t i4 i5 u6 u7 h5 ht hf h; exact (PS_0 h).elim
  | succ k ih =>
    intro t i4 i5 u6 u7 h5 ht hf h
    have h := U233_33 hS h
    by_cases c : i3 ≤ i5
    · rw [if_pos c] at h
      rw [Int32.le_iff_toInt_le, h3, h5] at c
      refine ⟨k, i4, i5, u6, u7, h, ?_⟩
      rcases hf with ⟨e, hf⟩ | ⟨e, hf⟩
      · exact Or.inl ⟨e, fun i hi => hf i (by omega)⟩
      · exact Or.inr ⟨e, hf⟩
    · rw [if_neg c] at h
      rw [Int32.le_iff_toInt_le, h3, h5] at c
      rcases hf with ⟨e, hf⟩ | ⟨e, hf⟩
      · rw [e, if_neg (by decide +kernel)] at h
        have htm : t < m := by omega
        obtain ⟨w1, w9⟩ := E_who hr htm
        have n9 := E_nx hr htm
        have enx : (if t + 1 < m then t + 1 else 0) = (t + 1) % m := by
          by_cases y : t + 1 < m
          · rw [if_pos y, Nat.mod_eq_of_lt y]
          · rw [if_neg y, show t + 1 = m by omega, Nat.mod_self]
        have hl : (t + 1) % m < m := Nat.mod_lt _ (by omega)
        have ea : aG w 148 ((p2 + 3) + i5) = eL w Q (3 + t) := aG_L (by rw [zi_add (zi_add hQ three32 (by omega) (by omega)) h5 (by omega) (by omega)]; omega)
        have eb : aG w 148 ((p2 + 3) + ((i5 + 1) - (i5 + 1) / i3 * i3)) = eL w Q (3 + (t + 1) % m) := aG_L (by rw [zi_add (zi_add hQ three32 (by omega) (by omega)) (md6 h5 h3 (by omega) m6 (by omega)) (by omega) (by omega)]; omega)
        have hnx : (eL w Q (3 + (t + 1) % m)).toInt = (eNx (eL w Q) m t : Nat) := by
          unfold eNx
          rw [enx]
          exact (E_who hr hl).1
        have i51 : (i5 + 1).toInt = (t + 1 : Nat) := by rw [zi_inc (n := 10) (by omega) (by omega), h5]; rfl
        obtain ⟨_, _, h⟩ := h
        rw [ea, eb] at h
        -- it can't be
        have bad : ∀ (k2 : Nat) (x6 x7 : Int32), ¬ fitS P (fun k => al w (610 + 132 * u + k)) (dR w) (eL w Q) m (eL w Q 1) → k2 = k → PS X k2 233 118 [.ref 147, .int p1, .int p2, .int i3, .int 1, .int i5, .int x6, .int x7] [] w r w' → ∃ (k' : Nat) (i4' i5' : Int32) (u6' u7' : Value), PS X k' 233 127 [.ref 147, .int p1, .int p2, .int i3, .int i4', .int i5', u6', u7'] [] w r w' ∧ ((i4' = 1 ∧ fitS P (fun k => al w (610 + 132 * u + k)) (dR w) (eL w Q) m (eL w Q 1)) ∨ (i4' = 0 ∧ ¬ fitS P (fun k => al w (610 + 132 * u + k)) (dR w) (eL w Q) m (eL w Q 1))) := by
          intro k2 x6 x7 hn hk z
          subst hk
          cases k2 with
          | zero => exact (PS_0 z).elim
          | succ k2 => exact ih (t + 1) 0 (i5 + 1) _ _ i51 (by omega) (Or.inr ⟨rfl, hn⟩) (sp_up (U233_118 hS z))
        have h := use_p hS h (fun _ _ z => F221n (m := 610 + 132 * u) (L := P) hS hp hP (by omega) z)
        by_cases d1 : 0 ≤ (eL w Q (3 + t)).toInt ∧ (eL w Q (3 + t)).toInt < P
        · have h := ifb_t d1 h
          have h := use_p hS h (fun _ _ z => F221n (m := 610 + 132 * u) (L := P) hS hp hP (by omega) z)
          by_cases d2 : 0 ≤ (eL w Q (3 + (t + 1) % m)).toInt ∧ (eL w Q (3 + (t + 1) % m)).toInt < P
          · have h := ifb_t d2 h
            have h := use_p hS h (fun _ _ z => F231n hS hp hu w1 hnx w9 n9 z)
            obtain ⟨_, h⟩ := h
            have en : aG w 148 (p2 + 1) = eL w Q 1 := aG_L (by rw [zi_add hQ o32 (by omega) (by omega)]; rfl)
            rw [en] at h
            by_cases d3 : rmI (fun k => al w (610 + 132 * u + k)) (dR w) (eWho (eL w Q) t) (eNx (eL w Q) m t) < eL w Q 1
            · rw [if_pos d3] at h
              rw [Int32.lt_iff_toInt_lt] at d3
              exact bad k _ _ (fun q => by have := (q t htm).2.2; omega) rfl h
            · rw [if_neg d3] at h
              rw [Int32.lt_iff_toInt_lt] at d3
              refine ih (t + 1) 1 (i5 + 1) _ _ i51 (by omega) (Or.inl ⟨rfl, fun i hi => ?_⟩) h
              by_cases e : i = t
              · rw [e]; exact ⟨by omega, by omega, by omega⟩
              · exact hf i (by omega)
          · have h := ifb_f d2 h
            exact bad k _ _ (fun q => by have := (q t htm).2.1; omega) rfl h
        · have h := ifb_f d1 h
          exact bad k _ _ (fun q => by have := (q t htm).1; omega) rfl h
      · rw [e, if_pos rfl] at h
        exact ⟨k, 0, i5, u6, u7, h, Or.inr ⟨rfl, hf⟩⟩
theorem L233_198 (hQ : p2.toInt = Q) (hQ2 : Q ≤ 6000) (hN : N < 37) (hE0 : E = eL w0 Q) (hEm : m ≤ 6) {i3 i4 i5 : Int32} (h3 : i3.toInt = m) (h5 : i5.toInt = (10 * N : Nat)) : ∀ (k : Nat) (w : pm_W) (t : Nat) (i6 : Int32) (u7 : Value), FM [] [153] w0 w → i6.toInt = t → t ≤ m → (gI w 147 14).toInt = N → gRr w = rgW E N t G → PS X k 233 198 [.ref 147, .int p1, .int p2, .int i3, .int i4, .int i5, .int i6, u7] [] w r w' → ∃ (w1 : pm_W) (k' : Nat) (i5' : Int32), FM [(147, 14)] [153] w0 w1 ∧ (gI w1 147 14).toInt = (N + 1 : Nat) ∧ gRr w1 = rgW E N m G ∧ PS X k' 233 246 [.ref 147, .int p1, .int p2, .int i3, .int i4, .int i5', .int 0, u7] [] w1 r w' := by
  intro k
  induction k with
  | zero => intro w t i6 u7 f0 h6 ht hN0 hg h; exact (PS_0 h).elim
  | succ k ih =>
    intro w t i6 u7 f0 h6 ht hN0 hg h
    have hS := f0.2.2.2
    have h := U233_198 hS h
    by_cases c : i3 ≤ i6
    · rw [if_pos c] at h
      rw [Int32.le_iff_toInt_le, h3, h6] at c
      have h := h _ rfl
      have et : t = m := by omega
      rw [et] at hg
      have f1 : FM [(147, 14)] [153] w (sI w 147 14 (gI w 147 14 + 1)) := FM_sI hS (by decide)
      refine ⟨_, k, i5, FM_trans (FM_mono f0 (by intro z hz; cases hz) (by decide)) f1, ?_, ?_, h⟩
      · rw [gI_sI (SK_isF hS (by decide +kernel)), zi_add hN0 o32 (by omega) (by omega)]; rfl
      · rw [← hg]; unfold gRr; rw [gA_sI]
    · rw [if_neg c] at h
      rw [Int32.le_iff_toInt_le, h3, h6] at c
      obtain ⟨_, _, h⟩ := h
      have h := h _ rfl
      have ea : aG w 148 ((p2 + 3) + i6) = E (3 + t) := by
        rw [aG_L (t := 3 + t) (Q := Q) (by rw [zi_add (zi_add hQ three32 (by omega) (by omega)) h6 (by omega) (by omega)]; omega), hE0]
        unfold eL al
        rw [FM_a f0 (by decide)]
      rw [ea] at h
      have ei : ((i5 + 4) + i6).toInt = (10 * N + 4 + t : Nat) := by rw [zi_add (zi_add h5 four32 (by omega) (by omega)) h6 (by omega) (by omega)]; rfl
      have f1 : FM [] [153] w (aS w 153 ((i5 + 4) + i6) (E (3 + t))) := FM_aS hS (by decide)
      refine ih _ (t + 1) (i6 + 1) u7 (FM_trans f0 f1) (by rw [zi_inc (n := 10) (by omega) (by omega), h6]; rfl) (by omega) (by rw [FM_i f1 (by intro z; cases z)]; exact hN0) ?_ h
      rw [gRr_aS hS ei (by omega), hg]
      rfl
theorem L233_246 (hP9 : P ≤ 9) (hQ : p2.toInt = Q) (hQ2 : Q ≤ 6000) (hN : N < 37) (hE0 : E = eL w0 Q) (hE : ERg E m) (hW : WRg P (gRr w0) N) (hmy : rMy (gRr w0) N = m) (hwho : ∀ j, j < m → gRr w0 (10 * N + 4 + j) = E (3 + j)) (hN0 : (gI w0 147 14).toInt = (N + 1 : Nat)) {i3 i4 i5 : Int32} (h3 : i3.toInt = m) : ∀ (k : Nat) (w : pm_W) (t : Nat) (i6 : Int32) (u7 : Value), FM [] [152] w0 w → i6.toInt = t → t ≤ m → dR w = adD E m (E 1) t D → PS X k 233 246 [.ref 147, .int p1, .int p2, .int i3, .int i4, .int i5, .int i6, u7] [] w r w' → r = some (.int 1) ∧ FM [] [152] w0 w' ∧ dR w' = adD E m (E 1) m D := by
  intro k
  obtain ⟨m2, m6, hr, hd, hz⟩ := hE
  induction k with
  | zero => intro w t i6 u7 f0 h6 ht hdd h; exact (PS_0 h).elim
  | succ k ih =>
    intro w t i6 u7 f0 h6 ht hdd h
    have hS := f0.2.2.2
    have h := U233_246 hS h
    by_cases c : i3 ≤ i6
    · rw [if_pos c] at h
      rw [Int32.le_iff_toInt_le, h3, h6] at c
      have et : t = m := by omega
      rw [et] at hdd
      rw [h.2]
      exact ⟨h.1, f0, hdd⟩
    · rw [if_neg c] at h
      rw [Int32.le_iff_toInt_le, h3, h6] at c
      have htm : t < m := by omega
      have eg : gRr w = gRr w0 := by funext q; unfold gRr; rw [FM_a f0 (by decide)]
      have eN : (gI w 147 14 - 1).toInt = (N : Nat) := by
        rw [zi_sub (show (gI w 147 14).toInt = (N + 1 : Nat) by rw [FM_i f0 (by intro z; cases z)]; exact hN0) o32 (by omega) (by omega)]
        omega
      have h := use_p hS h (fun _ _ z => F234 (j := t) hS eN h6 (by omega) (by omega) z)
      rw [eg, hwho t htm] at h
      obtain ⟨x7, h7, h⟩ := use_z hS h (fun _ _ z => F235 hS eN h6 (by omega) (by rw [eg]; exact hW) (by rw [eg, hmy]; exact htm) z)
      rw [eg] at h7
      obtain ⟨w1, w9⟩ := E_who hr htm
      have n9 := E_nx hr htm
      have enx : rNx (gRr w0) N t = eNx E m t := by
        unfold rNx eNx rWho eWho
        rw [hmy]
        by_cases y : t + 1 < m
        · rw [if_pos y, hwho _ y]
        · rw [if_neg y, hwho _ (by omega)]
      rw [enx] at h7
      obtain ⟨_, _, _, h⟩ := h
      have h := h _ rfl
      have ei : (9 * E (3 + t) + x7).toInt = (eCl E m t : Nat) := by
        rw [zi_add (zi_mul nine32 w1 (by omega) (by omega)) h7 (by omega) (by omega)]
        unfold eCl
        omega
      have c81 : eCl E m t < 81 := by unfold eCl; omega
      have ed : aG w 152 (9 * E (3 + t) + x7) = adD E m (E 1) t D (eCl E m t) := by
        rw [aG_n (m := eCl E m t) ei, ← hdd]
        rfl
      have en : aG w 148 (p2 + 1) = E 1 := by
        rw [aG_L (t := 1) (Q := Q) (by rw [zi_add hQ o32 (by omega) (by omega)]; rfl), hE0]
        unfold eL al
        rw [FM_a f0 (by decide)]
      rw [ed, en] at h
      refine ih _ (t + 1) (i6 + 1) u7 (FM_trans f0 (FM_aS hS (by decide))) (by rw [zi_inc (n := 10) (by omega) (by omega), h6]; rfl) (by omega) ?_ h
      rw [dR_aS hS ei c81, hdd]
      rfl
theorem F233 (hS : SK w) (hu : u ≤ 1) (hp : p1.toInt = (610 + 132 * u : Nat)) (hP : (al w (610 + 132 * u)).toInt = P) (hP9 : P ≤ 9) (hQ : p2.toInt = Q) (hQ2 : Q ≤ 6000) (hE : ERg (eL w Q) m) (hn : 0 ≤ (eL w Q 1).toInt ∧ (eL w Q 1).toInt ≤ 99) (ht : 0 ≤ (eL w Q 2).toInt ∧ (eL w Q 2).toInt ≤ 99) (hN : N < 37) (hN0 : (gI w 147 14).toInt = N) (h : PS X k 233 0 [.ref 147, .int p1, .int p2, pm_dead, pm_dead, pm_dead, pm_dead, pm_dead] [] w r w') : (fitS P (fun k => al w (610 + 132 * u + k)) (dR w) (eL w Q) m (eL w Q 1) ∧ r = some (.int 1) ∧ FM [(147, 14)] [152, 153] w w' ∧ (gI w' 147 14).toInt = (N + 1 : Nat) ∧ dR w' = adD (eL w Q) m (eL w Q 1) m (dR w) ∧ gRr w' = rgW (eL w Q) N m (rg4 N (Int32.ofNat m) (eL w Q 1) (eL w Q 2) (gRr w))) ∨ (¬ fitS P (fun k => al w (610 + 132 * u + k)) (dR w) (eL w Q) m (eL w Q 1) ∧ r = some (.int 0) ∧ w' = w) := by
  cases k with
  | zero => exact (PS_0 h).elim
  | succ k =>
    obtain ⟨k1, i3, h3, h⟩ := L233_2 hS hQ hQ2 hE _ 0 0 z32 (Nat.zero_le _) (U233_0 hS h)
    cases k1 with
    | zero => exact (PS_0 h).elim
    | succ k1 =>
      obtain ⟨k2, i4, i5, u6, u7, h, hf⟩ := L233_33 hS hu hp hP hP9 hQ hQ2 hE h3 _ 0 1 0 _ _ z32 (Nat.zero_le _) (Or.inl ⟨rfl, fun i hi => absurd hi (Nat.not_lt_zero i)⟩) (U233_27 hS h)
      cases k2 with
      | zero => exact (PS_0 h).elim
      | succ k2 =>
        have h := U233_127 hS h
        rcases hf with ⟨e, hf⟩ | ⟨e, hf⟩
        · rw [e, if_neg (by decide +kernel)] at h
          have b0 : (10 * gI w 147 14).toInt = (10 * N : Nat) := rk10 hN0 (by omega)
          have b1 : (10 * gI w 147 14 + 1).toInt = (10 * N + 1 : Nat) := by rw [zi_add b0 o32 (by omega) (by omega)]; rfl
          have b2 : (10 * gI w 147 14 + 2).toInt = (10 * N + 2 : Nat) := by rw [zi_add b0 two32 (by omega) (by omega)]; rfl
          have b3 : (10 * gI w 147 14 + 3).toInt = (10 * N + 3 : Nat) := by rw [zi_add b0 three32 (by omega) (by omega)]; rfl
          obtain ⟨_, h⟩ := h
          obtain ⟨_, _, h⟩ := h _ rfl
          obtain ⟨_, _, h⟩ := h _ rfl
          obtain ⟨_, h⟩ := h _ rfl
          have h := h _ rfl
          have q1 : (p2 + 1).toInt = (Q + 1 : Nat) := by rw [zi_add hQ o32 (by omega) (by omega)]; rfl
          have q2 : (p2 + 2).toInt = (Q + 2 : Nat) := by rw [zi_add hQ two32 (by omega) (by omega)]; rfl
          have S1 : SK (aS w 153 (10 * gI w 147 14) i3) := SK_aS hS
          have e1 : aG (aS w 153 (10 * gI w 147 14) i3) 148 (p2 + 1) = eL w Q 1 := by
            rw [aG_L q1]
            unfold eL al
            rw [gA_aS_ne (by decide)]
          rw [e1] at h
          have S2 : SK (aS (aS w 153 (10 * gI w 147 14) i3) 153 (10 * gI w 147 14 + 1) (eL w Q 1)) := SK_aS S1
          have e2 : aG (aS (aS w 153 (10 * gI w 147 14) i3) 153 (10 * gI w 147 14 + 1) (eL w Q 1)) 148 (p2 + 2) = eL w Q 2 := by
            rw [aG_L q2]
            unfold eL al
            rw [gA_aS_ne (by decide), gA_aS_ne (by decide)]
          rw [e2] at h
          have S3 : SK (aS (aS (aS w 153 (10 * gI w 147 14) i3) 153 (10 * gI w 147 14 + 1) (eL w Q 1)) 153 (10 * gI w 147 14 + 2) (eL w Q 2)) := SK_aS S2
          obtain ⟨w4, e4⟩ : ∃ w4, w4 = aS (aS (aS (aS w 153 (10 * gI w 147 14) i3) 153 (10 * gI w 147 14 + 1) (eL w Q 1)) 153 (10 * gI w 147 14 + 2) (eL w Q 2)) 153 (10 * gI w 147 14 + 3) 1 := ⟨_, rfl⟩
          rw [← e4] at h
          have f4 : FM [] [153] w w4 := by
            rw [e4]
            exact FM_trans (FM_aS hS (by decide)) (FM_trans (FM_aS S1 (by decide)) (FM_trans (FM_aS S2 (by decide)) (FM_aS S3 (by decide))))
          have ei3 : i3 = Int32.ofNat m := i32_of h3 (by have := hE.2.1; omega)
          have g4 : gRr w4 = rg4 N (Int32.ofNat m) (eL w Q 1) (eL w Q 2) (gRr w) := by
            rw [e4, gRr_aS S3 b3 (by omega), gRr_aS S2 b2 (by omega), gRr_aS S1 b1 (by omega), gRr_aS hS b0 (by omega), ei3]
            rfl
          have eE : eL w Q = eL w4 Q := by
            funext t
            unfold eL al
            rw [FM_a f4 (by decide)]
          obtain ⟨w5, k5, i5', f5, n5, g5, h⟩ := L233_198 (w0 := w4) (E := eL w Q) hQ hQ2 hN eE hE.2.1 h3 b0 _ w4 0 0 _ (FM_refl f4.2.2.2) z32 (Nat.zero_le _) (by rw [FM_i f4 (by intro z; cases z)]; exact hN0) (by rw [g4]; rfl) h
          have g5 : gRr w5 = rgW (eL w Q) N m (rg4 N (Int32.ofNat m) (eL w Q 1) (eL w Q 2) (gRr w)) := g5
          have eE5 : eL w Q = eL w5 Q := by
            funext t
            unfold eL al
            rw [FM_a f5 (by decide), FM_a f4 (by decide)]
          have hW5 := WR_new (N := N) (G := gRr w) hE hf hn ht
          obtain ⟨n0, _, _, _, nw, _⟩ := new_q (N := N) (E := eL w Q) (nn := eL w Q 1) (till := eL w Q 2) (G := gRr w) hE.2.1
          rw [← g5] at hW5 n0 nw
          have d5 : dR w5 = dR w := by funext q; unfold dR; rw [FM_a f5 (by decide), FM_a f4 (by decide)]
          obtain ⟨z1, z2, z3⟩ := L233_246 (w0 := w5) (E := eL w Q) (D := dR w) hP9 hQ hQ2 hN eE5 hE hW5 (by unfold rMy; rw [n0, ofN_i (by have := hE.2.1; omega)]; rfl) nw n5 h3 _ w5 0 0 _ (FM_refl f5.2.2.2) z32 (Nat.zero_le _) (by rw [d5]; rfl) h
          refine Or.inl ⟨hf, z1, FM_trans (FM_mono f4 (by intro z hz; cases hz) (by decide)) (FM_trans (FM_mono f5 (by decide) (by decide)) (FM_mono z2 (by intro z hz; cases hz) (by decide))), ?_, z3, ?_⟩
          · rw [FM_i z2 (by intro z; cases z)]; exact n5
          · rw [← g5]
            funext q
            unfold gRr
            rw [FM_a z2 (by decide)]
        · rw [e, if_pos rfl] at h
          exact Or.inr ⟨hf, h.1, h.2⟩
end HC
