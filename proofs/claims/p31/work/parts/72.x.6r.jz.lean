/-! ===== state: sums over debts, rooms, couples ===== -/
section JZA
variable {X : pm_X} {k k2 : Nat} {w0 w w1 w2 w3 w4 w5 wj w' : pm_W} {r r2 q0 q1 q2 : Option Value} {p1 p2 p3 p4 p5 p i1 i2 i3 i4 i5 i6 i7 i8 z z1 z2 x n : Int32} {a i v j m c u P t s b d q N K : Nat} {y : Int} {D D' V V' E : Nat → Int32} {G G' G1 G2 : Nat → Int32} {g g' : Nat → Nat → Int32} {f h : Nat → Int} {s1 t1 t2 : SN} {M : Int32}
def f32 (D : Nat → Int32) : Nat → Int32
  | 0 => 0
  | n + 1 => f32 D n + D n
theorem f32_i (hD : ∀ q, 0 ≤ (D q).toInt ∧ (D q).toInt ≤ 99) : ∀ n : Nat, n ≤ 81 → (f32 D n).toInt = suI (fun q => (D q).toInt) n ∧ 0 ≤ (f32 D n).toInt ∧ (f32 D n).toInt ≤ 99 * n
  | 0, _ => ⟨z32, by show 0 ≤ (0 : Int32).toInt; rw [z32]; omega, by show (0 : Int32).toInt ≤ _; rw [z32]; omega⟩
  | n + 1, hn => by
    obtain ⟨a1, a2, a3⟩ := f32_i hD n (by omega)
    have b := hD n
    have e : (f32 D n + D n).toInt = (f32 D n).toInt + (D n).toInt := zi_add rfl rfl (by omega) (by omega)
    refine ⟨?_, ?_, ?_⟩
    · show (f32 D n + D n).toInt = suI (fun q => (D q).toInt) n + (D n).toInt
      rw [e, a1]
    · show 0 ≤ (f32 D n + D n).toInt
      omega
    · show (f32 D n + D n).toInt ≤ 99 * ((n + 1 : Nat) : Int)
      omega
theorem e81i : (81 : Int32).toInt = 81 := by decide +kernel
theorem F105 (hS : SK w) (ok : okS a = true) (h : PS X k 105 0 [.ref a, pm_dead, pm_dead] [] w r w') : r = some (.int (f32 (dA w a) 81)) ∧ w' = w := by
  have lp : ∀ (k t : Nat) (i1 i2 : Int32), i2.toInt = t → t ≤ 81 → i1 = f32 (dA w a) t → PS X k 105 4 [.ref a, .int i1, .int i2] [] w r w' → r = some (.int (f32 (dA w a) 81)) ∧ w' = w := by
    intro k
    induction k with
    | zero => intro t i1 i2 _ _ _ h; exact (PS_0 h).elim
    | succ k ih =>
      intro t i1 i2 h2 ht h1 h
      have h := U105_4 hS h
      by_cases c : 81 ≤ i2
      · rw [if_pos c] at h
        rw [Int32.le_iff_toInt_le, e81i, h2] at c
        rw [show t = 81 by omega] at h1
        rw [← h1]; exact h
      · rw [if_neg c] at h
        rw [Int32.le_iff_toInt_le, e81i, h2] at c
        obtain ⟨_, h⟩ := h
        rw [(okS_r hS ok).1] at h
        refine ih (t + 1) _ _ (by rw [zi_inc (n := 100) (by omega) (by omega), h2]; rfl) (by omega) ?_ h
        rw [h1, aG_n h2]
        rfl
  cases k with
  | zero => exact (PS_0 h).elim
  | succ k => exact lp k 0 0 0 z32 (Nat.zero_le _) rfl (U105_0 hS h)
theorem F252 (hS : SK w) (h : PS X k 252 0 [.ref 147, pm_dead, pm_dead] [] w r w') : r = some (.int (f32 (dR w) 81)) ∧ w' = w := by
  have lp : ∀ (k t : Nat) (i1 i2 : Int32), i2.toInt = t → t ≤ 81 → i1 = f32 (dR w) t → PS X k 252 4 [.ref 147, .int i1, .int i2] [] w r w' → r = some (.int (f32 (dR w) 81)) ∧ w' = w := by
    intro k
    induction k with
    | zero => intro t i1 i2 _ _ _ h; exact (PS_0 h).elim
    | succ k ih =>
      intro t i1 i2 h2 ht h1 h
      have h := U252_4 hS h
      by_cases c : 81 ≤ i2
      · rw [if_pos c] at h
        rw [Int32.le_iff_toInt_le, e81i, h2] at c
        rw [show t = 81 by omega] at h1
        rw [← h1]; exact h
      · rw [if_neg c] at h
        rw [Int32.le_iff_toInt_le, e81i, h2] at c
        obtain ⟨_, h⟩ := h
        refine ih (t + 1) _ _ (by rw [zi_inc (n := 100) (by omega) (by omega), h2]; rfl) (by omega) ?_ h
        rw [h1, aG_n h2]
        rfl
  cases k with
  | zero => exact (PS_0 h).elim
  | succ k => exact lp k 0 0 0 z32 (Nat.zero_le _) rfl (U252_0 hS h)
/-- the open rings, as bits -/
def opM (G : Nat → Int32) : Nat → Int32
  | 0 => 0
  | n + 1 => opM G n ||| (if opn G n = true then (1 : Int32) <<< (Int32.ofNat n &&& 31) else 0)
theorem opM_RG (h : RG2 N G1 G2) : ∀ n, n ≤ N → opM G2 n = opM G1 n
  | 0, _ => rfl
  | n + 1, hn => by
    unfold opM
    rw [opM_RG h n (by omega), opn_RG h (show n < N by omega)]
theorem F104 (hS : SK w) (ok : okS a = true) (hN : (gI w a 2).toInt = N) (hN37 : N ≤ 37) (h : PS X k 104 0 [.ref a, pm_dead, pm_dead] [] w r w') : r = some (.int (opM (gAr w a) N)) ∧ w' = w := by
  have lp : ∀ (k t : Nat) (i1 i2 : Int32), i2.toInt = t → t ≤ N → i1 = opM (gAr w a) t → PS X k 104 4 [.ref a, .int i1, .int i2] [] w r w' → r = some (.int (opM (gAr w a) N)) ∧ w' = w := by
    intro k
    induction k with
    | zero => intro t i1 i2 _ _ _ h; exact (PS_0 h).elim
    | succ k ih =>
      intro t i1 i2 h2 ht h1 h
      have h := U104_4 hS h
      by_cases c : gI w a 2 ≤ i2
      · rw [if_pos c] at h
        rw [Int32.le_iff_toInt_le, hN, h2] at c
        rw [show t = N by omega] at h1
        rw [← h1]; exact h
      · rw [if_neg c] at h
        rw [Int32.le_iff_toInt_le, hN, h2] at c
        have e1 : (i2 + 1).toInt = ((t + 1 : Nat) : Int) := by rw [zi_inc (n := 100) (by omega) (by omega), h2]; rfl
        have h := use_p hS h (fun _ _ y => F83 hS ok h2 (by omega) y)
        have s1 : opM (gAr w a) (t + 1) = opM (gAr w a) t ||| (if opn (gAr w a) t = true then (1 : Int32) <<< (Int32.ofNat t &&& 31) else 0) := rfl
        cases ho : opn (gAr w a) t with
        | false =>
          rw [ho, if_pos (by decide +kernel)] at h
          exact ih (t + 1) _ _ e1 (by omega) (by rw [s1, ho, if_neg Bool.false_ne_true, h1]) h
        | true =>
          rw [ho, if_neg (by decide +kernel)] at h
          exact ih (t + 1) _ _ e1 (by omega) (by rw [s1, ho, if_pos rfl, h1, ← i32_of h2 (by omega)]) h
  cases k with
  | zero => exact (PS_0 h).elim
  | succ k => exact lp k 0 0 0 z32 (Nat.zero_le _) rfl (U104_0 hS h)
theorem F251 (hS : SK w) (hN : (gI w 147 14).toInt = N) (hN37 : N ≤ 37) (h : PS X k 251 0 [.ref 147, pm_dead, pm_dead] [] w r w') : r = some (.int (opM (gRr w) N)) ∧ w' = w := by
  have lp : ∀ (k t : Nat) (i1 i2 : Int32), i2.toInt = t → t ≤ N → i1 = opM (gRr w) t → PS X k 251 4 [.ref 147, .int i1, .int i2] [] w r w' → r = some (.int (opM (gRr w) N)) ∧ w' = w := by
    intro k
    induction k with
    | zero => intro t i1 i2 _ _ _ h; exact (PS_0 h).elim
    | succ k ih =>
      intro t i1 i2 h2 ht h1 h
      have h := U251_4 hS h
      by_cases c : gI w 147 14 ≤ i2
      · rw [if_pos c] at h
        rw [Int32.le_iff_toInt_le, hN, h2] at c
        rw [show t = N by omega] at h1
        rw [← h1]; exact h
      · rw [if_neg c] at h
        rw [Int32.le_iff_toInt_le, hN, h2] at c
        have e1 : (i2 + 1).toInt = ((t + 1 : Nat) : Int) := by rw [zi_inc (n := 100) (by omega) (by omega), h2]; rfl
        have h := use_p hS h (fun _ _ y => F236 hS h2 (by omega) y)
        have s1 : opM (gRr w) (t + 1) = opM (gRr w) t ||| (if opn (gRr w) t = true then (1 : Int32) <<< (Int32.ofNat t &&& 31) else 0) := rfl
        cases ho : opn (gRr w) t with
        | false =>
          rw [ho, if_pos (by decide +kernel)] at h
          exact ih (t + 1) _ _ e1 (by omega) (by rw [s1, ho, if_neg Bool.false_ne_true, h1]) h
        | true =>
          rw [ho, if_neg (by decide +kernel)] at h
          exact ih (t + 1) _ _ e1 (by omega) (by rw [s1, ho, if_pos rfl, h1, ← i32_of h2 (by omega)]) h
  cases k with
  | zero => exact (PS_0 h).elim
  | succ k => exact lp k 0 0 0 z32 (Nat.zero_le _) rfl (U251_0 hS h)
/-- sums of sums -/
def fI (g : Nat → Int32) (z : Int32) : Nat → Int32
  | 0 => z
  | n + 1 => fI g z n + g n
def fO (g : Nat → Nat → Int32) (m : Nat → Nat) : Nat → Int32
  | 0 => 0
  | n + 1 => fI (g n) (fO g m n) (m n)
theorem fI_cg {g g' : Nat → Int32} : ∀ n, (∀ i, i < n → g i = g' i) → fI g z n = fI g' z n
  | 0, _ => rfl
  | n + 1, h => by unfold fI; rw [fI_cg n (fun i hi => h i (by omega)), h n (by omega)]
theorem fO_cg {m : Nat → Nat} : ∀ n, (∀ i, i < n → ∀ j, j < m i → g i j = g' i j) → fO g m n = fO g' m n
  | 0, _ => rfl
  | n + 1, h => by unfold fO; rw [fO_cg n (fun i hi => h i (by omega)), fI_cg (m n) (fun j hj => h n (by omega) j hj)]
theorem F106 (hS : SK w) (ok : okS a = true) (okv : okV v = true) (hv : gR w a 0 = v) (hP : (gI w v 0).toInt = P) (hP9 : P ≤ 9) (h : PS X k 106 0 [.ref a, pm_dead, pm_dead, pm_dead] [] w r w') : r = some (.int (fO (rmI (vcl w v) (dA w a)) (fun _ => P) P)) ∧ w' = w := by
  have lp : ∀ k : Nat, (∀ (t : Nat) (i1 i2 : Int32) (u3 : Value), i2.toInt = t → t ≤ P → i1 = fO (rmI (vcl w v) (dA w a)) (fun _ => P) t → PS X k 106 4 [.ref a, .int i1, .int i2, u3] [] w r w' → r = some (.int (fO (rmI (vcl w v) (dA w a)) (fun _ => P) P)) ∧ w' = w) ∧
      (∀ (t s : Nat) (i1 i2 i3 : Int32), i2.toInt = t → t < P → i3.toInt = s → s ≤ P → i1 = fI (rmI (vcl w v) (dA w a) t) (fO (rmI (vcl w v) (dA w a)) (fun _ => P) t) s → PS X k 106 17 [.ref a, .int i1, .int i2, .int i3] [] w r w' → r = some (.int (fO (rmI (vcl w v) (dA w a)) (fun _ => P) P)) ∧ w' = w) := by
    intro k
    induction k with
    | zero => exact ⟨fun _ _ _ _ _ _ _ h => (PS_0 h).elim, fun _ _ _ _ _ _ _ _ _ _ h => (PS_0 h).elim⟩
    | succ k ih =>
      obtain ⟨ih4, ih17⟩ := ih
      refine ⟨fun t i1 i2 u3 h2 ht h1 h => ?_, fun t s i1 i2 i3 h2 ht h3 hs h1 h => ?_⟩
      · have h := U106_4 hS h
        rw [hv] at h
        by_cases c : gI w v 0 ≤ i2
        · rw [if_pos c] at h
          rw [Int32.le_iff_toInt_le, hP, h2] at c
          rw [show t = P by omega] at h1
          rw [← h1]; exact h
        · rw [if_neg c] at h
          rw [Int32.le_iff_toInt_le, hP, h2] at c
          exact ih17 t 0 i1 i2 0 h2 (by omega) z32 (Nat.zero_le _) h1 h
      · have h := U106_17 hS h
        rw [hv] at h
        by_cases c : gI w v 0 ≤ i3
        · rw [if_pos c] at h
          rw [Int32.le_iff_toInt_le, hP, h3] at c
          rw [show s = P by omega] at h1
          exact ih4 (t + 1) i1 _ _ (by rw [zi_inc (n := 100) (by omega) (by omega), h2]; rfl) (by omega) h1 h
        · rw [if_neg c] at h
          rw [Int32.le_iff_toInt_le, hP, h3] at c
          have h := use_p hS h (fun _ _ y => F77n hS ok okv hv h2 h3 (by omega) (by omega) y)
          exact ih17 t (s + 1) _ i2 _ h2 ht (by rw [zi_inc (n := 100) (by omega) (by omega), h3]; rfl) (by omega) (by rw [h1]; rfl) h
  cases k with
  | zero => exact (PS_0 h).elim
  | succ k => exact (lp k).1 0 0 0 _ z32 (Nat.zero_le _) rfl (U106_0 hS h)
theorem F253 (hS : SK w) (hu : u ≤ 1) (hp : p1.toInt = (610 + 132 * u : Nat)) (hP : (al w (610 + 132 * u)).toInt = P) (hP9 : P ≤ 9) (h : PS X k 253 0 [.ref 147, .int p1, pm_dead, pm_dead, pm_dead] [] w r w') : r = some (.int (fO (rmI (fun k => al w (610 + 132 * u + k)) (dR w)) (fun _ => P) P)) ∧ w' = w := by
  have eP : aG w 148 p1 = al w (610 + 132 * u) := aG_n (m := 610 + 132 * u) hp
  have lp : ∀ k : Nat, (∀ (t : Nat) (i1 i2 : Int32) (u3 : Value), i2.toInt = t → t ≤ P → i1 = fO (rmI (fun k => al w (610 + 132 * u + k)) (dR w)) (fun _ => P) t → PS X k 253 4 [.ref 147, .int p1, .int i1, .int i2, u3] [] w r w' → r = some (.int (fO (rmI (fun k => al w (610 + 132 * u + k)) (dR w)) (fun _ => P) P)) ∧ w' = w) ∧
      (∀ (t s : Nat) (i1 i2 i3 : Int32), i2.toInt = t → t < P → i3.toInt = s → s ≤ P → i1 = fI (rmI (fun k => al w (610 + 132 * u + k)) (dR w) t) (fO (rmI (fun k => al w (610 + 132 * u + k)) (dR w)) (fun _ => P) t) s → PS X k 253 17 [.ref 147, .int p1, .int i1, .int i2, .int i3] [] w r w' → r = some (.int (fO (rmI (fun k => al w (610 + 132 * u + k)) (dR w)) (fun _ => P) P)) ∧ w' = w) := by
    intro k
    induction k with
    | zero => exact ⟨fun _ _ _ _ _ _ _ h => (PS_0 h).elim, fun _ _ _ _ _ _ _ _ _ _ h => (PS_0 h).elim⟩
    | succ k ih =>
      obtain ⟨ih4, ih17⟩ := ih
      refine ⟨fun t i1 i2 u3 h2 ht h1 h => ?_, fun t s i1 i2 i3 h2 ht h3 hs h1 h => ?_⟩
      · obtain ⟨_, h⟩ := U253_4 hS h
        rw [eP] at h
        by_cases c : al w (610 + 132 * u) ≤ i2
        · rw [if_pos c] at h
          rw [Int32.le_iff_toInt_le, hP, h2] at c
          rw [show t = P by omega] at h1
          rw [← h1]; exact h
        · rw [if_neg c] at h
          rw [Int32.le_iff_toInt_le, hP, h2] at c
          exact ih17 t 0 i1 i2 0 h2 (by omega) z32 (Nat.zero_le _) h1 h
      · obtain ⟨_, h⟩ := U253_17 hS h
        rw [eP] at h
        by_cases c : al w (610 + 132 * u) ≤ i3
        · rw [if_pos c] at h
          rw [Int32.le_iff_toInt_le, hP, h3] at c
          rw [show s = P by omega] at h1
          exact ih4 (t + 1) i1 _ _ (by rw [zi_inc (n := 100) (by omega) (by omega), h2]; rfl) (by omega) h1 h
        · rw [if_neg c] at h
          rw [Int32.le_iff_toInt_le, hP, h3] at c
          have h := use_p hS h (fun _ _ y => F231n hS hp hu h2 h3 (by omega) (by omega) y)
          exact ih17 t (s + 1) _ i2 _ h2 ht (by rw [zi_inc (n := 100) (by omega) (by omega), h3]; rfl) (by omega) (by rw [h1]; rfl) h
  cases k with
  | zero => exact (PS_0 h).elim
  | succ k => exact (lp k).1 0 0 0 _ z32 (Nat.zero_le _) rfl (U253_0 hS h)
/-- couples -/
def cpD (D : Nat → Int32) (t s : Nat) : Int32 := if 0 < (D (9 * t + s)).toInt ∧ 0 < (D (9 * s + t)).toInt then 1 else 0
theorem F113 (hS : SK w) (ok : okS a = true) (h : PS X k 113 0 [.ref 42, .ref a, pm_dead, pm_dead, pm_dead] [] w r w') : r = some (.int (fO (cpD (dA w a)) (fun i => i) 9)) ∧ w' = w := by
  have e9 : (9 : Int32).toInt = 9 := nine32
  have g3 := (okS_r hS ok).1
  have lp : ∀ k : Nat, (∀ (t : Nat) (i1 i2 : Int32) (u3 : Value), i2.toInt = t → t ≤ 9 → i1 = fO (cpD (dA w a)) (fun i => i) t → PS X k 113 4 [.ref 42, .ref a, .int i1, .int i2, u3] [] w r w' → r = some (.int (fO (cpD (dA w a)) (fun i => i) 9)) ∧ w' = w) ∧
      (∀ (t s : Nat) (i1 i2 i3 : Int32), i2.toInt = t → t < 9 → i3.toInt = s → s ≤ t → i1 = fI (cpD (dA w a) t) (fO (cpD (dA w a)) (fun i => i) t) s → PS X k 113 13 [.ref 42, .ref a, .int i1, .int i2, .int i3] [] w r w' → r = some (.int (fO (cpD (dA w a)) (fun i => i) 9)) ∧ w' = w) := by
    intro k
    induction k with
    | zero => exact ⟨fun _ _ _ _ _ _ _ h => (PS_0 h).elim, fun _ _ _ _ _ _ _ _ _ _ h => (PS_0 h).elim⟩
    | succ k ih =>
      obtain ⟨ih4, ih13⟩ := ih
      refine ⟨fun t i1 i2 u3 h2 ht h1 h => ?_, fun t s i1 i2 i3 h2 ht h3 hs h1 h => ?_⟩
      · have h := U113_4 hS h
        by_cases c : 9 ≤ i2
        · rw [if_pos c] at h
          rw [Int32.le_iff_toInt_le, e9, h2] at c
          rw [show t = 9 by omega] at h1
          rw [← h1]; exact h
        · rw [if_neg c] at h
          rw [Int32.le_iff_toInt_le, e9, h2] at c
          exact ih13 t 0 i1 i2 0 h2 (by omega) z32 (Nat.zero_le _) h1 h
      · have h := U113_13 hS h
        by_cases c : i2 ≤ i3
        · rw [if_pos c] at h
          rw [Int32.le_iff_toInt_le, h2, h3] at c
          rw [show s = t by omega] at h1
          exact ih4 (t + 1) i1 _ _ (by rw [zi_inc (n := 100) (by omega) (by omega), h2]; rfl) (by omega) h1 h
        · rw [if_neg c] at h
          rw [Int32.le_iff_toInt_le, h2, h3] at c
          have es : (i3 + 1).toInt = ((s + 1 : Nat) : Int) := by rw [zi_inc (n := 100) (by omega) (by omega), h3]; rfl
          obtain ⟨c1, hc1, h⟩ := use_z hS h (fun _ _ y => F52n hS h2 h3 (by omega) (by omega) y)
          obtain ⟨_, h⟩ := h
          rw [g3] at h
          have v1 : aG w (a + 6) c1 = dA w a (9 * t + s) := aG_n hc1
          rw [v1] at h
          have s1 : fI (cpD (dA w a) t) (fO (cpD (dA w a)) (fun i => i) t) (s + 1) = fI (cpD (dA w a) t) (fO (cpD (dA w a)) (fun i => i) t) s + cpD (dA w a) t s := rfl
          by_cases d1 : dA w a (9 * t + s) ≤ 0
          · rw [if_pos d1] at h
            rw [Int32.le_iff_toInt_le, z32] at d1
            exact ih13 t (s + 1) _ i2 _ h2 ht es (by omega) (by rw [s1, h1, show cpD (dA w a) t s = 0 from if_neg (by omega)]) h
          · rw [if_neg d1] at h
            rw [Int32.le_iff_toInt_le, z32] at d1
            obtain ⟨c2, hc2, h⟩ := use_z hS h (fun _ _ y => F52n hS h3 h2 (by omega) (by omega) y)
            obtain ⟨_, h⟩ := h
            have v2 : aG w (a + 6) c2 = dA w a (9 * s + t) := aG_n hc2
            rw [v2] at h
            by_cases d2 : dA w a (9 * s + t) ≤ 0
            · rw [if_pos d2] at h
              rw [Int32.le_iff_toInt_le, z32] at d2
              exact ih13 t (s + 1) _ i2 _ h2 ht es (by omega) (by rw [s1, h1, show cpD (dA w a) t s = 0 from if_neg (by omega)]) h
            · rw [if_neg d2] at h
              rw [Int32.le_iff_toInt_le, z32] at d2
              exact ih13 t (s + 1) _ i2 _ h2 ht es (by omega) (by rw [s1, h1, show cpD (dA w a) t s = 1 from if_pos (by omega)]) h
  cases k with
  | zero => exact (PS_0 h).elim
  | succ k => exact (lp k).1 0 0 0 _ z32 (Nat.zero_le _) rfl (U113_0 hS h)
theorem F258 (hS : SK w) (h : PS X k 258 0 [.ref 147, pm_dead, pm_dead, pm_dead] [] w r w') : r = some (.int (fO (cpD (dR w)) (fun i => i) 9)) ∧ w' = w := by
  have e9 : (9 : Int32).toInt = 9 := nine32
  have lp : ∀ k : Nat, (∀ (t : Nat) (i1 i2 : Int32) (u3 : Value), i2.toInt = t → t ≤ 9 → i1 = fO (cpD (dR w)) (fun i => i) t → PS X k 258 4 [.ref 147, .int i1, .int i2, u3] [] w r w' → r = some (.int (fO (cpD (dR w)) (fun i => i) 9)) ∧ w' = w) ∧
      (∀ (t s : Nat) (i1 i2 i3 : Int32), i2.toInt = t → t < 9 → i3.toInt = s → s ≤ t → i1 = fI (cpD (dR w) t) (fO (cpD (dR w)) (fun i => i) t) s → PS X k 258 12 [.ref 147, .int i1, .int i2, .int i3] [] w r w' → r = some (.int (fO (cpD (dR w)) (fun i => i) 9)) ∧ w' = w) := by
    intro k
    induction k with
    | zero => exact ⟨fun _ _ _ _ _ _ _ h => (PS_0 h).elim, fun _ _ _ _ _ _ _ _ _ _ h => (PS_0 h).elim⟩
    | succ k ih =>
      obtain ⟨ih4, ih13⟩ := ih
      refine ⟨fun t i1 i2 u3 h2 ht h1 h => ?_, fun t s i1 i2 i3 h2 ht h3 hs h1 h => ?_⟩
      · have h := U258_4 hS h
        by_cases c : 9 ≤ i2
        · rw [if_pos c] at h
          rw [Int32.le_iff_toInt_le, e9, h2] at c
          rw [show t = 9 by omega] at h1
          rw [← h1]; exact h
        · rw [if_neg c] at h
          rw [Int32.le_iff_toInt_le, e9, h2] at c
          exact ih13 t 0 i1 i2 0 h2 (by omega) z32 (Nat.zero_le _) h1 h
      · have h := U258_12 hS h
        by_cases c : i2 ≤ i3
        · rw [if_pos c] at h
          rw [Int32.le_iff_toInt_le, h2, h3] at c
          rw [show s = t by omega] at h1
          exact ih4 (t + 1) i1 _ _ (by rw [zi_inc (n := 100) (by omega) (by omega), h2]; rfl) (by omega) h1 h
        · rw [if_neg c] at h
          rw [Int32.le_iff_toInt_le, h2, h3] at c
          have es : (i3 + 1).toInt = ((s + 1 : Nat) : Int) := by rw [zi_inc (n := 100) (by omega) (by omega), h3]; rfl
          have h := use_p hS h (fun _ _ y => F232n hS h2 h3 (by omega) (by omega) y)
          have s1 : fI (cpD (dR w) t) (fO (cpD (dR w)) (fun i => i) t) (s + 1) = fI (cpD (dR w) t) (fO (cpD (dR w)) (fun i => i) t) s + cpD (dR w) t s := rfl
          by_cases d1 : dR w (9 * t + s) ≤ 0
          · rw [if_pos d1] at h
            rw [Int32.le_iff_toInt_le, z32] at d1
            exact ih13 t (s + 1) _ i2 _ h2 ht es (by omega) (by rw [s1, h1, show cpD (dR w) t s = 0 from if_neg (by omega)]) h
          · rw [if_neg d1] at h
            rw [Int32.le_iff_toInt_le, z32] at d1
            have h := use_p hS h (fun _ _ y => F232n hS h3 h2 (by omega) (by omega) y)
            by_cases d2 : dR w (9 * s + t) ≤ 0
            · rw [if_pos d2] at h
              rw [Int32.le_iff_toInt_le, z32] at d2
              exact ih13 t (s + 1) _ i2 _ h2 ht es (by omega) (by rw [s1, h1, show cpD (dR w) t s = 0 from if_neg (by omega)]) h
            · rw [if_neg d2] at h
              rw [Int32.le_iff_toInt_le, z32] at d2
              exact ih13 t (s + 1) _ i2 _ h2 ht es (by omega) (by rw [s1, h1, show cpD (dR w) t s = 1 from if_pos (by omega)]) h
  cases k with
  | zero => exact (PS_0 h).elim
  | succ k => exact (lp k).1 0 0 0 _ z32 (Nat.zero_le _) rfl (U258_0 hS h)
/-! nobody owes himself -/
def DZ (D : Nat → Int32) : Prop := ∀ q, q < 9 → D (10 * q) = 0
theorem subZ_0 (h : 0 ≤ x.toInt) : subZ 0 x = 0 := by
  unfold subZ
  by_cases c : (0 : Int32).toInt < x.toInt
  · rw [if_pos c]
  · rw [if_neg c]
    rw [z32] at c
    rw [show x = 0 from Int32.toInt_inj.mp (by rw [z32]; omega)]
    rfl
theorem stD_z (hn : 0 ≤ (G (10 * K + 1)).toInt) (h : D q = 0) : ∀ i, stD G K i D q = 0
  | 0 => h
  | i + 1 => by
    show updc (stD G K i D) (rCl G K i) (subZ (stD G K i D (rCl G K i)) (G (10 * K + 1))) q = 0
    unfold updc
    by_cases e : q = rCl G K i
    · rw [if_pos e, ← e, stD_z hn h i, subZ_0 hn]
    · rw [if_neg e, stD_z hn h i]
theorem flS_z {c : (Nat → Int32) → Nat → Bool} {s : (Nat → Int32) × (Nat → Int32)} (hP : P ≤ 9) (hW : WS P N s) (h : s.1 q = 0) : ∀ n, n ≤ N → (flS c n s).1 q = 0
  | 0, _ => h
  | n + 1, hn => by
    have ih := flS_z (c := c) hP hW h n (by omega)
    show (cond (c (flS c n s).2 n) (strk n (flS c n s)) (flS c n s)).1 q = 0
    cases c (flS c n s).2 n with
    | false => exact ih
    | true =>
      have w := (WS_flS (c := c) hP hW n (by omega)).2 n (by omega)
      exact stD_z w.2.2.1 ih _
theorem adD_z (hE : ERg E m) (h : DZ D) : ∀ i, i ≤ m → DZ (adD E m n i D)
  | 0, _ => h
  | i + 1, hi => fun q hq => by
    show updc (adD E m n i D) (eCl E m i) (adD E m n i D (eCl E m i) + n) (10 * q) = 0
    unfold updc
    have nn := E_nn hE (show i < m by omega)
    obtain ⟨l1, l2⟩ := E_lt hE (show i < m by omega)
    rw [if_neg (by unfold eCl; omega), adD_z hE h i (by omega) q hq]
theorem DZ_u {x y : Nat} (h : DZ D) (hxy : x ≠ y) (hx : x < 9) (hy : y < 9) : DZ (updc D (9 * x + y) z) := fun q hq => by
  unfold updc
  rw [if_neg (by omega)]
  exact h q hq
theorem DZ_A (hP : P ≤ 9) (hA : VAc E) (hW : WS P N (D, G)) (hZ : DZ D) (h : ACT P V E D G M N (some t1)) : DZ t1.1 := by
  rcases h with ⟨h0, x, y, h1, h2, h⟩ | ⟨h0, x, y, h1, h2, h⟩ | ⟨h0, m, hE, h⟩ | ⟨h0, K, h1, h⟩ | ⟨h0, m, h1, h⟩ | ⟨h0, h⟩
  · rcases h with ⟨a1, a2, a3, e⟩ | ⟨_, e⟩
    · have ne : x ≠ y := fun e => by
        rcases hA with ⟨_, b⟩ | ⟨b, _⟩ | ⟨b, _⟩ | ⟨b, _⟩ | b
        · omega
        · rw [h0] at b; exact absurd b (by decide)
        · rw [h0] at b; exact absurd b (by decide)
        · rw [h0] at b; exact absurd b (by decide)
        · rw [h0] at b; exact absurd b (by decide)
      rw [← Option.some.inj e.symm]
      exact DZ_u hZ ne (by omega) (by omega)
    · exact absurd e AO_sn
  · rcases h with ⟨a1, a2, a3, e⟩ | ⟨_, e⟩
    · have ne : x ≠ y := fun e => by
        rcases hA with ⟨_, b⟩ | ⟨b, _⟩ | ⟨b, _⟩ | ⟨b, _⟩ | b
        · omega
        · rw [h0] at b; exact absurd b (by decide)
        · rw [h0] at b; exact absurd b (by decide)
        · rw [h0] at b; exact absurd b (by decide)
        · rw [h0] at b; exact absurd b (by decide)
      rw [← Option.some.inj e.symm]
      exact DZ_u hZ ne (by omega) (by omega)
    · exact absurd e AO_sn
  · rcases h with ⟨_, e⟩ | ⟨_, e⟩
    · rw [← Option.some.inj e.symm]
      exact adD_z hE hZ m (Nat.le_refl m)
    · exact absurd e AO_sn
  · rcases h with ⟨a1, _, e⟩ | ⟨_, e⟩
    · rw [← Option.some.inj e.symm]
      exact fun q hq => stD_z (hW.2 K a1).2.2.1 (hZ q hq) _
    · exact absurd e AO_sn
  · rcases h with ⟨a1, e⟩ | ⟨_, e⟩
    · rw [← Option.some.inj e.symm]
      intro q hq
      show zrL m P (flS (cF m) N (D, G)).1 (10 * q) = 0
      rw [zrL_q (by omega) P hP]
      split
      · rfl
      · exact flS_z hP hW (hZ q hq) N (Nat.le_refl N)
    · exact absurd e AO_sn
  · rw [← Option.some.inj h.symm]
    exact fun q hq => flS_z hP hW (hZ q hq) N (Nat.le_refl N)
theorem DZ_RN {Es : Nat → Nat → Int32} (hP : P ≤ 9) (hV : VW V) (hW : WS P s1.2.2.2 (s1.1, s1.2.1)) (hZ : DZ s1.1) : ∀ (i : Nat) (t1 : SN), (∀ j, j < i → VAc (Es j)) → RN P V Es i s1 t1 → DZ t1.1 := by
  intro i
  induction i with
  | zero => intro t1 _ h; have h : t1 = s1 := h; rw [h]; exact hZ
  | succ i ih =>
    intro t1 hA h
    obtain ⟨s3, h1, h2⟩ := h
    exact DZ_A hP (hA i (by omega)) (RN_W hP hV hW i s3 (fun j hj => hA j (by omega)) h1).1 (ih s3 (fun j hj => hA j (by omega)) h1) h2
theorem LDR_Z {aa : Nat → Int32} (hV : VAa aa) (h : LDR aa p1 p2 p3 G u s1) : DZ s1.1 := by
  obtain ⟨h1, h2, h3⟩ := h
  obtain ⟨v1, _, _, v2, _⟩ := VA_v hV h2
  have z0 : DZ (s00 G).1 := fun q _ => rfl
  rcases h3 with ⟨_, _, e⟩ | ⟨_, rr, n, _, c2, _, c3, c4⟩
  · rw [e]; exact z0
  · exact DZ_RN v1 v2 WS_00 z0 n s1 (fun j hj => VA_e hV c2 (by omega)) c4
/-! netted -/
def mnD (D : Nat → Int32) (t s : Nat) : Int := if (D (9 * s + t)).toInt < (D (9 * t + s)).toInt then (D (9 * s + t)).toInt else (D (9 * t + s)).toInt
def abD (D : Nat → Int32) (t s : Nat) : Int := (D (9 * t + s)).toInt + (D (9 * s + t)).toInt - 2 * mnD D t s
theorem su_b (hf : ∀ i, 0 ≤ f i ∧ f i ≤ 99) : ∀ n : Nat, 0 ≤ suI f n ∧ suI f n ≤ 99 * n
  | 0 => ⟨Int.le_refl _, by show (0 : Int) ≤ 99 * ((0 : Nat) : Int); omega⟩
  | n + 1 => by
    have a := su_b hf n
    have b := hf n
    show 0 ≤ suI f n + f n ∧ suI f n + f n ≤ 99 * ((n + 1 : Nat) : Int)
    omega
theorem su_2 : ∀ n, suI (fun i => f i - 2 * h i) n = suI f n - 2 * suI h n
  | 0 => rfl
  | n + 1 => by
    show suI (fun i => f i - 2 * h i) n + (f n - 2 * h n) = suI f n + f n - 2 * (suI h n + h n)
    rw [su_2 n]
    omega
theorem sq_split {h : Nat → Nat → Int} : ∀ n, suI (fun a => suI (fun b => h a b) n) n = suI (fun a => suI (fun b => h a b + h b a) a + h a a) n
  | 0 => rfl
  | n + 1 => by
    have ih := sq_split (h := h) n
    show suI (fun a => suI (fun b => h a b) n + h a n) n + (suI (fun b => h n b) n + h n n) = suI (fun a => suI (fun b => h a b + h b a) a + h a a) n + (suI (fun b => h n b + h b n) n + h n n)
    have e2 : suI (fun b => h n b + h b n) n = suI (fun b => h n b) n + suI (fun b => h b n) n := suI_add n
    have e3 : suI (fun a => suI (fun b => h a b) n + h a n) n = suI (fun a => suI (fun b => h a b) n) n + suI (fun a => h a n) n := suI_add n
    rw [e2, e3, ih]
    omega
theorem mnD_b (hD : ∀ q, 0 ≤ (D q).toInt ∧ (D q).toInt ≤ 99) : 0 ≤ mnD D t s ∧ mnD D t s ≤ 99 := by
  have a := hD (9 * s + t)
  have b := hD (9 * t + s)
  unfold mnD
  split <;> omega
theorem net_2 (hD : ∀ q, 0 ≤ (D q).toInt ∧ (D q).toInt ≤ 99) (hZ : DZ D) : suI (fun q => (D q).toInt) 81 - 2 * suI (fun t => suI (mnD D t) t) 9 = suI (fun t => suI (abD D t) t) 9 := by
  have e1 : suI (fun q => (D q).toInt) 81 = suI (fun a => suI (fun b => (D (9 * a + b)).toInt) 9) 9 := su_mul (f := fun q => (D q).toInt) (m := 9) 9
  rw [e1, sq_split (h := fun a b => (D (9 * a + b)).toInt) 9, ← su_2]
  refine suI_cg 9 (fun t ht => ?_)
  have z := hZ t ht
  rw [show 10 * t = 9 * t + t by omega] at z
  show suI (fun b => (D (9 * t + b)).toInt + (D (9 * b + t)).toInt) t + (D (9 * t + t)).toInt - 2 * suI (mnD D t) t = suI (abD D t) t
  rw [z, z32, Int.add_zero, ← su_2]
  rfl
theorem F107 (hS : SK w) (ok : okS a = true) (hD : ∀ q, 0 ≤ (dA w a q).toInt ∧ (dA w a q).toInt ≤ 99) (h : PS X k 107 0 [.ref 42, .ref a, pm_dead, pm_dead, pm_dead] [] w r w') : (∃ z : Int32, r = some (.int z) ∧ z.toInt = suI (fun q => (dA w a q).toInt) 81 - 2 * suI (fun t => suI (mnD (dA w a) t) t) 9) ∧ w' = w := by
  have e9 : (9 : Int32).toInt = 9 := nine32
  have g3 := (okS_r hS ok).1
  obtain ⟨L, hL⟩ : ∃ L, L = suI (fun q => (dA w a q).toInt) 81 := ⟨_, rfl⟩
  have Lb : 0 ≤ L ∧ L ≤ 99 * 81 := by rw [hL]; have := su_b (f := fun q => (dA w a q).toInt) hD 81; omega
  have ib : ∀ t s, s ≤ 9 → 0 ≤ suI (mnD (dA w a) t) s ∧ suI (mnD (dA w a) t) s ≤ 891 := fun t s hs => by
    have := su_b (f := mnD (dA w a) t) (fun i => mnD_b hD) s
    omega
  have ob : ∀ t : Nat, t ≤ 9 → 0 ≤ suI (fun t => suI (mnD (dA w a) t) t) t ∧ suI (fun t => suI (mnD (dA w a) t) t) t ≤ 891 * t := by
    intro t
    induction t with
    | zero => intro _; exact ⟨Int.le_refl _, by show (0 : Int) ≤ 891 * ((0 : Nat) : Int); omega⟩
    | succ t ih =>
      intro ht
      have q := ih (by omega)
      have q2 := ib t t (by omega)
      show 0 ≤ suI (fun t => suI (mnD (dA w a) t) t) t + suI (mnD (dA w a) t) t ∧ suI (fun t => suI (mnD (dA w a) t) t) t + suI (mnD (dA w a) t) t ≤ 891 * ((t + 1 : Nat) : Int)
      omega
  rw [← hL]
  have lp : ∀ k : Nat, (∀ (t : Nat) (i1 i2 : Int32) (u3 : Value), i2.toInt = t → t ≤ 9 → i1.toInt = L - 2 * suI (fun t => suI (mnD (dA w a) t) t) t → PS X k 107 7 [.ref 42, .ref a, .int i1, .int i2, u3] [] w r w' → (∃ z : Int32, r = some (.int z) ∧ z.toInt = L - 2 * suI (fun t => suI (mnD (dA w a) t) t) 9) ∧ w' = w) ∧
      (∀ (t s : Nat) (i1 i2 i3 : Int32), i2.toInt = t → t < 9 → i3.toInt = s → s ≤ t → i1.toInt = L - 2 * (suI (fun t => suI (mnD (dA w a) t) t) t + suI (mnD (dA w a) t) s) → PS X k 107 16 [.ref 42, .ref a, .int i1, .int i2, .int i3] [] w r w' → (∃ z : Int32, r = some (.int z) ∧ z.toInt = L - 2 * suI (fun t => suI (mnD (dA w a) t) t) 9) ∧ w' = w) := by
    intro k
    induction k with
    | zero => exact ⟨fun _ _ _ _ _ _ _ h => (PS_0 h).elim, fun _ _ _ _ _ _ _ _ _ _ h => (PS_0 h).elim⟩
    | succ k ih =>
      obtain ⟨ih7, ih16⟩ := ih
      refine ⟨fun t i1 i2 u3 h2 ht h1 h => ?_, fun t s i1 i2 i3 h2 ht h3 hs h1 h => ?_⟩
      · have h := U107_7 hS h
        by_cases c : 9 ≤ i2
        · rw [if_pos c] at h
          rw [Int32.le_iff_toInt_le, e9, h2] at c
          rw [show t = 9 by omega] at h1
          exact ⟨⟨i1, h.1, h1⟩, h.2⟩
        · rw [if_neg c] at h
          rw [Int32.le_iff_toInt_le, e9, h2] at c
          exact ih16 t 0 i1 i2 0 h2 (by omega) z32 (Nat.zero_le _) (by rw [h1]; show _ = L - 2 * (_ + 0); omega) h
      · have h := U107_16 hS h
        by_cases c : i2 ≤ i3
        · rw [if_pos c] at h
          rw [Int32.le_iff_toInt_le, h2, h3] at c
          rw [show s = t by omega] at h1
          exact ih7 (t + 1) i1 _ _ (by rw [zi_inc (n := 100) (by omega) (by omega), h2]; rfl) (by omega) h1 h
        · rw [if_neg c] at h
          rw [Int32.le_iff_toInt_le, h2, h3] at c
          have es : (i3 + 1).toInt = ((s + 1 : Nat) : Int) := by rw [zi_inc (n := 100) (by omega) (by omega), h3]; rfl
          obtain ⟨c1, hc1, h⟩ := use_z hS h (fun _ _ y => F52n hS h2 h3 (by omega) (by omega) y)
          obtain ⟨_, h⟩ := h
          obtain ⟨c2, hc2, h⟩ := use_z hS h (fun _ _ y => F52n hS h3 h2 (by omega) (by omega) y)
          obtain ⟨_, h⟩ := h
          have v1 : aG w (a + 6) c1 = dA w a (9 * t + s) := aG_n hc1
          have v2 : aG w (a + 6) c2 = dA w a (9 * s + t) := aG_n hc2
          rw [g3, v1, v2] at h
          have vm : (if dA w a (9 * s + t) < dA w a (9 * t + s) then dA w a (9 * s + t) else dA w a (9 * t + s)).toInt = mnD (dA w a) t s := by
            unfold mnD
            by_cases q : dA w a (9 * s + t) < dA w a (9 * t + s)
            · rw [if_pos q, if_pos (Int32.lt_iff_toInt_lt.mp q)]
            · rw [if_neg q, if_neg (fun z => q (Int32.lt_iff_toInt_lt.mpr z))]
          have mb := mnD_b hD (t := t) (s := s)
          have b1 := ib t s (by omega)
          have b2 := ob t (by omega)
          have s1 : suI (mnD (dA w a) t) (s + 1) = suI (mnD (dA w a) t) s + mnD (dA w a) t s := rfl
          refine ih16 t (s + 1) _ i2 _ h2 ht es (by omega) ?_ h
          rw [zi_sub h1 (zi_mul two32 vm (by omega) (by omega)) (by omega) (by omega), s1]
          omega
  cases k with
  | zero => exact (PS_0 h).elim
  | succ k =>
    have h := use_p hS (U107_0 hS h) (fun _ _ y => F105 hS ok y)
    have e0 := (f32_i hD 81 (Nat.le_refl _)).1
    exact (lp k).1 0 _ 0 _ z32 (Nat.zero_le _) (by rw [e0, hL]; show _ = _ - 2 * 0; omega) h
theorem F254 (hS : SK w) (hD : ∀ q, 0 ≤ (dR w q).toInt ∧ (dR w q).toInt ≤ 99) (h : PS X k 254 0 [.ref 147, pm_dead, pm_dead, pm_dead, pm_dead] [] w r w') : (∃ z : Int32, r = some (.int z) ∧ z.toInt = suI (fun t => suI (abD (dR w) t) t) 9) ∧ w' = w := by
  have e9 : (9 : Int32).toInt = 9 := nine32
  have ab : ∀ t s, 0 ≤ abD (dR w) t s ∧ abD (dR w) t s ≤ 99 := fun t s => by
    have a := hD (9 * s + t)
    have b := hD (9 * t + s)
    unfold abD mnD
    split <;> omega
  have ib : ∀ t s, s ≤ 9 → 0 ≤ suI (abD (dR w) t) s ∧ suI (abD (dR w) t) s ≤ 891 := fun t s hs => by
    have := su_b (f := abD (dR w) t) (fun i => ab t i) s
    omega
  have ob : ∀ t : Nat, t ≤ 9 → 0 ≤ suI (fun t => suI (abD (dR w) t) t) t ∧ suI (fun t => suI (abD (dR w) t) t) t ≤ 891 * t := by
    intro t
    induction t with
    | zero => intro _; exact ⟨Int.le_refl _, by show (0 : Int) ≤ 891 * ((0 : Nat) : Int); omega⟩
    | succ t ih =>
      intro ht
      have q := ih (by omega)
      have q2 := ib t t (by omega)
      show 0 ≤ suI (fun t => suI (abD (dR w) t) t) t + suI (abD (dR w) t) t ∧ suI (fun t => suI (abD (dR w) t) t) t + suI (abD (dR w) t) t ≤ 891 * ((t + 1 : Nat) : Int)
      omega
  have lp : ∀ k : Nat, (∀ (t : Nat) (i1 i2 : Int32) (u3 u4 : Value), i2.toInt = t → t ≤ 9 → i1.toInt = suI (fun t => suI (abD (dR w) t) t) t → PS X k 254 4 [.ref 147, .int i1, .int i2, u3, u4] [] w r w' → (∃ z : Int32, r = some (.int z) ∧ z.toInt = suI (fun t => suI (abD (dR w) t) t) 9) ∧ w' = w) ∧
      (∀ (t s : Nat) (i1 i2 i3 : Int32) (u4 : Value), i2.toInt = t → t < 9 → i3.toInt = s → s ≤ t → i1.toInt = suI (fun t => suI (abD (dR w) t) t) t + suI (abD (dR w) t) s → PS X k 254 12 [.ref 147, .int i1, .int i2, .int i3, u4] [] w r w' → (∃ z : Int32, r = some (.int z) ∧ z.toInt = suI (fun t => suI (abD (dR w) t) t) 9) ∧ w' = w) := by
    intro k
    induction k with
    | zero => exact ⟨fun _ _ _ _ _ _ _ _ h => (PS_0 h).elim, fun _ _ _ _ _ _ _ _ _ _ _ h => (PS_0 h).elim⟩
    | succ k ih =>
      obtain ⟨ih4, ih12⟩ := ih
      refine ⟨fun t i1 i2 u3 u4 h2 ht h1 h => ?_, fun t s i1 i2 i3 u4 h2 ht h3 hs h1 h => ?_⟩
      · have h := U254_4 hS h
        by_cases c : 9 ≤ i2
        · rw [if_pos c] at h
          rw [Int32.le_iff_toInt_le, e9, h2] at c
          rw [show t = 9 by omega] at h1
          exact ⟨⟨i1, h.1, h1⟩, h.2⟩
        · rw [if_neg c] at h
          rw [Int32.le_iff_toInt_le, e9, h2] at c
          exact ih12 t 0 i1 i2 0 _ h2 (by omega) z32 (Nat.zero_le _) (by rw [h1]; show _ = _ + 0; omega) h
      · have h := U254_12 hS h
        by_cases c : i2 ≤ i3
        · rw [if_pos c] at h
          rw [Int32.le_iff_toInt_le, h2, h3] at c
          rw [show s = t by omega] at h1
          exact ih4 (t + 1) i1 _ _ _ (by rw [zi_inc (n := 100) (by omega) (by omega), h2]; rfl) (by omega) h1 h
        · rw [if_neg c] at h
          rw [Int32.le_iff_toInt_le, h2, h3] at c
          have es : (i3 + 1).toInt = ((s + 1 : Nat) : Int) := by rw [zi_inc (n := 100) (by omega) (by omega), h3]; rfl
          have h := use_p hS h (fun _ _ y => F232n hS h2 h3 (by omega) (by omega) y)
          have h := use_p hS h (fun _ _ y => F232n hS h3 h2 (by omega) (by omega) y)
          have d1 := hD (9 * t + s)
          have d2 := hD (9 * s + t)
          have vd : (dR w (9 * t + s) - dR w (9 * s + t)).toInt = (dR w (9 * t + s)).toInt - (dR w (9 * s + t)).toInt := zi_sub rfl rfl (by omega) (by omega)
          have b1 := ib t s (by omega)
          have b2 := ob t (by omega)
          have s1 : suI (abD (dR w) t) (s + 1) = suI (abD (dR w) t) s + abD (dR w) t s := rfl
          by_cases q : 0 ≤ dR w (9 * t + s) - dR w (9 * s + t)
          · rw [if_pos q] at h
            rw [Int32.le_iff_toInt_le, z32, vd] at q
            refine ih12 t (s + 1) _ i2 _ _ h2 ht es (by omega) ?_ h
            rw [zi_add h1 vd (by omega) (by omega), s1]
            unfold abD mnD
            split <;> omega
          · rw [if_neg q] at h
            rw [Int32.le_iff_toInt_le, z32, vd] at q
            refine ih12 t (s + 1) _ i2 _ _ h2 ht es (by omega) ?_ h
            rw [zi_add h1 (zi_neg vd (by omega) (by omega)) (by omega) (by omega), s1]
            unfold abD mnD
            split <;> omega
  cases k with
  | zero => exact (PS_0 h).elim
  | succ k => exact (lp k).1 0 0 0 _ _ z32 (Nat.zero_le _) z32 (U254_0 hS h)
end JZA
