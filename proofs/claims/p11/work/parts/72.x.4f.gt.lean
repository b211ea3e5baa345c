/-! ===== image and again ===== -/
section GTI
variable {X : pm_X} {k k2 : Nat} {w0 w w1 w2 w' : pm_W} {r r2 : Option Value} {p p1 p2 p3 p4 p5 f0 p0 f q x : Int32} {n i v j m s T L : Nat} {a : Nat → Int32}
def tFs (T : Nat) : List (Nat × Nat) := [(T, 2), (T, 3), (T, 5), (T, 6), (T, 7), (T + 4, 0), (T + 4, 1), (T + 4, 2), (T + 9, 0), (T + 9, 1), (T + 9, 2), (T + 14, 0), (T + 16, 0), (T + 18, 0)]
def tAs (T : Nat) : List Nat := [T + 3, T + 5, T + 6, T + 7, T + 8, T + 10, T + 11, T + 12, T + 13, T + 15, T + 17, T + 19]
theorem TE_cg {b : Nat → Int32} (h : TE w T a) (e : ∀ q, q < 1690 → b q = a q) : TE w T b := by
  obtain ⟨⟨r1, r2, r3, r4, r5, r6, r7⟩, t1, t2, t3, t4, t5, t6, t7, t8⟩ := h
  have e0 := e 0 (by decide)
  have e1 := e 1 (by decide)
  have e2 := e 2 (by decide)
  refine ⟨⟨by rw [e0]; exact r1, by rw [e0]; exact r2, by rw [e1]; exact r3, by rw [e1]; exact r4, by rw [e2]; exact r5, by rw [e2]; exact r6, fun u hu => ?_⟩, by rw [e0]; exact t1, by rw [e1]; exact t2, by rw [e2]; exact t3, by rw [e 3 (by decide)]; exact t4, by rw [e 4 (by decide)]; exact t5, fun j hj => ?_, fun u hu k hk => ?_, fun u hu => ?_⟩
  · rw [e1] at hu
    rw [e _ (by omega)]
    exact r7 u hu
  · rw [e2] at hj
    rw [e _ (by omega)]
    exact t6 j hj
  · rw [e0] at hu
    rw [e _ (by omega)]
    exact t7 u hu k hk
  · rw [e1] at hu
    have ra := r7 u hu
    obtain ⟨y1, y2⟩ := t8 u hu
    rw [e (874 + 272 * u) (by omega)]
    exact ⟨y1, fun q hq => by rw [e _ (by omega)]; exact y2 q hq⟩
theorem TE_fm {fs : List (Nat × Nat)} {as : List Nat} (hS : SK w) (ok1 : okV (T + 4) = true) (ok2 : okV (T + 9) = true) (h : TE w T a) (fm : FM fs as w w') (hf : ∀ p, p ∈ tFs T → p ∉ fs) (ha : ∀ x, x ∈ tAs T → x ∉ as) : TE w' T a := by
  obtain ⟨⟨r1, r2, r3, r4, r5, r6, r7⟩, t1, t2, t3, t4, t5, t6, t7, t8⟩ := h
  refine ⟨⟨r1, r2, r3, r4, r5, r6, r7⟩, ?_, ?_, ?_, ?_, ?_, fun j hj => ?_, fun u hu k hk => ?_, fun u hu => ?_⟩
  · rw [FM_i fm (hf _ (by simp [tFs]))]; exact t1
  · rw [FM_i fm (hf _ (by simp [tFs]))]; exact t2
  · rw [FM_i fm (hf _ (by simp [tFs]))]; exact t3
  · rw [FM_i fm (hf _ (by simp [tFs]))]; exact t4
  · rw [FM_i fm (hf _ (by simp [tFs]))]; exact t5
  · rw [FM_a fm (ha _ (by simp [tAs]))]; exact t6 j hj
  · rw [← t7 u hu k hk]
    have c : u = 0 ∨ u = 1 := by omega
    rcases c with rfl | rfl
    · exact vcl_FMv hS fm ok1 (hf _ (by simp [tFs])) (hf _ (by simp [tFs])) (hf _ (by simp [tFs])) (ha _ (by simp [tAs])) (ha _ (by simp [tAs])) (ha _ (by simp [tAs])) (ha _ (by simp [tAs])) k
    · exact vcl_FMv hS fm ok2 (hf _ (by simp [tFs])) (hf _ (by simp [tFs])) (hf _ (by simp [tFs])) (ha _ (by simp [tAs])) (ha _ (by simp [tAs])) (ha _ (by simp [tAs])) (ha _ (by simp [tAs])) k
  · obtain ⟨y1, y2⟩ := t8 u hu
    have c : u = 0 ∨ u = 1 ∨ u = 2 := by omega
    refine ⟨?_, fun q hq => ?_⟩
    · rw [← y1]
      rcases c with rfl | rfl | rfl
      · exact FM_i fm (hf _ (by simp [tFs]))
      · exact FM_i fm (hf _ (by simp [tFs]))
      · exact FM_i fm (hf _ (by simp [tFs]))
    · rw [← y2 q hq]
      rcases c with rfl | rfl | rfl
      · rw [FM_a fm (ha _ (by simp [tAs]))]
      · rw [FM_a fm (ha _ (by simp [tAs]))]
      · rw [FM_a fm (ha _ (by simp [tAs]))]
def IM (w : pm_W) : Prop := ∀ k, k < 3 → (gA w 22).getD k 0 = (gA w 149).getD k 0 ∧ ((gA w 149).getD k 0 ≠ 0 → TE w (87 + 20 * k) (fun q => al w (1690 * (k + 1) + q)))
/-- what is told, and the images, are alike on both sides -/
def RL2 (w : pm_W) : Prop := SK w ∧ TE w 1 (al w) ∧ IM w
theorem okI {κ : Nat} (h : κ < 3) : okV (87 + 20 * κ + 4) = true ∧ okV (87 + 20 * κ + 9) = true := by
  have c : κ = 0 ∨ κ = 1 ∨ κ = 2 := by omega
  rcases c with rfl | rfl | rfl <;> decide +kernel
/-- another call that leaves told things alone -/
theorem IM_fm {fs : List (Nat × Nat)} {as : List Nat} (hS : SK w) (h : IM w) (fm : FM fs as w w2) (hf : ∀ k, k < 3 → ∀ p, p ∈ tFs (87 + 20 * k) → p ∉ fs) (ha : ∀ k, k < 3 → ∀ x, x ∈ tAs (87 + 20 * k) → x ∉ as) (a22 : 22 ∉ as) (a149 : 149 ∉ as) (hal : ∀ q, 1690 ≤ q → al w2 q = al w q) : IM w2 := by
  intro k hk
  obtain ⟨h1, h2⟩ := h k hk
  rw [FM_a fm a22, FM_a fm a149]
  refine ⟨h1, fun z => ?_⟩
  have q := TE_fm hS (okI hk).1 (okI hk).2 (h2 z) fm (hf k hk) (ha k hk)
  exact TE_cg q (fun q _ => hal _ (by omega))
theorem three_k {P : Nat → Prop} (h0 : P 0) (h1 : P 1) (h2 : P 2) : ∀ k, k < 3 → P k := by
  intro k hk
  have c : k = 0 ∨ k = 1 ∨ k = 2 := by omega
  rcases c with rfl | rfl | rfl <;> assumption
theorem RTXT (hX : XO X) (h : RL2 w) (h1 : PS X k 16 0 [.ref 0, .int p1, .int p2, pm_dead, pm_dead] [] w r w1) (h2 : PS X k2 198 0 [.ref 147, .int p1, .int p2, pm_dead, pm_dead, pm_dead] [] w1 r2 w2) : r2 = r ∧ RL2 w2 := by
  obtain ⟨hS, hT, hI⟩ := h
  obtain ⟨a1, a2, a3, a4⟩ := TXT hX hS hT h1 h2
  exact ⟨a1, a3.2.2.2, a2, IM_fm hS hI a3 (three_k (by decide) (by decide) (by decide)) (three_k (by decide) (by decide) (by decide)) (by decide) (by decide) a4⟩
theorem RFEED (h : RL2 w) (h1 : PS X k 13 0 [.ref 0, .int p1, .int p2, .int p3, .int p4, .int p5] [] w r w1) (h2 : PS X k2 196 0 [.ref 147, .int p1, .int p2, .int p3, .int p4, .int p5, pm_dead, pm_dead] [] w1 r2 w2) : r2 = r ∧ RL2 w2 := by
  obtain ⟨hS, hT, hI⟩ := h
  obtain ⟨a1, a2, a3, a4⟩ := FEED hS hT h1 h2
  exact ⟨a1, a3.2.2.2, a2, IM_fm hS hI a3 (three_k (by decide) (by decide) (by decide)) (three_k (by decide) (by decide) (by decide)) (by decide) (by decide) a4⟩
theorem RENDS (h : RL2 w) (h1 : PS X k 15 0 [.ref 0, .int p1] [] w r w1) (h2 : PS X k2 197 0 [.ref 147, .int p1] [] w1 r2 w2) : r2 = r ∧ RL2 w2 := by
  obtain ⟨hS, hT, hI⟩ := h
  obtain ⟨a1, a2, a3, a4⟩ := ENDS hS hT h1 h2
  exact ⟨a1, a3.2.2.2, a2, IM_fm hS hI a3 (three_k (by decide) (by decide) (by decide)) (three_k (by decide) (by decide) (by decide)) (by decide) (by decide) a4⟩
/-- the class's images -/
theorem F71_img {κ : Nat} (hκ : κ < 3) (hS : SK w) (hTE : TE w 1 a) (h : PS X k 71 0 [.ref (87 + 20 * κ), .ref 1, pm_dead] [] w r w') : r = none ∧ FM (tFs (87 + 20 * κ)) (tAs (87 + 20 * κ)) w w' ∧ TE w' (87 + 20 * κ) a := by
  have c : κ = 0 ∨ κ = 1 ∨ κ = 2 := by omega
  rcases c with rfl | rfl | rfl
  · exact TE71_87_1 hS hTE h
  · exact TE71_107_1 hS hTE h
  · exact TE71_127_1 hS hTE h
theorem F71_agn {κ : Nat} (hκ : κ < 3) (hS : SK w) (hTE : TE w (87 + 20 * κ) a) (h : PS X k 71 0 [.ref 1, .ref (87 + 20 * κ), pm_dead] [] w r w') : r = none ∧ FM (tFs 1) (tAs 1) w w' ∧ TE w' 1 a := by
  have c : κ = 0 ∨ κ = 1 ∨ κ = 2 := by omega
  rcases c with rfl | rfl | rfl
  · exact TE71_1_87 hS hTE h
  · exact TE71_1_107 hS hTE h
  · exact TE71_1_127 hS hTE h
theorem q21 {κ : Nat} (hκ : κ < 3) (hS : SK w) (h : x.toInt = κ) : qG w 21 x = 87 + 20 * κ := by
  unfold qG
  rw [show gQ w 21 = [some 87, some 107, some 127] from by rw [SK_Q hS]; decide +kernel, i_nat h]
  have c : κ = 0 ∨ κ = 1 ∨ κ = 2 := by omega
  rcases c with rfl | rfl | rfl <;> rfl
theorem aB_b {y : Int32} {κ : Nat} (hS : SK w) (ha : gT sk0 s = 2) (hA : sk_a s = true) (hl : sk_l s = 3) (h : y.toInt = κ) (hκ : κ < 3) (j : Nat) : (gA (aB w s y 1) s).getD j 0 = if j = κ then 1 else (gA w s).getD j 0 := by
  unfold aB
  rw [show gT w s = 2 from by rw [SK_T hS]; exact ha]
  show (gA (aS w s y (vp_nar .boolean 1)) s).getD j 0 = _
  rw [show vp_nar .boolean 1 = 1 from by decide +kernel, gA_aS (SK_isA hS hA), i_nat h, getD_set (by rw [SK_len hS hl (by decide)]; exact hκ)]
theorem FM_aB {fs : List (Nat × Nat)} {as : List Nat} {y z : Int32} (hS : SK w) (h : s ∈ as) : FM fs as w (aB w s y z) := FM_aS hS h
theorem L316 {i1 : Int32} {κ : Nat} (hκ : κ < 3) (h1 : i1.toInt = κ) : ∀ (k : Nat) (w : pm_W) (t : Nat) (i2 : Int32), SK w → i2.toInt = t → t ≤ 1690 → PS X k 316 20 [.ref 147, .int i1, .int i2] [] w r w' → r = some (.int 1) ∧ FM [] [148] w w' ∧ ∀ q, al w' q = if 1690 * (κ + 1) + t ≤ q ∧ q < 1690 * (κ + 1) + 1690 then al w (q - 1690 * (κ + 1)) else al w q := by
  intro k
  have e1690 : (1690 : Int32).toInt = 1690 := by decide +kernel
  induction k with
  | zero => intro w t i2 hS h2 ht h; exact (PS_0 h).elim
  | succ k ih =>
    intro w t i2 hS h2 ht h
    have h := U316_20 hS h
    by_cases c : 1690 ≤ i2
    · rw [if_pos c] at h
      rw [Int32.le_iff_toInt_le, e1690, h2] at c
      obtain ⟨a1, a2⟩ := h
      subst w'
      exact ⟨a1, FM_refl hS, fun q => by rw [if_neg (by omega)]⟩
    · rw [if_neg c] at h
      rw [Int32.le_iff_toInt_le, e1690, h2] at c
      obtain ⟨_, _, h⟩ := h
      have h := h _ rfl
      have ei : (1690 * (i1 + 1) + i2).toInt = (1690 * (κ + 1) + t : Nat) := by
        rw [zi_add (zi_mul e1690 (zi_add h1 o32 (by omega) (by omega)) (by omega) (by omega)) h2 (by omega) (by omega)]
        omega
      rw [aG_n (m := t) h2] at h
      have f1 : FM [] [148] w (aS w 148 (1690 * (i1 + 1) + i2) ((gA w 148).getD t 0)) := FM_aS hS (by decide)
      obtain ⟨a1, a2, a3⟩ := ih _ (t + 1) (i2 + 1) f1.2.2.2 (by rw [zi_inc (n := 1690) (by omega) (by omega), h2]; rfl) (by omega) h
      refine ⟨a1, FM_trans f1 a2, fun q => ?_⟩
      rw [a3, al_aS hS ei (by omega), al_aS hS ei (by omega)]
      by_cases y1 : 1690 * (κ + 1) + (t + 1) ≤ q ∧ q < 1690 * (κ + 1) + 1690
      · rw [if_pos y1, if_neg (by omega), if_pos (by omega)]
      · rw [if_neg y1]
        by_cases y2 : q = 1690 * (κ + 1) + t
        · rw [if_pos y2, if_pos (by omega), y2, show 1690 * (κ + 1) + t - 1690 * (κ + 1) = t by omega]
          rfl
        · rw [if_neg y2, if_neg (by omega)]
theorem L317 {i1 : Int32} {κ : Nat} (hκ : κ < 3) (h1 : i1.toInt = κ) : ∀ (k : Nat) (w : pm_W) (t : Nat) (i2 : Int32), SK w → i2.toInt = t → t ≤ 1690 → PS X k 317 22 [.ref 147, .int i1, .int i2] [] w r w' → r = some (.int 1) ∧ FM [] [148] w w' ∧ ∀ q, al w' q = if t ≤ q ∧ q < 1690 then al w (1690 * (κ + 1) + q) else al w q := by
  intro k
  have e1690 : (1690 : Int32).toInt = 1690 := by decide +kernel
  induction k with
  | zero => intro w t i2 hS h2 ht h; exact (PS_0 h).elim
  | succ k ih =>
    intro w t i2 hS h2 ht h
    have h := U317_22 hS h
    by_cases c : 1690 ≤ i2
    · rw [if_pos c] at h
      rw [Int32.le_iff_toInt_le, e1690, h2] at c
      obtain ⟨a1, a2⟩ := h
      subst w'
      exact ⟨a1, FM_refl hS, fun q => by rw [if_neg (by omega)]⟩
    · rw [if_neg c] at h
      rw [Int32.le_iff_toInt_le, e1690, h2] at c
      obtain ⟨_, _, h⟩ := h
      have h := h _ rfl
      have ei : (1690 * (i1 + 1) + i2).toInt = (1690 * (κ + 1) + t : Nat) := by
        rw [zi_add (zi_mul e1690 (zi_add h1 o32 (by omega) (by omega)) (by omega) (by omega)) h2 (by omega) (by omega)]
        omega
      rw [aG_n (m := 1690 * (κ + 1) + t) ei] at h
      have f1 : FM [] [148] w (aS w 148 i2 ((gA w 148).getD (1690 * (κ + 1) + t) 0)) := FM_aS hS (by decide)
      obtain ⟨a1, a2, a3⟩ := ih _ (t + 1) (i2 + 1) f1.2.2.2 (by rw [zi_inc (n := 1690) (by omega) (by omega), h2]; rfl) (by omega) h
      refine ⟨a1, FM_trans f1 a2, fun q => ?_⟩
      rw [a3, al_aS hS h2 (by omega), al_aS hS h2 (by omega)]
      by_cases y1 : t + 1 ≤ q ∧ q < 1690
      · rw [if_pos y1, if_neg (by omega), if_pos (by omega)]
      · rw [if_neg y1]
        by_cases y2 : q = t
        · rw [if_pos y2, if_pos (by omega), y2]
          rfl
        · rw [if_neg y2, if_neg (by omega)]
theorem isI_3 {y : Int32} : isI p1 0 2 = true ↔ 0 ≤ p1.toInt ∧ p1.toInt < 3 := by
  unfold isI
  rw [Bool.and_eq_true, decide_eq_true_iff, decide_eq_true_iff, z32, two32]
  omega
theorem RIMG (h : RL2 w) (h1 : PS X k 70 0 [.ref 0, .int p1] [] w r w1) (h2 : PS X k2 316 0 [.ref 147, .int p1, pm_dead] [] w1 r2 w2) : r2 = r ∧ RL2 w2 := by
  obtain ⟨hS, hT, hI⟩ := h
  have e3 : (3 : Int32).toInt = 3 := three32
  cases k with
  | zero => exact (PS_0 h1).elim
  | succ k =>
    cases k2 with
    | zero => exact (PS_0 h2).elim
    | succ k2 =>
      have h1 := U70_0 hS h1
      have non : ¬ (0 ≤ p1.toInt ∧ p1.toInt < 3) → r = some (.int 0) ∧ w1 = w → r2 = r ∧ RL2 w2 := by
        rintro hn ⟨a1, a2⟩
        subst w1
        have h2 := use_p hS (U316_0 hS h2) (fun _ _ z => F199 hS z)
        have hf : isI p1 0 2 = false := by
          cases hh : isI p1 0 2 with
          | false => rfl
          | true => exact absurd ((isI_3 (y := 0)).mp hh) hn
        rw [hf, if_pos (by decide +kernel)] at h2
        obtain ⟨b1, b2⟩ := h2
        subst w2
        exact ⟨by rw [a1, b1], hS, hT, hI⟩
      by_cases c : p1 < 0
      · rw [if_pos c] at h1
        rw [Int32.lt_iff_toInt_lt, z32] at c
        exact non (by omega) h1
      · rw [if_neg c] at h1
        rw [Int32.lt_iff_toInt_lt, z32] at c
        by_cases c3 : p1 < 3
        · rw [if_pos c3] at h1
          rw [Int32.lt_iff_toInt_lt, e3] at c3
          obtain ⟨κ, hκ⟩ : ∃ κ, κ = p1.toInt.toNat := ⟨_, rfl⟩
          have ek : p1.toInt = κ := by omega
          have k3 : κ < 3 := by omega
          obtain ⟨_, r1, wa, q1, q2⟩ := h1
          rw [q21 k3 hS ek] at q1
          obtain ⟨a1, a2, a3⟩ := F71_img k3 hS hT q1
          have Sa := a2.2.2.2
          obtain ⟨_, q2⟩ := q2 a1 Sa
          obtain ⟨q3, q4⟩ := q2 _ rfl
          have f1 : FM [] [22] wa w1 := by rw [q4]; exact FM_aB Sa (by decide)
          have S1 := f1.2.2.2
          have h2 := use_p S1 (U316_0 S1 h2) (fun _ _ z => F199 S1 z)
          rw [(isI_3 (y := 0)).mpr ⟨by omega, by omega⟩, if_neg (by decide +kernel)] at h2
          obtain ⟨_, h2⟩ := h2
          have h2 := h2 _ rfl
          have fb : FM [] [149] w1 (aB w1 149 p1 1) := FM_aB S1 (by decide)
          obtain ⟨b1, b2, b3⟩ := L316 k3 ek _ _ 0 0 fb.2.2.2 z32 (by decide) h2
          have nt : ∀ x, x = 22 ∨ x = 148 ∨ x = 149 → x ∉ tAs (87 + 20 * κ) := by
            intro x hx
            have c : κ = 0 ∨ κ = 1 ∨ κ = 2 := by omega
            rcases c with rfl | rfl | rfl <;> rcases hx with rfl | rfl | rfl <;> decide
          have ea : al wa = al w := al_FM a2 (nt 148 (by omega))
          have eb : al (aB w1 149 p1 1) = al w := by rw [al_FM fb (by decide), al_FM f1 (by decide), ea]
          rw [eb] at b3
          have f3 : FM [] [22, 149, 148] wa w2 := FM_trans (FM_mono f1 (by intro x hx; exact hx) (by decide)) (FM_trans (FM_mono fb (by intro x hx; exact hx) (by decide)) (FM_mono b2 (by intro x hx; exact hx) (by decide)))
          have g22 : ∀ j, (gA w2 22).getD j 0 = if j = κ then 1 else (gA w 22).getD j 0 := by
            intro j
            rw [FM_a b2 (by decide), FM_a fb (by decide), q4, aB_b Sa (by decide +kernel) (by decide +kernel) (by decide +kernel) ek k3, FM_a a2 (nt 22 (by omega))]
          have g149 : ∀ j, (gA w2 149).getD j 0 = if j = κ then 1 else (gA w 149).getD j 0 := by
            intro j
            rw [FM_a b2 (by decide), aB_b S1 (by decide +kernel) (by decide +kernel) (by decide +kernel) ek k3, FM_a f1 (by decide), FM_a a2 (nt 149 (by omega))]
          have hal1 : ∀ q, q < 1690 → al w2 q = al w q := fun q hq => by rw [b3, if_neg (by omega)]
          refine ⟨by rw [q3, b1], f3.2.2.2, ?_, fun j hj => ?_⟩
          · have q := TE_fm Sa (T := 1) (by decide +kernel) (by decide +kernel) (TE_fm hS (T := 1) (by decide +kernel) (by decide +kernel) hT a2 (by
              have c : κ = 0 ∨ κ = 1 ∨ κ = 2 := by omega
              rcases c with rfl | rfl | rfl <;> decide) (by
              have c : κ = 0 ∨ κ = 1 ∨ κ = 2 := by omega
              rcases c with rfl | rfl | rfl <;> decide)) f3 (by intro p hp z; cases z) (by decide)
            exact TE_cg q hal1
          · rw [g22, g149]
            by_cases e : j = κ
            · rw [if_pos e, if_pos e]
              refine ⟨rfl, fun _ => ?_⟩
              rw [e]
              have q := TE_fm Sa (okI k3).1 (okI k3).2 a3 f3 (by intro p hp z; cases z) (by
                have c : κ = 0 ∨ κ = 1 ∨ κ = 2 := by omega
                rcases c with rfl | rfl | rfl <;> decide)
              exact TE_cg q (fun q hq => by rw [b3, if_pos (by omega), show 1690 * (κ + 1) + q - 1690 * (κ + 1) = q by omega])
            · rw [if_neg e, if_neg e]
              obtain ⟨i1, i2⟩ := hI j hj
              refine ⟨i1, fun z => ?_⟩
              have q := TE_fm Sa (okI hj).1 (okI hj).2 (TE_fm hS (okI hj).1 (okI hj).2 (i2 z) a2 (by
                have c : (κ = 0 ∧ j = 1) ∨ (κ = 0 ∧ j = 2) ∨ (κ = 1 ∧ j = 0) ∨ (κ = 1 ∧ j = 2) ∨ (κ = 2 ∧ j = 0) ∨ (κ = 2 ∧ j = 1) := by omega
                rcases c with ⟨rfl, rfl⟩ | ⟨rfl, rfl⟩ | ⟨rfl, rfl⟩ | ⟨rfl, rfl⟩ | ⟨rfl, rfl⟩ | ⟨rfl, rfl⟩ <;> decide) (by
                have c : (κ = 0 ∧ j = 1) ∨ (κ = 0 ∧ j = 2) ∨ (κ = 1 ∧ j = 0) ∨ (κ = 1 ∧ j = 2) ∨ (κ = 2 ∧ j = 0) ∨ (κ = 2 ∧ j = 1) := by omega
                rcases c with ⟨rfl, rfl⟩ | ⟨rfl, rfl⟩ | ⟨rfl, rfl⟩ | ⟨rfl, rfl⟩ | ⟨rfl, rfl⟩ | ⟨rfl, rfl⟩ <;> decide)) f3 (by intro p hp z; cases z) (by
                have c : j = 0 ∨ j = 1 ∨ j = 2 := by omega
                rcases c with rfl | rfl | rfl <;> decide)
              exact TE_cg q (fun q hq => by rw [b3, if_neg (by omega)])
        · rw [if_neg c3] at h1
          rw [Int32.lt_iff_toInt_lt, e3] at c3
          exact non (by omega) h1
theorem RAGN (h : RL2 w) (h1 : PS X k 72 0 [.ref 0, .int p1] [] w r w1) (h2 : PS X k2 317 0 [.ref 147, .int p1, pm_dead] [] w1 r2 w2) : r2 = r ∧ RL2 w2 := by
  obtain ⟨hS, hT, hI⟩ := h
  have e3 : (3 : Int32).toInt = 3 := three32
  cases k with
  | zero => exact (PS_0 h1).elim
  | succ k =>
    cases k2 with
    | zero => exact (PS_0 h2).elim
    | succ k2 =>
      have h1 := U72_0 hS h1
      have non : ¬ (0 ≤ p1.toInt ∧ p1.toInt < 3) → r = some (.int 0) ∧ w1 = w → r2 = r ∧ RL2 w2 := by
        rintro hn ⟨a1, a2⟩
        subst w1
        have h2 := use_p hS (U317_0 hS h2) (fun _ _ z => F199 hS z)
        have hf : isI p1 0 2 = false := by
          cases hh : isI p1 0 2 with
          | false => rfl
          | true => exact absurd ((isI_3 (y := 0)).mp hh) hn
        rw [hf, if_pos (by decide +kernel)] at h2
        obtain ⟨b1, b2⟩ := h2
        subst w2
        exact ⟨by rw [a1, b1], hS, hT, hI⟩
      by_cases c : p1 < 0
      · rw [if_pos c] at h1
        rw [Int32.lt_iff_toInt_lt, z32] at c
        exact non (by omega) h1
      · rw [if_neg c] at h1
        rw [Int32.lt_iff_toInt_lt, z32] at c
        by_cases c3 : 3 ≤ p1
        · rw [if_pos c3] at h1
          rw [Int32.le_iff_toInt_le, e3] at c3
          exact non (by omega) h1
        · rw [if_neg c3] at h1
          rw [Int32.le_iff_toInt_le, e3] at c3
          obtain ⟨κ, hκ⟩ : ∃ κ, κ = p1.toInt.toNat := ⟨_, rfl⟩
          have ek : p1.toInt = κ := by omega
          have k3 : κ < 3 := by omega
          obtain ⟨i1, i2⟩ := hI κ k3
          obtain ⟨_, h1⟩ := h1
          rw [aG_n (m := κ) ek, i1] at h1
          by_cases cz : (gA w 149).getD κ 0 = 0
          · rw [if_pos cz] at h1
            obtain ⟨a1, a2⟩ := h1
            subst w1
            have h2 := use_p hS (U317_0 hS h2) (fun _ _ z => F199 hS z)
            rw [(isI_3 (y := 0)).mpr ⟨by omega, by omega⟩, if_neg (by decide +kernel)] at h2
            obtain ⟨_, h2⟩ := h2
            rw [aG_n (m := κ) ek, if_pos cz] at h2
            obtain ⟨b1, b2⟩ := h2
            subst w2
            exact ⟨by rw [a1, b1], hS, hT, hI⟩
          · rw [if_neg cz] at h1
            obtain ⟨_, r1, wa, q1, q2⟩ := h1
            rw [q21 k3 hS ek] at q1
            obtain ⟨a1, a2, a3⟩ := F71_agn k3 hS (i2 cz) q1
            have Sa := a2.2.2.2
            obtain ⟨q3, q4⟩ := q2 a1 Sa
            subst w1
            have ea : al wa = al w := al_FM a2 (by decide)
            have h2 := use_p Sa (U317_0 Sa h2) (fun _ _ z => F199 Sa z)
            rw [(isI_3 (y := 0)).mpr ⟨by omega, by omega⟩, if_neg (by decide +kernel)] at h2
            obtain ⟨_, h2⟩ := h2
            rw [aG_n (m := κ) ek, FM_a a2 (by decide), if_neg cz] at h2
            obtain ⟨b1, b2, b3⟩ := L317 k3 ek _ _ 0 0 Sa z32 (by decide) h2
            rw [ea] at b3
            refine ⟨by rw [q3, b1], b2.2.2.2, ?_, ?_⟩
            · have q := TE_fm Sa (T := 1) (by decide +kernel) (by decide +kernel) a3 b2 (by intro p hp z; cases z) (by decide)
              exact TE_cg q (fun q hq => by rw [b3, if_pos (by omega)])
            · exact IM_fm Sa (IM_fm hS hI a2 (three_k (by decide) (by decide) (by decide)) (three_k (by decide) (by decide) (by decide)) (by decide) (by decide) (fun q hq => by rw [ea])) b2 (by intro k hk p hp z; cases z) (three_k (by decide) (by decide) (by decide)) (by decide) (by decide) (fun q hq => by rw [b3, if_neg (by omega), ea])
end GTI
