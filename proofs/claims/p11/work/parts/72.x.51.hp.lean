/-! ===== what is told and the images stay valid ===== -/
section HPV
variable {X : pm_X} {k k2 : Nat} {w0 w w1 w2 w' : pm_W} {r r2 : Option Value} {p p1 p2 p3 p4 p5 f0 p0 f q x : Int32} {n i v j m s T L : Nat} {a : Nat → Int32}
def VI (w : pm_W) : Prop := ∀ k, k < 3 → (gA w 149).getD k 0 ≠ 0 → VAa (fun q => al w (1690 * (k + 1) + q))
/-- alike and valid: what is told now, and each image that is there -/
def RL4 (w : pm_W) : Prop := RL3 w ∧ VI w
theorem VI_cg (h : VI w) (h9 : gA w2 149 = gA w 149) (e : ∀ q, 1690 ≤ q → al w2 q = al w q) : VI w2 := by
  intro k hk z
  rw [h9] at z
  have q := h k hk z
  rw [show (fun q => al w2 (1690 * (k + 1) + q)) = (fun q => al w (1690 * (k + 1) + q)) from funext fun q => e _ (by omega)]
  exact q
theorem REFV (hS : SK w) (hr : RA (al w)) (hB : ∀ i, i < (al w 2).toInt.toNat → 0 ≤ (rb w i).toInt) (hV : VAa (al w)) (h : PS X k 198 0 [.ref 147, .int p1, .int p2, pm_dead, pm_dead, pm_dead] [] w r w') : VAa (al w') ∧ FM ((147, 2) :: rl7) [148, 150, 151] w w' := by
  have hr' := hr
  obtain ⟨r1, r2, r3, r4, r5, r6, r7⟩ := hr'
  obtain ⟨b, hb⟩ : ∃ b, b = decide (p1 = 0) := ⟨_, rfl⟩
  obtain ⟨fm, z⟩ := F198 (n := (al w 2).toInt.toNat) hS r5 r6 rfl hB r1 r2 r3 r4 hb h
  refine ⟨?_, fm⟩
  rcases z with ⟨b1, b2, b3⟩ | ⟨b1, N, o, b2, ⟨c1, c2, c3⟩ | ⟨c1, c2, s0, cnt, hs, c3⟩⟩
  · exact VAa_cg hV hr (fun q _ hq => by rw [b3, if_neg (by omega), if_neg (by omega), if_neg (by omega)])
  · exact VAa_cg hV hr (fun q _ hq => by rw [c3, if_neg (by omega), if_neg (by omega), if_neg (by omega)])
  · have oz : o.2.1 = 0 := by
      by_cases y : o.2.1 = 0
      · exact y
      · unfold fF at c1
        rw [if_neg (fun hh => y hh.2.1)] at c1
        exact c1
    have hG : b = true → o.2.2.2.2 < (o.2.2.2.1 0).toInt := by
      intro hbt
      by_cases y : (o.2.2.2.1 0).toInt ≤ o.2.2.2.2
      · unfold fF at c1
        rw [if_pos ⟨hbt, oz, y⟩] at c1
        exact absurd c1 (by decide +kernel)
      · omega
    have hC := RD_VLD N b2 (fun _ => VLD_0) oz
    have m1 : (-1 : Int32).toInt = -1 := by decide +kernel
    have pe := plc_eq (a := p2) hs
    obtain ⟨P, hP⟩ : ∃ P, P = plcF p1 p2 (al w 0) (al w 1) := ⟨_, rfl⟩
    rw [← hP] at b1 c3 pe
    have cs : (b = true ∧ s0 = 0) ∨ (b = false ∧ s0 = 1) := by
      rcases hs with ⟨h1, _, h3⟩ | ⟨h1, _, h3⟩
      · exact Or.inl ⟨by rw [hb, decide_eq_true h1], h3⟩
      · exact Or.inr ⟨by rw [hb, decide_eq_false (by rw [h1]; decide +kernel)], h3⟩
    have hcn : cnt = al w s0 := by
      rcases hs with ⟨_, h2, h3⟩ | ⟨_, h2, h3⟩ <;> rw [h2, h3]
    have hc0 : 0 ≤ cnt.toInt ∧ cnt.toInt ≤ s0 + 2 := by
      rcases hs with ⟨_, h2, h3⟩ | ⟨_, h2, h3⟩ <;> rw [h2, h3] <;> constructor <;> omega
    by_cases e : p2 = -1
    · rw [if_pos e] at pe c3
      by_cases c : cnt.toInt < (s0 + 2 : Nat)
      · rw [if_pos c] at pe
        have e1 : (cnt + 1).toInt = cnt.toInt + 1 := zi_add rfl o32 (by omega) (by omega)
        rw [pe] at c3
        exact VA_text hV hr hC hG (cs.elim (fun z => Or.inl ⟨z.1, z.2, by have := z.2; omega⟩) (fun z => Or.inr ⟨z.1, z.2, by have := z.2; omega⟩)) hcn (by rw [e1]; omega) (by rw [e1]; omega) c3 (by omega)
      · rw [if_neg c] at pe
        exact absurd pe b1
    · rw [if_neg e] at pe c3
      by_cases c : 0 ≤ p2.toInt ∧ p2.toInt < cnt.toInt
      · rw [if_pos c] at pe
        rw [pe] at c3
        exact VA_text hV hr hC hG (cs.elim (fun z => Or.inl ⟨z.1, z.2, by have := z.2; omega⟩) (fun z => Or.inr ⟨z.1, z.2, by have := z.2; omega⟩)) hcn (by omega) (by omega) c3 (by omega)
      · rw [if_neg c] at pe
        exact absurd pe b1
/-- the class's text leaves the reference alone -/
theorem F16_r (hX : XO X) (hS : SK w) (hTE : TE w 1 (al w)) (h1 : PS X k 16 0 [.ref 0, .int p1, .int p2, pm_dead, pm_dead] [] w r w1) : SK w1 ∧ gA w1 148 = gA w 148 ∧ gA w1 149 = gA w 149 := by
  obtain ⟨⟨r1, r2', r3, r4, r5, r6, r7⟩, t1, t2, t3, t4, t5, t6, t7, t8⟩ := hTE
  have A := F16 (n := (al w 2).toInt.toNat) hX hS (by rw [t1]; exact r1) (by rw [t1]; exact r2') (by rw [t2]; exact r3) (by rw [t2]; exact r4) (by rw [t3]; omega) (by omega) rfl h1
  rcases A with ⟨a1, a2, a3, a4, a5, a6⟩ | ⟨a1, N, o, a2, ⟨a3, a4, a5, a6, a7, a8⟩ | ⟨a3, a4, a5, a6, a7, κ, a8, a9⟩⟩
  · exact ⟨a3.2.2.2, FM_a a3 (by decide), FM_a a3 (by decide)⟩
  · exact ⟨a5.2.2.2, FM_a a5 (by decide), FM_a a5 (by decide)⟩
  · rcases a9 with ⟨_, h, fm, _⟩ | ⟨_, h, fm, _⟩
    · have kc : κ = 0 ∨ κ = 1 := by omega
      rcases kc with rfl | rfl
      · exact ⟨fm.2.2.2, FM_a fm (by decide), FM_a fm (by decide)⟩
      · exact ⟨fm.2.2.2, FM_a fm (by decide), FM_a fm (by decide)⟩
    · have kc : κ = 0 ∨ κ = 1 ∨ κ = 2 := by omega
      rcases kc with rfl | rfl | rfl
      · exact ⟨fm.2.2.2, FM_a fm (by decide), FM_a fm (by decide)⟩
      · exact ⟨fm.2.2.2, FM_a fm (by decide), FM_a fm (by decide)⟩
      · exact ⟨fm.2.2.2, FM_a fm (by decide), FM_a fm (by decide)⟩
theorem al_8 (h : gA w1 148 = gA w 148) : al w1 = al w := by funext q; unfold al; rw [h]
theorem R4TXT (hX : XO X) (h : RL4 w) (h1 : PS X k 16 0 [.ref 0, .int p1, .int p2, pm_dead, pm_dead] [] w r w1) (h2 : PS X k2 198 0 [.ref 147, .int p1, .int p2, pm_dead, pm_dead, pm_dead] [] w1 r2 w2) : r2 = r ∧ RL4 w2 := by
  obtain ⟨⟨hR, hV⟩, hI⟩ := h
  obtain ⟨e, R2⟩ := RTXT hX hR h1 h2
  obtain ⟨hS, hT, _⟩ := hR
  obtain ⟨_, _, _, hi⟩ := TXT hX hS hT h1 h2
  obtain ⟨S1, g8, g9⟩ := F16_r hX hS hT h1
  have ea := al_8 g8
  have eb : rb w1 = rb w := by funext q; unfold rb; rw [g8]
  have t6 := hT.2.2.2.2.2.2.1
  obtain ⟨v, fm⟩ := REFV (w := w1) S1 (by rw [ea]; exact hT.1) (by
    rw [ea, eb]
    intro i hi
    have y := (t6 i hi).2.2
    have y1 := (t6 i hi).1
    show 0 ≤ (al w (10 + i)).toInt
    rw [y]
    split <;> omega) (by rw [ea]; exact hV) h2
  exact ⟨e, ⟨R2, v⟩, VI_cg hI (by rw [FM_a fm (by decide), g9]) hi⟩
theorem R4FEED (h : RL4 w) (h1 : PS X k 13 0 [.ref 0, .int p1, .int p2, .int p3, .int p4, .int p5] [] w r w1) (h2 : PS X k2 196 0 [.ref 147, .int p1, .int p2, .int p3, .int p4, .int p5, pm_dead, pm_dead] [] w1 r2 w2) : r2 = r ∧ RL4 w2 := by
  obtain ⟨⟨hR, hV⟩, hI⟩ := h
  obtain ⟨e, R2⟩ := RFEED hR h1 h2
  obtain ⟨hS, hT, _⟩ := hR
  obtain ⟨_, _, fm, hi⟩ := FEED hS hT h1 h2
  obtain ⟨r1, r2', r3, r4, r5, r6, r7⟩ := hT.1
  have t3 := hT.2.2.2.1
  obtain ⟨a1, A⟩ := F13 (L := (al w 2).toInt.toNat) hS (by rw [t3]; omega) (by omega) h1
  have ea : al w1 = al w := al_FM a1 (by decide)
  obtain ⟨b1, B⟩ := F196 (L := (al w 2).toInt.toNat) a1.2.2.2 (by rw [ea]; omega) (by omega) h2
  rw [ea] at B
  have h9 : gA w2 149 = gA w 149 := FM_a fm (by decide)
  refine ⟨e, ⟨R2, ?_⟩, VI_cg hI h9 hi⟩
  rcases B with ⟨d1, d2, d3⟩ | ⟨d1, d2, d3, d4⟩
  · rw [d3, ea]; exact hV
  · exact VAa_cg hV hT.1 (fun q _ hq => by rw [d4 q (by omega), if_neg (by omega)])
theorem F197 (hS : SK w) (h : PS X k 197 0 [.ref 147, .int p1] [] w r w') : ∀ q, q ≠ 2 → al w' q = al w q := by
  intro q hq
  cases k with
  | zero => exact (PS_0 h).elim
  | succ k =>
    have h := U197_0 hS h
    by_cases c : p1 < 0
    · rw [if_pos c] at h
      rw [h.2]
    · rw [if_neg c] at h
      obtain ⟨_, h⟩ := h
      by_cases c2 : p1 ≤ aG w 148 2
      · rw [if_pos c2] at h
        obtain ⟨_, h⟩ := h
        obtain ⟨b1, b2⟩ := h _ rfl
        rw [b2, al_aS hS two32 (by decide), if_neg hq]
      · rw [if_neg c2] at h
        rw [h.2]
theorem F15_r (hS : SK w) (h : PS X k 15 0 [.ref 0, .int p1] [] w r w1) : SK w1 ∧ al w1 = al w := by
  cases k with
  | zero => exact (PS_0 h).elim
  | succ k =>
    have h := U15_0 hS h
    by_cases c : p1 < 0
    · rw [if_pos c] at h
      rw [h.2]; exact ⟨hS, rfl⟩
    · rw [if_neg c] at h
      by_cases c2 : p1 ≤ gI w 1 5
      · rw [if_pos c2] at h
        obtain ⟨a1, a2⟩ := h _ rfl
        have f1 : FM [(1, 5)] [4, 148] w w1 := by rw [a2]; exact FM_sI hS (by decide)
        refine ⟨f1.2.2.2, ?_⟩
        funext q; rw [a2]; unfold al; rw [gA_sI]
      · rw [if_neg c2] at h
        rw [h.2]; exact ⟨hS, rfl⟩
theorem R4ENDS (h : RL4 w) (h1 : PS X k 15 0 [.ref 0, .int p1] [] w r w1) (h2 : PS X k2 197 0 [.ref 147, .int p1] [] w1 r2 w2) : r2 = r ∧ RL4 w2 := by
  obtain ⟨⟨hR, hV⟩, hI⟩ := h
  obtain ⟨e, R2⟩ := RENDS hR h1 h2
  obtain ⟨hS, hT, _⟩ := hR
  obtain ⟨_, _, fm, hi⟩ := ENDS hS hT h1 h2
  obtain ⟨S1, ea⟩ := F15_r hS h1
  have z := F197 S1 h2
  rw [ea] at z
  exact ⟨e, ⟨R2, VAa_cg hV hT.1 (fun q _ hq => z q (by omega))⟩, VI_cg hI (FM_a fm (by decide)) hi⟩
theorem nisI {y : Int32} (h : ¬ isI p1 0 2 = true) : isI p1 0 2 = false := by
  cases hh : isI p1 0 2 with
  | false => rfl
  | true => exact absurd hh h
/-- the class's image leaves the reference alone -/
theorem F70_r (h : RL2 w) (h1 : PS X k 70 0 [.ref 0, .int p1] [] w r w1) : SK w1 ∧ al w1 = al w ∧ gA w1 149 = gA w 149 := by
  obtain ⟨hS, hT, hI⟩ := h
  have e3 : (3 : Int32).toInt = 3 := three32
  cases k with
  | zero => exact (PS_0 h1).elim
  | succ k =>
    have h1 := U70_0 hS h1
    by_cases c : p1 < 0
    · rw [if_pos c] at h1
      rw [h1.2]; exact ⟨hS, rfl, rfl⟩
    · rw [if_neg c] at h1
      rw [Int32.lt_iff_toInt_lt, z32] at c
      by_cases c3 : p1 < 3
      · rw [if_pos c3] at h1
        rw [Int32.lt_iff_toInt_lt, e3] at c3
        obtain ⟨κ, hκ⟩ : ∃ κ, κ = p1.toInt.toNat := ⟨_, rfl⟩
        have ek : p1.toInt = κ := by omega
        have k3 : κ < 3 := by omega
        obtain ⟨_, r1, wa, q1, q2⟩ := h1
        rw [q21 k3 hS ek] at q1
        obtain ⟨a1, a2, a3⟩ := F71_img k3 hS hT q1
        have Sa := a2.2.2.2
        obtain ⟨_, q2⟩ := q2 a1 Sa
        obtain ⟨q3, q4⟩ := q2 _ rfl
        have f1 : FM [] [22] wa w1 := by rw [q4]; exact FM_aB Sa (by decide)
        have nt : ∀ x, x = 148 ∨ x = 149 → x ∉ tAs (87 + 20 * κ) := by
          intro x hx
          have c : κ = 0 ∨ κ = 1 ∨ κ = 2 := by omega
          rcases c with rfl | rfl | rfl <;> rcases hx with rfl | rfl <;> decide
        exact ⟨f1.2.2.2, by rw [al_FM f1 (by decide), al_FM a2 (nt 148 (Or.inl rfl))], by rw [FM_a f1 (by decide), FM_a a2 (nt 149 (Or.inr rfl))]⟩
      · rw [if_neg c3] at h1
        rw [h1.2]; exact ⟨hS, rfl, rfl⟩
theorem F316 (hS : SK w) (h : PS X k 316 0 [.ref 147, .int p1, pm_dead] [] w r w') : w' = w ∨ ∃ κ : Nat, κ < 3 ∧ (∀ j, (gA w' 149).getD j 0 = if j = κ then 1 else (gA w 149).getD j 0) ∧ ∀ q, al w' q = if 1690 * (κ + 1) ≤ q ∧ q < 1690 * (κ + 1) + 1690 then al w (q - 1690 * (κ + 1)) else al w q := by
  cases k with
  | zero => exact (PS_0 h).elim
  | succ k =>
    have h := use_p hS (U316_0 hS h) (fun _ _ z => F199 hS z)
    by_cases hf : isI p1 0 2 = true
    · have c := (isI_3 (y := 0)).mp hf
      obtain ⟨κ, hκ⟩ : ∃ κ, κ = p1.toInt.toNat := ⟨_, rfl⟩
      have ek : p1.toInt = κ := by omega
      have k3 : κ < 3 := by omega
      rw [hf, if_neg (by decide +kernel)] at h
      obtain ⟨_, h⟩ := h
      have h := h _ rfl
      have fb : FM [] [149] w (aB w 149 p1 1) := FM_aB hS (by decide)
      obtain ⟨b1, b2, b3⟩ := L316 k3 ek _ _ 0 0 fb.2.2.2 z32 (by decide) h
      rw [al_FM fb (by decide)] at b3
      refine Or.inr ⟨κ, k3, fun j => ?_, b3⟩
      rw [FM_a b2 (by decide), aB_b hS (by decide +kernel) (by decide +kernel) (by decide +kernel) ek k3]
    · rw [nisI (y := 0) hf, if_pos (by decide +kernel)] at h
      exact Or.inl h.2
theorem R4IMG (h : RL4 w) (h1 : PS X k 70 0 [.ref 0, .int p1] [] w r w1) (h2 : PS X k2 316 0 [.ref 147, .int p1, pm_dead] [] w1 r2 w2) : r2 = r ∧ RL4 w2 := by
  obtain ⟨⟨hR, hV⟩, hI⟩ := h
  obtain ⟨e, R2⟩ := RIMG hR h1 h2
  obtain ⟨S1, ea, e9⟩ := F70_r hR h1
  obtain ⟨hS, hT, hIM⟩ := hR
  refine ⟨e, ⟨R2, ?_⟩, ?_⟩
  · rcases F316 S1 h2 with z | ⟨κ, k3, z1, z2⟩
    · rw [z, ea]; exact hV
    · exact VAa_cg hV hT.1 (fun q hq _ => by rw [z2, if_neg (by omega), ea])
  · rcases F316 S1 h2 with z | ⟨κ, k3, z1, z2⟩
    · rw [z]; exact VI_cg hI e9 (fun q _ => by rw [ea])
    · intro k hk z
      rw [ea] at z2
      by_cases y : k = κ
      · rw [show (fun q => al w2 (1690 * (k + 1) + q)) = (fun q => al w2 (1690 * (κ + 1) + q)) by rw [y]]
        exact VAa_cg hV hT.1 (fun q hq _ => by
          show al w2 (1690 * (κ + 1) + q) = _
          rw [z2, if_pos (by omega), show 1690 * (κ + 1) + q - 1690 * (κ + 1) = q by omega])
      · rw [z1, if_neg y, e9] at z
        exact VAa_cg (hI k hk z) ((hIM k hk).2 z).1 (fun q hq _ => by
          show al w2 (1690 * (k + 1) + q) = al w (1690 * (k + 1) + q)
          rw [z2, if_neg (by omega)])
theorem F72_r (h : RL2 w) (h1 : PS X k 72 0 [.ref 0, .int p1] [] w r w1) : SK w1 ∧ al w1 = al w ∧ gA w1 149 = gA w 149 := by
  obtain ⟨hS, hT, hI⟩ := h
  have e3 : (3 : Int32).toInt = 3 := three32
  cases k with
  | zero => exact (PS_0 h1).elim
  | succ k =>
    have h1 := U72_0 hS h1
    by_cases c : p1 < 0
    · rw [if_pos c] at h1
      rw [h1.2]; exact ⟨hS, rfl, rfl⟩
    · rw [if_neg c] at h1
      rw [Int32.lt_iff_toInt_lt, z32] at c
      by_cases c3 : 3 ≤ p1
      · rw [if_pos c3] at h1
        rw [h1.2]; exact ⟨hS, rfl, rfl⟩
      · rw [if_neg c3] at h1
        rw [Int32.le_iff_toInt_le, e3] at c3
        obtain ⟨κ, hκ⟩ : ∃ κ, κ = p1.toInt.toNat := ⟨_, rfl⟩
        have ek : p1.toInt = κ := by omega
        have k3 : κ < 3 := by omega
        obtain ⟨i1, i2⟩ := hI κ k3
        obtain ⟨_, h1⟩ := h1
        rw [aG_n (m := κ) ek, i1] at h1
        by_cases cz : (gA w 149).getD κ 0 = 0
        · rw [if_pos cz] at h1
          rw [h1.2]; exact ⟨hS, rfl, rfl⟩
        · rw [if_neg cz] at h1
          obtain ⟨_, r1, wa, q1, q2⟩ := h1
          rw [q21 k3 hS ek] at q1
          obtain ⟨a1, a2, a3⟩ := F71_agn k3 hS (i2 cz) q1
          have Sa := a2.2.2.2
          obtain ⟨q3, q4⟩ := q2 a1 Sa
          rw [q4]
          exact ⟨Sa, al_FM a2 (by decide), FM_a a2 (by decide)⟩
theorem F317 (hS : SK w) (h : PS X k 317 0 [.ref 147, .int p1, pm_dead] [] w r w') : gA w' 149 = gA w 149 ∧ (w' = w ∨ ∃ κ : Nat, κ < 3 ∧ (gA w 149).getD κ 0 ≠ 0 ∧ ∀ q, al w' q = if q < 1690 then al w (1690 * (κ + 1) + q) else al w q) := by
  cases k with
  | zero => exact (PS_0 h).elim
  | succ k =>
    have h := use_p hS (U317_0 hS h) (fun _ _ z => F199 hS z)
    by_cases hf : isI p1 0 2 = true
    · have c := (isI_3 (y := 0)).mp hf
      obtain ⟨κ, hκ⟩ : ∃ κ, κ = p1.toInt.toNat := ⟨_, rfl⟩
      have ek : p1.toInt = κ := by omega
      have k3 : κ < 3 := by omega
      rw [hf, if_neg (by decide +kernel)] at h
      obtain ⟨_, h⟩ := h
      rw [aG_n (m := κ) ek] at h
      by_cases cz : (gA w 149).getD κ 0 = 0
      · rw [if_pos cz] at h
        rw [h.2]; exact ⟨rfl, Or.inl rfl⟩
      · rw [if_neg cz] at h
        obtain ⟨b1, b2, b3⟩ := L317 k3 ek _ _ 0 0 hS z32 (by decide) h
        refine ⟨FM_a b2 (by decide), Or.inr ⟨κ, k3, cz, fun q => ?_⟩⟩
        rw [b3]
        by_cases y : q < 1690
        · rw [if_pos ⟨by omega, y⟩, if_pos y]
        · rw [if_neg (fun z => y z.2), if_neg y]
    · rw [nisI (y := 0) hf, if_pos (by decide +kernel)] at h
      rw [h.2]; exact ⟨rfl, Or.inl rfl⟩
theorem R4AGN (h : RL4 w) (h1 : PS X k 72 0 [.ref 0, .int p1] [] w r w1) (h2 : PS X k2 317 0 [.ref 147, .int p1, pm_dead] [] w1 r2 w2) : r2 = r ∧ RL4 w2 := by
  obtain ⟨⟨hR, hV⟩, hI⟩ := h
  obtain ⟨e, R2⟩ := RAGN hR h1 h2
  obtain ⟨S1, ea, e9⟩ := F72_r hR h1
  obtain ⟨hS, hT, hIM⟩ := hR
  obtain ⟨g9, z⟩ := F317 S1 h2
  refine ⟨e, ⟨R2, ?_⟩, ?_⟩
  · rcases z with z | ⟨κ, k3, cz, z2⟩
    · rw [z, ea]; exact hV
    · rw [e9] at cz
      exact VAa_cg (hI κ k3 cz) ((hIM κ k3).2 cz).1 (fun q hq _ => by
        show al w2 q = al w (1690 * (κ + 1) + q)
        rw [z2, if_pos hq, ea])
  · refine VI_cg hI (g9.trans e9) (fun q hq => ?_)
    rcases z with z | ⟨κ, k3, cz, z2⟩
    · rw [z, ea]
    · rw [z2, if_neg (by omega), ea]
end HPV
