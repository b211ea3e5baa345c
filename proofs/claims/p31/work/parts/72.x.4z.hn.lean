/-! ===== stop ===== -/
section HNS
variable {X : pm_X} {k k2 : Nat} {w0 w w1 w2 w3 w4 w' : pm_W} {r r2 q1 q2 : Option Value} {p p1 p2 p3 p4 p5 i1 i2 i3 sl : Int32} {n i v j m u u2 P t s b Q x rr len o3 : Nat} {a V G G1 G2 : Nat → Int32} {Es : Nat → Nat → Int32} {s0 s1 s2 t1 t2 : SN}
theorem F73_41 (hb : b + 1 < 33) (okr : okR b = true) (okv : okV v = true) (hva : v + 4 < 33) (hP9 : P ≤ 9) (hV : VW (vcl w0 v)) (hl : (gI w0 b 0).toInt = n) (hn : n ≤ 30) (hA : ∀ j, j < n → VAc (eR w0 b j)) (hW : WS P s0.2.2.2 (s0.1, s0.2.1)) (hN0 : s0.2.2.2 = 0) : ∀ (k t : Nat) (w : pm_W) (i6 : Int32) (s : SN), FM [(33, 1), (33, 2)] [39, 40, 41] w0 w → SK w0 → i6.toInt = t → t ≤ n → RN P (vcl w0 v) (eR w0 b) t s0 s → CSt w 33 v P s.1 s.2.1 s.2.2.1 s.2.2.2 → PS X k 73 41 [.ref 0, .int i1, .int i2, .ref o3, .ref b, .int i6] [] w r w' → FM [(33, 1), (33, 2)] [39, 40, 41] w0 w' ∧ ∃ (j : Nat) (z : Int32) (s' : SN), z.toInt = j ∧ r = some (.int z) ∧ j ≤ n ∧ RN P (vcl w0 v) (eR w0 b) j s0 s' ∧ (j = n ∨ (j < n ∧ ACT P (vcl w0 v) (eR w0 b j) s'.1 s'.2.1 s'.2.2.1 s'.2.2.2 none)) := by
  intro k
  induction k with
  | zero => intro t w i6 s _ _ _ _ _ _ h; exact (PS_0 h).elim
  | succ k ih =>
    intro t w i6 s fm hS0 h6 ht hRN hC h
    have hS : SK w := fm.2.2.2
    have h := U73_41 hS h
    have el : gI w b 0 = gI w0 b 0 := FM_i fm (by simp <;> omega)
    rw [el] at h
    by_cases c : gI w0 b 0 ≤ i6
    · rw [if_pos c] at h
      rw [Int32.le_iff_toInt_le, hl, h6] at c
      have e : t = n := by omega
      subst e
      rw [h.2]
      exact ⟨fm, t, _, s, hl, h.1, Nat.le_refl _, hRN, Or.inl rfl⟩
    · rw [if_neg c] at h
      rw [Int32.le_iff_toInt_le, hl, h6] at c
      obtain ⟨q1, w2, z, h⟩ := h
      have ev : vcl w v = vcl w0 v := by
        funext q
        exact vcl_FMv hS0 fm okv (by simp <;> omega) (by simp <;> omega) (by simp <;> omega) (by simp <;> omega) (by simp <;> omega) (by simp <;> omega) (by simp <;> omega) q
      have ee : eR w b t = eR w0 b t := by
        funext q
        unfold eR
        rw [FM_a fm (by simp <;> omega)]
      obtain ⟨a1, a2⟩ := RN_W hP9 hV hW t s (fun j hj => hA j (by omega)) hRN
      obtain ⟨f2, o, act, alt⟩ := F75 hS (by decide +kernel) okr hb okv hva hC hP9 (by omega) a1 h6 (by omega) (by rw [ee]; exact hA t (by omega)) z
      rw [ev, ee] at act
      have fm2 : FM [(33, 1), (33, 2)] [39, 40, 41] w0 w2 := FM_trans fm (FM_mono f2 (by decide) (by decide))
      rcases alt with ⟨o0, q0⟩ | ⟨D', G', M', N', o1, q1', hC'⟩
      · have h := h _ q0 f2.2.2.2
        rw [if_pos rfl] at h
        rw [h.2]
        exact ⟨fm2, t, i6, s, h6, h.1, ht, hRN, Or.inr ⟨by omega, by rw [← o0]; exact act⟩⟩
      · have h := h _ q1' f2.2.2.2
        rw [if_neg (by decide +kernel)] at h
        exact ih (t + 1) w2 (i6 + 1) (D', G', M', N') fm2 hS0 (by rw [zi_inc (n := 40) (by omega) (by omega), h6]; rfl) (by omega) ⟨s, hRN, by rw [← o1]; exact act⟩ hC' h
/-- a row stops at the same act from like states -/
theorem RN_uq (hP : P ≤ 9) (hV : VW V) (hL : LSt P s1 s2) (hA : ∀ j, j < n → VAc (Es j)) (h1 : RN P V Es j s1 t1) (hj : j ≤ n) (x1 : j = n ∨ (j < n ∧ ACT P V (Es j) t1.1 t1.2.1 t1.2.2.1 t1.2.2.2 none)) (h2 : RN P V Es i s2 t2) (hi : i ≤ n) (x2 : i = n ∨ (i < n ∧ ACT P V (Es i) t2.1 t2.2.1 t2.2.2.1 t2.2.2.2 none)) : i = j := by
  have st : ∀ {j i : Nat} {s1 s2 t1 t2 : SN}, LSt P s1 s2 → RN P V Es j s1 t1 → ACT P V (Es j) t1.1 t1.2.1 t1.2.2.1 t1.2.2.2 none → RN P V Es i s2 t2 → j < i → i ≤ n → False := by
    intro j i s1 s2 t1 t2 hL h1 hn h2 hj hi
    obtain ⟨t3, s3, y1, y2⟩ := RN_pre (j := j + 1) i t2 h2 hj
    have l := RN_2 hP hV hL j t1 s3 (fun q hq => hA q (by omega)) h1 y1
    rcases ACT_LS hP hV (hA j (by omega)) l hn y2 with ⟨_, z⟩ | ⟨t3, t4, e1, e2, l⟩
    · exact absurd z AO_sn
    · exact absurd e1.symm AO_sn
  by_cases c : j < i
  · rcases x1 with x | ⟨_, x⟩
    · omega
    · exact (st hL h1 x h2 c hi).elim
  · by_cases c2 : i < j
    · rcases x2 with x | ⟨_, x⟩
      · omega
      · exact (st (LS_sym hL) h2 x h1 c2 hj).elim
    · omega
end HNS
