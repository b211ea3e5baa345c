section PM
variable {G : pm_G} {tyl : List FieldType} {cl : List vw_C} {D : va_G} {cA : Nat → ClassId} {b : pm_B} {Tb nws : List Cond} {aos : List String} {y : Nat → MethodName} {cd : Nat → ByteArray} {X : pm_X} {sts : List (String × String × String × Value)} {srs : List (String × Nat × String × Nat)} {l : Launch}
variable {p : Program} {e : Env} {R : Room} {s : State} {m : MethodId} {args : Array Value} {below : List Frame} {meth : Method} {c : Code} {H : Heap} {locs : List Loc} {cells slots : Nat}
set_option maxHeartbeats 4000000 in
/-- a method's end -/
theorem pm_end_ok (hok : pm_ok Tb nws aos tyl cl y cd G sts srs) {mi pc : Nat} {i : Instr} {st : List Value} {w : pm_W} {r : Option Value} {lsR : Array Slot} (hd : pm_dec G mi pc = some i) (h : pm_end G mi i st = some r) (F : pm_Fx D cl cA tyl Tb nws aos y cd G X sts srs b mi p s m args meth c) (hP : va_P D cl (pm_ws cA b w) H) (hS : va_S (fun q => b.1 ≤ q) s.heap H locs) :
    W p l e R s m args below meth c H locs cells slots (MQ below (pm_Qc D cl cA b r w) args s cells slots (fun q => b.1 ≤ q)) (F0 m pc lsR (st.map (pm_v b))) := by
  obtain ⟨hx, hb, hr, hml, hown, hts, hlocks, hnm, hK, hbs, hOut⟩ := F
  obtain ⟨len, hdg, hlen⟩ := hok.1.1 mi pc i hd
  have hq : ∀ t : State, t.heap = H → s.WarmedH t.vm → pm_Qc D cl cA b r w args s (.returned (r.map (pm_v b))) t := fun t ht _ => ⟨rfl, by rw [ht]; exact hP, hS.F ht⟩
  unfold pm_end at h
  split at h
  · have hlen : len = 1 := hlen.resolve_left (by simp [pm_sz])
    subst hlen
    split at h
    · rename_i x ty hrt
      split at h
      · rename_i hna
        cases h
        exact W.zret hx hb (hr.trans hrt) hna hq hS.2.2 hdg
      · cases h
    · cases h
  · have hlen : len = 1 := hlen.resolve_left (by simp [pm_sz])
    subst hlen
    split at h
    · rename_i x hrt
      cases h
      exact W.lret hx hb (hr.trans hrt) hq hS.2.2 hdg
    · cases h
  · have hlen : len = 1 := hlen.resolve_left (by simp [pm_sz])
    subst hlen
    split at h
    · rename_i a C hrt
      cases h
      exact W.aret hx hb (hr.trans hrt) (Or.inl ⟨C, rfl⟩) (Or.inr ⟨b.1 + a, rfl⟩) hq hS.2.2 hdg
    · rename_i C hrt
      cases h
      exact W.aret hx hb (hr.trans hrt) (Or.inl ⟨C, rfl⟩) (Or.inl rfl) hq hS.2.2 hdg
    · rename_i a C hrt
      cases h
      cases hz : b.2 a with
      | none => exact W.aret hx hb (hr.trans hrt) (Or.inl ⟨C, rfl⟩) (Or.inl (by show va_rf (b.2 a) = _; rw [hz]; rfl)) hq hS.2.2 hdg
      | some q0 => exact W.aret hx hb (hr.trans hrt) (Or.inl ⟨C, rfl⟩) (Or.inr ⟨q0, pm_v_some hz⟩) hq hS.2.2 hdg
    · cases h
  · have hlen : len = 1 := hlen.resolve_left (by simp [pm_sz])
    subst hlen
    split at h
    · rename_i hrt
      cases h
      exact W.vret hx hb (hr.trans hrt) hq hS.2.2 hdg
    · cases h
  · cases h
/-- Object's constructor -/
theorem pm_obi_ok (hok : pm_ok Tb nws aos tyl cl y cd G sts srs) {Q : State → Prop} {mi pc : Nat} {i : Instr} {st st' : List Value} {lsR : Array Slot} (hd : pm_dec G mi pc = some i) (h : pm_obi G mi i st = some st') (F : pm_Fx D cl cA tyl Tb nws aos y cd G X sts srs b mi p s m args meth c) (hls : lsR.size = pm_max G mi) {d : Nat} (hRf : d + 1 ≤ R.frames) (hRl : 64 * (d + 1) ≤ R.locals)
    (kk : W p l e R s m args below meth c H locs cells slots Q (F0 m (pc + 3) lsR (st'.map (pm_v b)))) : W p l e R s m args below meth c H locs cells slots Q (F0 m pc lsR (st.map (pm_v b))) := by
  obtain ⟨hx, hb, hr, hml, hown, hts, hlocks, hnm, hK, hbs, hOut⟩ := F
  obtain ⟨len, hdg, hlen⟩ := hok.1.1 mi pc i hd
  unfold pm_obi at h
  split at h
  · rename_i k
    have hlen : len = 3 := hlen.resolve_left (by simp [pm_sz])
    subst hlen
    split at h
    · rename_i n hc
      obtain ⟨o1, o2, o3⟩ := hok.2.2.2.2.2.2.1 mi pc k n hd hc
      split at h
      · rename_i a st0
        split at h
        · rename_i h8
          cases h
          refine W.objInit hx hb hown (hts _ o1) (hts _ o2) (hts _ o3) rfl (hls.trans hml.symm) rfl hdg (by omega) ?_ kk
          show 2 * 0 + ((st'.map (pm_v b)).map fun v => v.category).sum + 12 ≤ R.locals
          rw [pm_sum_v]
          omega
        · cases h
      · cases h
    · cases h
  · cases h
theorem pm_rep (n : Nat) : (fun j => (List.replicate n (0 : Int32)).getD j 0) = fun _ => 0 := by
  funext j
  rw [List.getD_eq_getElem?_getD, List.getElem?_replicate]
  split <;> rfl
theorem pm_repq (b : pm_B) (n : Nat) : (fun j => ((List.replicate n (none : Option Nat)).getD j none).map (fun k => b.1 + k)) = fun _ => none := by
  funext j
  rw [List.getD_eq_getElem?_getD, List.getElem?_replicate]
  split <;> rfl
set_option maxHeartbeats 4000000 in
/-- a cell is made -/
theorem pm_mk_ok (hok : pm_ok Tb nws aos tyl cl y cd G sts srs) {Q : State → Prop} {mi pc : Nat} {i : Instr} {st st' : List Value} {w : pm_W} {E : pm_E} {k n : Nat} {lsR : Array Slot} (hd : pm_dec G mi pc = some i) (h : pm_mk G mi i st = some (k, st', E, n)) (F : pm_Fx D cl cA tyl Tb nws aos y cd G X sts srs b mi p s m args meth c) (hP : va_P D cl (pm_ws cA b w) H) (hS : va_S (fun q => b.1 ≤ q) s.heap H locs) (hc : s.heap.size + cells = b.1 + w.length) (hRc : cells + 1 ≤ R.cells) (hRs : slots + n ≤ R.slots)
    (kk : ∀ H1 : Heap, va_P D cl (pm_ws cA b (w ++ [E])) H1 → va_S (fun q => b.1 ≤ q) s.heap H1 locs → W p l e R s m args below meth c H1 locs (cells + 1) (slots + n) Q (F0 m (pc + k) lsR ((.ref w.length :: st').map (pm_v b)))) : W p l e R s m args below meth c H locs cells slots Q (F0 m pc lsR (st.map (pm_v b))) := by
  obtain ⟨hx, hb, hr, hml, hown, hts, hlocks, hnm, ⟨hK, hN, hA⟩, hbs, hOut⟩ := F
  obtain ⟨⟨okD, okC, -, -, -, hT0, hT1, hT2⟩, hg, hn, -, -, -, -, okN, ⟨okA, okQ⟩, -⟩ := hok
  obtain ⟨len, hdg, hlen⟩ := okD mi pc i hd
  have hAA : ∀ q, s.heap.size ≤ q → b.1 ≤ q := fun q hq => Nat.le_trans hbs hq
  have fin : ∀ (q : Nat) (H1 : Heap), va_P D cl (pm_ws cA b w ++ [(q, pm_e cA b E)]) H1 → va_D (fun x => b.1 ≤ x) (pm_ws cA b w ++ [(q, pm_e cA b E)]) → va_S (fun x => b.1 ≤ x) s.heap H1 locs → W p l e R s m args below meth c H1 locs (cells + 1) (slots + n) Q (F0 m (pc + k) lsR (.ref q :: st'.map (pm_v b))) := by
    intro q H1 hP1 hD1 hS1
    refine pm_hs fun hz => ?_
    have hq := pm_newq hP1 hD1 (by omega)
    subst hq
    exact kk H1 (by rw [pm_ws_push]; exact hP1) hS1
  have hK0 : (pm_tys cA tyl)[0]? = some (cA 0, .int) := pm_tys_at hT0
  have hK1 : (pm_tys cA tyl)[1]? = some (cA 1, .byte) := pm_tys_at hT1
  have hK2 : (pm_tys cA tyl)[2]? = some (cA 2, .boolean) := pm_tys_at hT2
  unfold pm_mk at h
  split at h
  · rename_i k0
    have hlen : len = 3 := hlen.resolve_left (by simp [pm_sz])
    subst hlen
    split at h
    · rename_i ci fs hnw
      cases h
      obtain ⟨⟨C, T, N⟩, hq, h1, h2, h3, h4, h5⟩ := okN mi k0 ci fs hnw
      obtain ⟨hin, ⟨ty, hty⟩, -⟩ := okC ci _ hq
      have h4 : fs.length = N := h4
      subst h4
      refine va_new (fs := fs.map (pm_v b)) hx hb hts hin ty hty hown (hts _ h1) (hts _ h2) (hts _ h3) hK hP pm_D hS hAA hq ?_ hRc hRs hdg (fun q H1 hP1 hD1 hS1 => fin q H1 hP1 hD1 hS1)
      intro j hj
      have h6 := h5 j hj
      rw [hty j hj] at h6
      have h6 : defaultValue (ty j) = vp_V fs j := Option.some.inj h6
      have hj' : j < fs.length := hj
      rw [h6]
      have e1 : vp_V (fs.map (pm_v b)) j = pm_v b (vp_V fs j) := by
        unfold vp_V
        rw [List.getD_eq_getElem?_getD, List.getD_eq_getElem?_getD, List.getElem?_map, List.getElem?_eq_getElem hj']
        rfl
      rw [e1, ← h6, pm_v_def]
    · cases h
  · rename_i aty
    have hlen : len = 2 := hlen.resolve_left (by simp [pm_sz])
    subst hlen
    split at h
    · rename_i x st0
      split at h
      · rename_i h0
        have harr := hts _ (okA mi pc aty hd)
        split at h
        · rename_i hty
          cases h
          refine va_newa (ty := .int) (a0 := pm_a b (.inl (List.replicate x.toNatClampNeg 0))) hx hb harr hty hK hP pm_D hS hAA (N' := x.toNatClampNeg) ?_ h0.1 rfl ?_ hRc hRs hdg (fun q cA' H1 hK1' hP1 hD1 hS1 => ?_)
          · intro cA'
            show arrV cA' (List.replicate x.toNatClampNeg (0 : Int32)).length (fun j => .int ((fun j => (List.replicate x.toNatClampNeg (0 : Int32)).getD j 0) j)) = _
            rw [pm_rep, List.length_replicate]
            rfl
          · have := h0.2
            show x.toNatClampNeg * 4 ≤ _
            omega
          · have e1 : cA' = cA 0 := by
              have q1 := (hK1'.2 (pm_tys cA tyl).length (cA', .int) (by rw [List.getElem?_append_right (Nat.le_refl _), Nat.sub_self]; rfl)).2
              have q2 := (hK.2 0 _ hK0).2
              exact Option.some.inj (Eq.trans (Eq.symm q1) q2)
            subst e1
            exact fin q H1 hP1 hD1 hS1
        · rename_i hty
          cases h
          refine va_newa (ty := .byte) (a0 := pm_a b (.inl (List.replicate x.toNatClampNeg 0))) hx hb harr hty hK hP pm_D hS hAA (N' := x.toNatClampNeg) ?_ h0.1 rfl ?_ hRc hRs hdg (fun q cA' H1 hK1' hP1 hD1 hS1 => ?_)
          · intro cA'
            show arrV cA' (List.replicate x.toNatClampNeg (0 : Int32)).length (fun j => .int ((fun j => (List.replicate x.toNatClampNeg (0 : Int32)).getD j 0) j)) = _
            rw [pm_rep, List.length_replicate]
            rfl
          · have := h0.2
            show x.toNatClampNeg * 1 ≤ _
            omega
          · have e1 : cA' = cA 1 := by
              have q1 := (hK1'.2 (pm_tys cA tyl).length (cA', .byte) (by rw [List.getElem?_append_right (Nat.le_refl _), Nat.sub_self]; rfl)).2
              have q2 := (hK.2 1 _ hK1).2
              exact Option.some.inj (Eq.trans (Eq.symm q1) q2)
            subst e1
            exact fin q H1 hP1 hD1 hS1
        · rename_i hty
          cases h
          refine va_newa (ty := .boolean) (a0 := pm_a b (.inl (List.replicate x.toNatClampNeg 0))) hx hb harr hty hK hP pm_D hS hAA (N' := x.toNatClampNeg) ?_ h0.1 rfl ?_ hRc hRs hdg (fun q cA' H1 hK1' hP1 hD1 hS1 => ?_)
          · intro cA'
            show arrV cA' (List.replicate x.toNatClampNeg (0 : Int32)).length (fun j => .int ((fun j => (List.replicate x.toNatClampNeg (0 : Int32)).getD j 0) j)) = _
            rw [pm_rep, List.length_replicate]
            rfl
          · have := h0.2
            show x.toNatClampNeg * 1 ≤ _
            omega
          · have e1 : cA' = cA 2 := by
              have q1 := (hK1'.2 (pm_tys cA tyl).length (cA', .boolean) (by rw [List.getElem?_append_right (Nat.le_refl _), Nat.sub_self]; rfl)).2
              have q2 := (hK.2 2 _ hK2).2
              exact Option.some.inj (Eq.trans (Eq.symm q1) q2)
            subst e1
            exact fin q H1 hP1 hD1 hS1
        · cases h
      · cases h
    · cases h
  · rename_i k0
    have hlen : len = 3 := hlen.resolve_left (by simp [pm_sz])
    subst hlen
    split at h
    · rename_i x st0
      split at h
      · rename_i h0
        split at h
        · rename_i t hnw
          cases h
          obtain ⟨C, hC, h1, h2⟩ := okQ mi k0 t hnw
          refine va_newq hx hb hown (hts _ h1) (hA C h2) hK hP pm_D hS hAA (N' := x.toNatClampNeg) h0.1 rfl (by have := h0.2; omega) hRc hRs hdg (fun q cA' H1 hK1' hP1 hD1 hS1 => ?_)
          have e1 : cA' = cA t := by
            obtain ⟨-, -, -, -, -, q1⟩ := (hK1'.2 (pm_tys cA tyl).length (cA', .object C) (by rw [List.getElem?_append_right (Nat.le_refl _), Nat.sub_self]; rfl)).2
            obtain ⟨-, -, -, -, -, q2⟩ := (hK.2 t _ (pm_tys_at hC)).2
            exact Option.some.inj (Eq.trans (Eq.symm q1) q2)
          subst e1
          have e2 : pm_e cA b (.inl (t, .inr (.inr (List.replicate x.toNatClampNeg none)))) = .inl (cA t, x.toNatClampNeg, .inr (.inr (.inr (.inr (fun _ => none))))) := by
            show (Sum.inl (cA t, (List.replicate x.toNatClampNeg (none : Option Nat)).length, .inr (.inr (.inr (.inr (fun j => ((List.replicate x.toNatClampNeg (none : Option Nat)).getD j none).map (fun k => b.1 + k)))))) : va_E) = _
            rw [pm_repq, List.length_replicate]
          exact fin q H1 (by rw [e2]; exact hP1) (by rw [e2]; exact hD1) hS1
        · cases h
      · cases h
    · cases h
  · cases h
set_option maxHeartbeats 4000000 in
/-- THE PURE MACHINE IS RIGHT -/
theorem pm_sound (hok : pm_ok Tb nws aos tyl cl y cd G sts srs) : ∀ f : Nat, pm_Sound G X sts srs tyl cl D cA b Tb nws aos y cd l f := by
  intro f
  induction f with
  | zero => intro d mi pc ls st w r w' mc ms h; cases h
  | succ f ih =>
    intro d mi pc ls st w r w' mc ms h p e R s m args below meth c H locs cells slots C S lsR F hl hll hP hS hc hRf hRl hCe hSe hRc hRs
    simp only [pm] at h
    split at h
    · cases h
    · rename_i i hd
      split at h
      · rename_i pc' ls' st' w1 h1
        refine pm_one_ok hok.1.1 hok.1.2.1 hok.1.2.2.1 hok.1.2.2.2.1 hok.1.2.2.2.2.1 hok.2.2.2.2.2.2.2.2.2.1.1 hok.2.2.2.2.2.2.2.2.2.1.2.1 hok.2.2.2.2.2.2.2.2.2.1.2.2.1 hok.2.2.2.2.2.2.2.2.2.1.2.2.2 (by omega) (by omega) (by omega) (by omega) hok.1.2.2.2.2.2.1 hok.1.2.2.2.2.2.2.1 hok.1.2.2.2.2.2.2.2 F hd h1 hl hll hP hS ?_
        intro lsR' H' locs' hl' hll' hP' hS'
        exact ih _ _ _ _ _ _ _ _ _ _ h p e R s m args below meth c H' locs' cells slots C S lsR' F hl' hll' hP' hS' (by rw [hc]; exact congrArg (b.1 + ·) (pm_one_len h1).symm) hRf hRl hCe hSe hRc hRs
      · split at h
        · rename_i mj d' vs st' h1
          split at h
          · rename_i r1 w1 c1 n1 h2
            obtain ⟨c2, n2, h3, rfl, rfl⟩ := pm_add_of h
            refine pm_hs fun hz => ?_
            have hsz := pm_size hP hS F.2.2.2.2.2.2.2.2.2.1 hc hz
            refine pm_call (pm_run hok ih hd h1 h2 F hl.1 hP hS hsz hRf hRl (by omega)) hS fun H1 locs1 hP1 hS1 => ?_
            have hw := pm_wlen _ _ _ _ _ _ _ _ _ _ _ h2
            rw [← pm_push_v]
            exact ih _ _ _ _ _ _ _ _ _ _ h3 p e R s m args below meth c H1 locs1 _ _ C S lsR F hl hll hP1 hS1 (by omega) hRf hRl (by omega) (by omega) hRc hRs
          · cases h
        · split at h
          · rename_i h1
            cases h
            have e1 : cells = C := hCe
            have e2 : slots = S := hSe
            subst e1; subst e2
            exact pm_end_ok hok hd h1 F hP hS
          · split at h
            · rename_i h1
              exact pm_obi_ok hok hd h1 F hl.1 hRf hRl (ih _ _ _ _ _ _ _ _ _ _ h p e R s m args below meth c H locs cells slots C S lsR F hl hll hP hS hc hRf hRl hCe hSe hRc hRs)
            · split at h
              · rename_i k st' E n h1
                obtain ⟨c2, n2, h3, rfl, rfl⟩ := pm_add_of h
                refine pm_mk_ok hok hd h1 F hP hS hc (by omega) (by omega) fun H1 hP1 hS1 => ?_
                exact ih _ _ _ _ _ _ _ _ _ _ h3 p e R s m args below meth c H1 locs _ _ C S lsR F hl hll hP1 hS1 (by rw [List.length_append]; show s.heap.size + (cells + 1) = b.1 + (w.length + 1); omega) hRf hRl (by omega) (by omega) hRc hRs
              · cases h
end PM
