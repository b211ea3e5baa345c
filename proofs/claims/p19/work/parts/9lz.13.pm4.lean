section PM
variable {G : pm_G} {tyl : List FieldType} {cl : List vw_C} {D : va_G} {cA : Nat → ClassId} {b : pm_B} {Tb nws : List Cond} {aos : List String} {y : Nat → MethodName} {cd : Nat → ByteArray} {X : pm_X} {sts : List (String × String × String × Value)} {srs : List (String × Nat × String × Nat)}
variable {p : Program} {l : Launch} {e : Env} {R : Room} {s : State} {m : MethodId} {args : Array Value} {below : List Frame} {meth : Method} {c : Code} {H : Heap} {locs : List Loc} {cells slots : Nat} {Q : State → Prop}
variable {mi : Nat} {lsR : Array Slot} {pc : Nat} {ls st : List Value} {w : pm_W} {r : pm_C}
set_option maxHeartbeats 4000000 in
set_option maxRecDepth 100000 in
/-- one instruction that neither calls, nor makes, nor ends: as the pure machine has it -/
theorem pm_one_ok (hD : pm_okD cd G) (hC : pm_okC Tb cl) (hGt : pm_okG Tb nws cl y G) (hPt : pm_okP Tb nws cl y G) (hKs : pm_okK Tb y G) (okT : pm_okT Tb nws sts y G) (okR : pm_okR srs y G) (okU : pm_okU Tb y G) (okY : pm_okY Tb y G) (hRf : 1 ≤ R.frames) (hRl : 26 ≤ R.locals) (hRc : cells ≤ R.cells) (hRs : slots ≤ R.slots) (hT0 : tyl[0]? = some .int) (hT1 : tyl[1]? = some .byte) (hT2 : tyl[2]? = some .boolean)
    (F : pm_Fx D cl cA tyl Tb nws aos y cd G X sts srs b mi p s m args meth c) {i : Instr} (hd : pm_dec G mi pc = some i) (h : pm_one G X tyl cl mi i pc ls st w = some r) (hl : lv_has lsR (pm_max G mi) (pm_lv b ls)) (hll : ls.length = pm_max G mi)
    (hP : va_P D cl (pm_ws cA b w) H) (hS : va_S (fun q => b.1 ≤ q) s.heap H locs) (kk : pm_Go D cl cA b (pm_max G mi) p l e R s m args below meth c cells slots Q r) : W p l e R s m args below meth c H locs cells slots Q (F0 m pc lsR (st.map (pm_v b))) := by
  obtain ⟨hx, hb, hr, hml, hown, hts, hlocks, hnm, ⟨hK, hN, hA⟩, hbs, hOut⟩ := F
  obtain ⟨n, hdg, hn⟩ := hD mi pc i hd
  have hK0 : (pm_tys cA tyl)[0]? = some (cA 0, .int) := pm_tys_at hT0
  have hK1 : (pm_tys cA tyl)[1]? = some (cA 1, .byte) := pm_tys_at hT1
  have hK2 : (pm_tys cA tyl)[2]? = some (cA 2, .boolean) := pm_tys_at hT2
  have hDD : va_D (fun q => b.1 ≤ q) (pm_ws cA b w) := pm_D
  cases i with
  | iconst v =>
    have hn : n = 1 := hn.resolve_left (by simp [pm_sz])
    subst hn
    obtain rfl : _ = r := Option.some.inj h
    exact lv_iconst hx hb hdg rfl (kk _ _ _ hl hll hP hS)
  | bipush v =>
    have hn : n = 2 := hn.resolve_left (by simp [pm_sz])
    subst hn
    obtain rfl : _ = r := Option.some.inj h
    exact lv_bipush hx hb hdg rfl (kk _ _ _ hl hll hP hS)
  | sipush v =>
    have hn : n = 3 := hn.resolve_left (by simp [pm_sz])
    subst hn
    obtain rfl : _ = r := Option.some.inj h
    exact lv_sipush hx hb hdg rfl (kk _ _ _ hl hll hP hS)
  | lconst v =>
    have hn : n = 1 := hn.resolve_left (by simp [pm_sz])
    subst hn
    obtain rfl : _ = r := Option.some.inj h
    exact lv_lconst hx hb hdg rfl (kk _ _ _ hl hll hP hS)
  | aconst_null =>
    have hn : n = 1 := hn.resolve_left (by simp [pm_sz])
    subst hn
    obtain rfl : _ = r := Option.some.inj h
    exact lv_null hx hb hdg (kk _ _ _ hl hll hP hS)
  | ldc k =>
    have hn : n = 2 := hn.resolve_left (by simp [pm_sz])
    subst hn
    simp only [pm_one] at h
    split at h
    · rename_i v hv
      cases h
      exact lv_ldc hx hb hown (hts _ (hKs.1 mi k v hv)) hdg (kk _ _ _ hl hll hP hS)
    · split at h
      · rename_i j hj
        cases h
        obtain ⟨tx, hm⟩ := okR mi k j hj
        refine va_ldcS hx hb hown (hOut.2.2.2.2 _ _ _ _ hm).2 hdg (W.eq ?_ (kk _ _ _ hl hll hP hS))
        simp [pm_v_some (hOut.2.2.2.2 _ _ _ _ hm).1]
      · cases h
  | ldc_w k =>
    have hn : n = 3 := hn.resolve_left (by simp [pm_sz])
    subst hn
    simp only [pm_one] at h
    split at h
    · rename_i v hv
      cases h
      exact lv_ldcw hx hb hown (hts _ (hKs.1 mi k v hv)) hdg (kk _ _ _ hl hll hP hS)
    · cases h
  | getstatic k =>
    have hn : n = 3 := hn.resolve_left (by simp [pm_sz])
    subst hn
    simp only [pm_one] at h
    split at h
    · rename_i v hv
      cases h
      obtain ⟨C0, n0, d0, hm, hf | ⟨host, hf⟩⟩ := okT mi k v hv
      · exact va_gets hx hb (hOut.2.2.2.1 _ _ _ _ hm) hS hown (hts _ hf) (fun _ z => z) hdg (kk _ _ _ hl hll hP hS)
      · exact va_getsN hx hb (hOut.2.2.2.1 _ _ _ _ hm) hS hown (va_Nw.use rfl (hN _ hf)) (fun _ z => z) hdg (kk _ _ _ hl hll hP hS)
    · cases h
  | invokestatic k =>
    have hn : n = 3 := hn.resolve_left (by simp [pm_sz])
    subst hn
    simp only [pm_one] at h
    split at h
    · rename_i _ hk
      obtain ⟨y1, y2, y3, y4⟩ := okY.1 mi k hk
      obtain ⟨n0, dp, sp, a1, a0, st', t, xs, ys, rfl, hw0, hw1, ⟨ht, h1, h2, h3, h4, h5, h6, h7⟩, rfl⟩ := pm_copy_of h
      have hsm : ((st'.map (pm_v b)).map fun v => v.category).sum + (nativeFrameWords "java/lang/System" "arraycopy" 5 + 11) ≤ R.locals := by
        have e1 : ((st'.map (pm_v b)).map fun v => v.category).sum = pm_sum st' := pm_sum_v st'
        have e2 : nativeFrameWords "java/lang/System" "arraycopy" 5 = 7 := by decide
        omega
      have key : ∀ H1 : Heap, va_P D cl ((pm_ws cA b w).set a1 (b.1 + a1, .inl (cA t, ys.length, .inl (va_cpy (fun j => xs.getD j 0) (fun j => ys.getD j 0) sp.toNatClampNeg dp.toNatClampNeg n0.toNatClampNeg)))) H1 → va_P D cl (pm_ws cA b (w.set a1 (.inl (t, .inl (pm_cpy xs ys sp.toNatClampNeg dp.toNatClampNeg n0.toNatClampNeg))))) H1 := by
        intro H1 hP1
        rw [← pm_ws_set]
        show va_P D cl ((pm_ws cA b w).set a1 (b.1 + a1, .inl (cA t, (pm_cpy xs ys sp.toNatClampNeg dp.toNatClampNeg n0.toNatClampNeg).length, .inl (fun j => (pm_cpy xs ys sp.toNatClampNeg dp.toNatClampNeg n0.toNatClampNeg).getD j 0)))) H1
        rw [pm_cpy_len h4 h5, ← pm_cpy_f h4 h5]
        exact hP1
      rcases (show t = 0 ∨ t = 1 by omega) with rfl | rfl
      · exact va_copyi (ty := .int) hx hb (hml.trans hl.1.symm) hown (hts _ y1) (hts _ y2) (hts _ y3) (hts _ y4) hK hP hDD hS a0 a1 0 0 (pm_ws_at hw0) (pm_ws_at hw1) hK0 hK0 rfl h1 h2 h3 h4 h5 (fun _ _ => rfl) hRf hsm hdg (fun H1 locs1 hP1 _ hS1 => kk _ _ _ hl hll (key H1 hP1) hS1)
      · exact va_copyi (ty := .byte) hx hb (hml.trans hl.1.symm) hown (hts _ y1) (hts _ y2) (hts _ y3) (hts _ y4) hK hP hDD hS a0 a1 1 1 (pm_ws_at hw0) (pm_ws_at hw1) hK1 hK1 rfl h1 h2 h3 h4 h5 (fun i hi => pm_all_at (h6.resolve_left (by decide)) h4 hi) hRf hsm hdg (fun H1 locs1 hP1 _ hS1 => kk _ _ _ hl hll (key H1 hP1) hS1)
    · rename_i _ hk
      obtain ⟨y1, y2, y3, y4⟩ := okY.2.1 mi k hk
      split at h
      · split at h
        · rename_i h8
          cases h
          exact va_mmax hx hb (hml.trans hl.1.symm) hown (hts _ y1) (hts _ y2) (hts _ y3) (hts _ y4) hRf (by rw [pm_sum_v]; omega) hRc hRs hdg (kk _ _ _ hl hll hP hS)
        · cases h
      · cases h
    · rename_i _ hk
      obtain ⟨y1, y2, y3, y4⟩ := okY.2.2.1 mi k hk
      split at h
      · split at h
        · rename_i h8
          cases h
          exact va_mmin hx hb (hml.trans hl.1.symm) hown (hts _ y1) (hts _ y2) (hts _ y3) (hts _ y4) hRf (by rw [pm_sum_v]; omega) hRc hRs hdg (kk _ _ _ hl hll hP hS)
        · cases h
      · cases h
    · rename_i _ hk
      obtain ⟨y1, y2, y3, y4⟩ := okY.2.2.2 mi k hk
      split at h
      · split at h
        · rename_i h8
          cases h
          exact va_mabs hx hb (hml.trans hl.1.symm) hown (hts _ y1) (hts _ y2) (hts _ y3) (hts _ y4) hRf (by rw [pm_sum_v]; omega) hRc hRs hdg (kk _ _ _ hl hll hP hS)
        · cases h
      · cases h
    · cases h
  | ldc2_w k =>
    have hn : n = 3 := hn.resolve_left (by simp [pm_sz])
    subst hn
    simp only [pm_one] at h
    split at h
    · rename_i v hv
      cases h
      exact lv_ldc2 hx hb hown (hts _ (hKs.2 mi k v hv)) hdg (kk _ _ _ hl hll hP hS)
    · cases h
  | iload k =>
    have hn : n = 2 := hn.resolve_left (by simp [pm_sz])
    subst hn
    obtain ⟨x, h1, rfl⟩ := pm_iload_ok h hl
    exact lv_iload hx hb hdg h1 (kk _ _ _ hl hll hP hS)
  | iload_n k =>
    have hn : n = 1 := hn.resolve_left (by simp [pm_sz])
    subst hn
    obtain ⟨x, h1, rfl⟩ := pm_iload_ok h hl
    exact lv_iload_n hx hb hdg rfl h1 (kk _ _ _ hl hll hP hS)
  | lload k =>
    have hn : n = 2 := hn.resolve_left (by simp [pm_sz])
    subst hn
    obtain ⟨x, h1, rfl⟩ := pm_lload_ok h hl
    exact lv_lload hx hb hdg h1 (kk _ _ _ hl hll hP hS)
  | lload_n k =>
    have hn : n = 1 := hn.resolve_left (by simp [pm_sz])
    subst hn
    obtain ⟨x, h1, rfl⟩ := pm_lload_ok h hl
    exact lv_lload_n hx hb hdg rfl h1 (kk _ _ _ hl hll hP hS)
  | aload k =>
    have hn : n = 2 := hn.resolve_left (by simp [pm_sz])
    subst hn
    rcases pm_aload_ok h hl with ⟨x, a, h1, hv, rfl⟩ | ⟨x, h1, hv, rfl⟩
    · refine lv_aload hx hb hdg h1 (W.eq ?_ (kk _ _ _ hl hll hP hS))
      simp [hv]
    · refine lv_aloadN hx hb hdg h1 (W.eq ?_ (kk _ _ _ hl hll hP hS))
      simp [hv]
  | aload_n k =>
    have hn : n = 1 := hn.resolve_left (by simp [pm_sz])
    subst hn
    rcases pm_aload_ok h hl with ⟨x, a, h1, hv, rfl⟩ | ⟨x, h1, hv, rfl⟩
    · refine lv_aload_n hx hb hdg rfl h1 (W.eq ?_ (kk _ _ _ hl hll hP hS))
      simp [hv]
    · refine lv_aload_nN hx hb hdg rfl h1 (W.eq ?_ (kk _ _ _ hl hll hP hS))
      simp [hv]
  | istore k =>
    have hn : n = 2 := hn.resolve_left (by simp [pm_sz])
    subst hn
    obtain ⟨x, st', rfl, h1, rfl⟩ := pm_istore_of h
    exact lv_istore hx hb hdg hl (by rw [← hll]; exact h1) rfl fun lsR' hl' => kk _ _ _ (pm_lv_st1 (v := .int x) rfl hl') (by rw [pm_st1_len]; exact hll) hP hS
  | istore_n k =>
    have hn : n = 1 := hn.resolve_left (by simp [pm_sz])
    subst hn
    obtain ⟨x, st', rfl, h1, rfl⟩ := pm_istore_of h
    exact lv_istore_n hx hb hdg rfl hl (by rw [← hll]; exact h1) rfl fun lsR' hl' => kk _ _ _ (pm_lv_st1 (v := .int x) rfl hl') (by rw [pm_st1_len]; exact hll) hP hS
  | lstore k =>
    have hn : n = 2 := hn.resolve_left (by simp [pm_sz])
    subst hn
    obtain ⟨x, st', rfl, h1, rfl⟩ := pm_lstore_of h
    exact lv_lstore hx hb hdg hl (by rw [← hll]; exact h1) rfl fun lsR' hl' => kk _ _ _ (pm_lv_st2 (v := .long x) rfl hl') (by rw [pm_st2_len]; exact hll) hP hS
  | lstore_n k =>
    have hn : n = 1 := hn.resolve_left (by simp [pm_sz])
    subst hn
    obtain ⟨x, st', rfl, h1, rfl⟩ := pm_lstore_of h
    exact lv_lstore_n hx hb hdg rfl hl (by rw [← hll]; exact h1) rfl fun lsR' hl' => kk _ _ _ (pm_lv_st2 (v := .long x) rfl hl') (by rw [pm_st2_len]; exact hll) hP hS
  | astore k =>
    have hn : n = 2 := hn.resolve_left (by simp [pm_sz])
    subst hn
    obtain ⟨h1, ⟨x, a, st', rfl, hv, rfl⟩ | ⟨x, st', rfl, hv, rfl⟩⟩ := pm_astore_of (b := b) h
    · refine W.eq (g2 := F0 m pc lsR (.ref a :: st'.map (pm_v b))) (by simp [hv]) ?_
      exact lv_astore hx hb hdg hl (by rw [← hll]; exact h1) rfl fun lsR' hl' => kk _ _ _ (pm_lv_st1 (v := x) (by rw [hv]) hl') (by rw [pm_st1_len]; exact hll) hP hS
    · refine W.eq (g2 := F0 m pc lsR (.null :: st'.map (pm_v b))) (by simp [hv]) ?_
      exact lv_astoreN hx hb hdg hl (by rw [← hll]; exact h1) rfl fun lsR' hl' => kk _ _ _ (pm_lv_st1 (v := x) (by rw [hv]) hl') (by rw [pm_st1_len]; exact hll) hP hS
  | astore_n k =>
    have hn : n = 1 := hn.resolve_left (by simp [pm_sz])
    subst hn
    obtain ⟨h1, ⟨x, a, st', rfl, hv, rfl⟩ | ⟨x, st', rfl, hv, rfl⟩⟩ := pm_astore_of (b := b) h
    · refine W.eq (g2 := F0 m pc lsR (.ref a :: st'.map (pm_v b))) (by simp [hv]) ?_
      exact lv_astore_n hx hb hdg rfl hl (by rw [← hll]; exact h1) rfl fun lsR' hl' => kk _ _ _ (pm_lv_st1 (v := x) (by rw [hv]) hl') (by rw [pm_st1_len]; exact hll) hP hS
    · refine W.eq (g2 := F0 m pc lsR (.null :: st'.map (pm_v b))) (by simp [hv]) ?_
      exact lv_astore_nN hx hb hdg rfl hl (by rw [← hll]; exact h1) rfl fun lsR' hl' => kk _ _ _ (pm_lv_st1 (v := x) (by rw [hv]) hl') (by rw [pm_st1_len]; exact hll) hP hS
  | iinc k v =>
    have hn : n = 3 := hn.resolve_left (by simp [pm_sz])
    subst hn
    simp only [pm_one] at h
    split at h
    · rename_i x hk
      cases h
      obtain ⟨j, hj⟩ := List.getElem?_of_mem (pm_lv_mem.mpr ⟨.int x, hk, rfl, rfl⟩ : (k, pm_v b (.int x)) ∈ pm_lv b ls)
      exact lv_iinc hx hb hdg hl hj rfl (by rw [← hll]; exact (List.getElem?_eq_some_iff.mp hk).1) rfl fun lsR' hl' => kk _ _ _ (pm_lv_st1 (v := .int (x + Int32.ofInt v)) rfl hl') (by rw [pm_st1_len]; exact hll) hP hS
    · cases h
  | iadd =>
    have hn : n = 1 := hn.resolve_left (by simp [pm_sz])
    subst hn
    simp only [pm_one] at h
    obtain ⟨x, y1, z, st', rfl, hz, rfl⟩ := pm_ii_of h
    cases hz
    exact lv_iadd hx hb hdg (kk _ _ _ hl hll hP hS)
  | isub =>
    have hn : n = 1 := hn.resolve_left (by simp [pm_sz])
    subst hn
    simp only [pm_one] at h
    obtain ⟨x, y1, z, st', rfl, hz, rfl⟩ := pm_ii_of h
    cases hz
    exact lv_isub hx hb hdg (kk _ _ _ hl hll hP hS)
  | imul =>
    have hn : n = 1 := hn.resolve_left (by simp [pm_sz])
    subst hn
    simp only [pm_one] at h
    obtain ⟨x, y1, z, st', rfl, hz, rfl⟩ := pm_ii_of h
    cases hz
    exact lv_imul hx hb hdg (kk _ _ _ hl hll hP hS)
  | iand =>
    have hn : n = 1 := hn.resolve_left (by simp [pm_sz])
    subst hn
    simp only [pm_one] at h
    obtain ⟨x, y1, z, st', rfl, hz, rfl⟩ := pm_ii_of h
    cases hz
    exact lv_iand hx hb hdg (kk _ _ _ hl hll hP hS)
  | ior =>
    have hn : n = 1 := hn.resolve_left (by simp [pm_sz])
    subst hn
    simp only [pm_one] at h
    obtain ⟨x, y1, z, st', rfl, hz, rfl⟩ := pm_ii_of h
    cases hz
    exact lv_ior hx hb hdg (kk _ _ _ hl hll hP hS)
  | ixor =>
    have hn : n = 1 := hn.resolve_left (by simp [pm_sz])
    subst hn
    simp only [pm_one] at h
    obtain ⟨x, y1, z, st', rfl, hz, rfl⟩ := pm_ii_of h
    cases hz
    exact lv_ixor hx hb hdg (kk _ _ _ hl hll hP hS)
  | ishl =>
    have hn : n = 1 := hn.resolve_left (by simp [pm_sz])
    subst hn
    simp only [pm_one] at h
    obtain ⟨x, y1, z, st', rfl, hz, rfl⟩ := pm_ii_of h
    cases hz
    exact lv_ishl hx hb hdg (kk _ _ _ hl hll hP hS)
  | ishr =>
    have hn : n = 1 := hn.resolve_left (by simp [pm_sz])
    subst hn
    simp only [pm_one] at h
    obtain ⟨x, y1, z, st', rfl, hz, rfl⟩ := pm_ii_of h
    cases hz
    exact lv_ishr hx hb hdg (kk _ _ _ hl hll hP hS)
  | iushr =>
    have hn : n = 1 := hn.resolve_left (by simp [pm_sz])
    subst hn
    simp only [pm_one] at h
    obtain ⟨x, y1, z, st', rfl, hz, rfl⟩ := pm_ii_of h
    cases hz
    exact lv_iushr hx hb hdg rfl (kk _ _ _ hl hll hP hS)
  | idiv =>
    have hn : n = 1 := hn.resolve_left (by simp [pm_sz])
    subst hn
    simp only [pm_one] at h
    obtain ⟨x, y1, z, st', rfl, hz, rfl⟩ := pm_ii_of h
    have hz : (if y1 = 0 then none else some _) = some z := hz
    split at hz
    · cases hz
    · rename_i h0
      cases hz
      exact lv_idiv hx hb hdg h0 (kk _ _ _ hl hll hP hS)
  | irem =>
    have hn : n = 1 := hn.resolve_left (by simp [pm_sz])
    subst hn
    simp only [pm_one] at h
    obtain ⟨x, y1, z, st', rfl, hz, rfl⟩ := pm_ii_of h
    have hz : (if y1 = 0 then none else some _) = some z := hz
    split at hz
    · cases hz
    · rename_i h0
      cases hz
      exact lv_irem hx hb hdg h0 (kk _ _ _ hl hll hP hS)
  | lmul =>
    have hn : n = 1 := hn.resolve_left (by simp [pm_sz])
    subst hn
    simp only [pm_one] at h
    obtain ⟨x, y1, z, st', rfl, hz, rfl⟩ := pm_ll_of h
    cases hz
    exact lv_lmul hx hb hdg (kk _ _ _ hl hll hP hS)
  | ineg =>
    have hn : n = 1 := hn.resolve_left (by simp [pm_sz])
    subst hn
    simp only [pm_one] at h
    split at h
    · cases h
      exact lv_ineg hx hb hdg (kk _ _ _ hl hll hP hS)
    · cases h
  | i2l =>
    have hn : n = 1 := hn.resolve_left (by simp [pm_sz])
    subst hn
    simp only [pm_one] at h
    split at h
    · cases h
      exact lv_i2l hx hb hdg rfl (kk _ _ _ hl hll hP hS)
    · cases h
  | i2b =>
    have hn : n = 1 := hn.resolve_left (by simp [pm_sz])
    subst hn
    simp only [pm_one] at h
    split at h
    · cases h
      exact lv_i2b hx hb hdg rfl (kk _ _ _ hl hll hP hS)
    · cases h
  | i2c =>
    have hn : n = 1 := hn.resolve_left (by simp [pm_sz])
    subst hn
    simp only [pm_one] at h
    split at h
    · cases h
      exact lv_i2c hx hb hdg rfl (kk _ _ _ hl hll hP hS)
    · cases h
  | lcmp =>
    have hn : n = 1 := hn.resolve_left (by simp [pm_sz])
    subst hn
    simp only [pm_one] at h
    split at h
    · cases h
      exact W.lcmp hx hb hdg (kk _ _ _ hl hll hP hS)
    · cases h
  | dup =>
    have hn : n = 1 := hn.resolve_left (by simp [pm_sz])
    subst hn
    simp only [pm_one] at h
    split at h
    · split at h
      · rename_i hc
        cases h
        exact lv_dup hx hb hdg (by rw [pm_v_cat]; exact hc) (kk _ _ _ hl hll hP hS)
      · cases h
    · cases h
  | pop =>
    have hn : n = 1 := hn.resolve_left (by simp [pm_sz])
    subst hn
    simp only [pm_one] at h
    split at h
    · split at h
      · rename_i hc
        cases h
        exact lv_pop hx hb hdg (by rw [pm_v_cat]; exact hc) (kk _ _ _ hl hll hP hS)
      · cases h
    · cases h
  | pop2 =>
    have hn : n = 1 := hn.resolve_left (by simp [pm_sz])
    subst hn
    simp only [pm_one] at h
    split at h
    · split at h
      · rename_i hc
        cases h
        exact lv_pop2_2 hx hb hdg (by rw [pm_v_cat]; exact hc) (kk _ _ _ hl hll hP hS)
      · cases h
    · cases h
  | dup2 =>
    have hn : n = 1 := hn.resolve_left (by simp [pm_sz])
    subst hn
    simp only [pm_one] at h
    split at h
    · split at h
      · rename_i hc
        cases h
        exact lv_dup2_11 hx hb hdg (by rw [pm_v_cat]; exact hc.1) (by rw [pm_v_cat]; exact hc.2) (kk _ _ _ hl hll hP hS)
      · cases h
    · cases h
  | dup_x1 =>
    have hn : n = 1 := hn.resolve_left (by simp [pm_sz])
    subst hn
    simp only [pm_one] at h
    split at h
    · split at h
      · rename_i hc
        cases h
        exact lv_dup_x1 hx hb hdg (by rw [pm_v_cat]; exact hc.1) (by rw [pm_v_cat]; exact hc.2) (kk _ _ _ hl hll hP hS)
      · cases h
    · cases h
  | dup_x2 =>
    have hn : n = 1 := hn.resolve_left (by simp [pm_sz])
    subst hn
    simp only [pm_one] at h
    split at h
    · split at h
      · rename_i hc
        cases h
        exact lv_dup_x2 hx hb hdg (by rw [pm_v_cat]; exact hc.1) (by rw [pm_v_cat]; exact hc.2.1) (by rw [pm_v_cat]; exact hc.2.2) (kk _ _ _ hl hll hP hS)
      · cases h
    · cases h
  | goto off =>
    have hn : n = 3 := hn.resolve_left (by simp [pm_sz])
    subst hn
    obtain ⟨t, ht, rfl⟩ := pm_jmp_of h
    exact lv_goto hx hb hdg ht (kk _ _ _ hl hll hP hS)
  | ifCond c0 off =>
    have hn : n = 3 := hn.resolve_left (by simp [pm_sz])
    subst hn
    have h : pm_if1 c0 pc off ls st w = some r := h
    unfold pm_if1 at h
    split at h
    · cases c0 with
      | eq =>
        obtain ⟨t, ht, ⟨h0, rfl⟩ | ⟨h0, rfl⟩⟩ := pm_br_of h
        · exact lv_if_eq hx hb hdg ht (fun _ => kk _ _ _ hl hll hP hS) (fun q => absurd h0 q)
        · exact lv_if_eq hx hb hdg ht (fun q => absurd q h0) (fun _ => kk _ _ _ hl hll hP hS)
      | ne =>
        obtain ⟨t, ht, ⟨h0, rfl⟩ | ⟨h0, rfl⟩⟩ := pm_br_of h
        · exact lv_if_ne hx hb hdg ht (fun _ => kk _ _ _ hl hll hP hS) (fun q => absurd q h0)
        · exact lv_if_ne hx hb hdg ht (fun q => absurd q h0) (fun _ => kk _ _ _ hl hll hP hS)
      | lt =>
        obtain ⟨t, ht, ⟨h0, rfl⟩ | ⟨h0, rfl⟩⟩ := pm_br_of h
        · exact lv_if_lt hx hb hdg ht (fun _ => kk _ _ _ hl hll hP hS) (fun q => absurd h0 q)
        · exact lv_if_lt hx hb hdg ht (fun q => absurd q h0) (fun _ => kk _ _ _ hl hll hP hS)
      | ge =>
        obtain ⟨t, ht, ⟨h0, rfl⟩ | ⟨h0, rfl⟩⟩ := pm_br_of h
        · exact lv_if_ge hx hb hdg ht (fun _ => kk _ _ _ hl hll hP hS) (fun q => absurd h0 q)
        · exact lv_if_ge hx hb hdg ht (fun q => absurd q h0) (fun _ => kk _ _ _ hl hll hP hS)
      | gt =>
        obtain ⟨t, ht, ⟨h0, rfl⟩ | ⟨h0, rfl⟩⟩ := pm_br_of h
        · exact lv_if_gt hx hb hdg ht (fun _ => kk _ _ _ hl hll hP hS) (fun q => absurd h0 q)
        · exact lv_if_gt hx hb hdg ht (fun q => absurd q h0) (fun _ => kk _ _ _ hl hll hP hS)
      | le =>
        obtain ⟨t, ht, ⟨h0, rfl⟩ | ⟨h0, rfl⟩⟩ := pm_br_of h
        · exact lv_if_le hx hb hdg ht (fun _ => kk _ _ _ hl hll hP hS) (fun q => absurd h0 q)
        · exact lv_if_le hx hb hdg ht (fun q => absurd q h0) (fun _ => kk _ _ _ hl hll hP hS)
    · cases h
  | if_icmp c0 off =>
    have hn : n = 3 := hn.resolve_left (by simp [pm_sz])
    subst hn
    have h : pm_if2 c0 pc off ls st w = some r := h
    unfold pm_if2 at h
    split at h
    · cases c0 with
      | eq =>
        obtain ⟨t, ht, ⟨h0, rfl⟩ | ⟨h0, rfl⟩⟩ := pm_br_of h
        · exact lv_icmp_eq hx hb hdg ht (fun _ => kk _ _ _ hl hll hP hS) (fun q => absurd h0 q)
        · exact lv_icmp_eq hx hb hdg ht (fun q => absurd q h0) (fun _ => kk _ _ _ hl hll hP hS)
      | ne =>
        obtain ⟨t, ht, ⟨h0, rfl⟩ | ⟨h0, rfl⟩⟩ := pm_br_of h
        · exact lv_icmp_ne hx hb hdg ht (fun _ => kk _ _ _ hl hll hP hS) (fun q => absurd q h0)
        · exact lv_icmp_ne hx hb hdg ht (fun q => absurd q h0) (fun _ => kk _ _ _ hl hll hP hS)
      | lt =>
        obtain ⟨t, ht, ⟨h0, rfl⟩ | ⟨h0, rfl⟩⟩ := pm_br_of h
        · exact lv_icmp_lt hx hb hdg ht (fun _ => kk _ _ _ hl hll hP hS) (fun q => absurd h0 q)
        · exact lv_icmp_lt hx hb hdg ht (fun q => absurd q h0) (fun _ => kk _ _ _ hl hll hP hS)
      | ge =>
        obtain ⟨t, ht, ⟨h0, rfl⟩ | ⟨h0, rfl⟩⟩ := pm_br_of h
        · exact lv_icmp_ge hx hb hdg ht (fun _ => kk _ _ _ hl hll hP hS) (fun q => absurd h0 q)
        · exact lv_icmp_ge hx hb hdg ht (fun q => absurd q h0) (fun _ => kk _ _ _ hl hll hP hS)
      | gt =>
        obtain ⟨t, ht, ⟨h0, rfl⟩ | ⟨h0, rfl⟩⟩ := pm_br_of h
        · exact lv_icmp_gt hx hb hdg ht (fun _ => kk _ _ _ hl hll hP hS) (fun q => absurd h0 q)
        · exact lv_icmp_gt hx hb hdg ht (fun q => absurd q h0) (fun _ => kk _ _ _ hl hll hP hS)
      | le =>
        obtain ⟨t, ht, ⟨h0, rfl⟩ | ⟨h0, rfl⟩⟩ := pm_br_of h
        · exact lv_icmp_le hx hb hdg ht (fun _ => kk _ _ _ hl hll hP hS) (fun q => absurd h0 q)
        · exact lv_icmp_le hx hb hdg ht (fun q => absurd q h0) (fun _ => kk _ _ _ hl hll hP hS)
    · cases h
  | ifnull off =>
    have hn : n = 3 := hn.resolve_left (by simp [pm_sz])
    subst hn
    simp only [pm_one] at h
    split at h
    · obtain ⟨t, ht, rfl⟩ := pm_jmp_of h
      exact lv_ifnullN hx hb hdg ht (kk _ _ _ hl hll hP hS)
    · cases h
      exact lv_ifnull hx hb hdg (kk _ _ _ hl hll hP hS)
    · cases h
  | ifnonnull off =>
    have hn : n = 3 := hn.resolve_left (by simp [pm_sz])
    subst hn
    simp only [pm_one] at h
    split at h
    · cases h
      exact lv_ifnonnullN hx hb hdg (kk _ _ _ hl hll hP hS)
    · obtain ⟨t, ht, rfl⟩ := pm_jmp_of h
      exact lv_ifnonnull hx hb hdg ht (kk _ _ _ hl hll hP hS)
    · cases h
  | tableswitch df lo hi offs =>
    simp only [pm_one] at h
    split at h
    · split at h
      · rename_i h0
        obtain ⟨t, ht, rfl⟩ := pm_jmp_of h
        exact lv_tableOut hx hb hdg h0 ht (kk _ _ _ hl hll hP hS)
      · rename_i h0
        split at h
        · rename_i off ho
          obtain ⟨t, ht, rfl⟩ := pm_jmp_of h
          exact lv_tableIn hx hb hdg (fun q => h0 (Or.inl q)) (fun q => h0 (Or.inr q)) ho ht (kk _ _ _ hl hll hP hS)
        · cases h
    · cases h
  | iaload =>
    have hn : n = 1 := hn.resolve_left (by simp [pm_sz])
    subst hn
    simp only [pm_one] at h
    obtain ⟨i, st', xs, hi, rfl, ⟨a, rfl, hw⟩ | ⟨j, k, rfl, hX⟩⟩ := pm_iald_of h
    · exact va_iald hx hb hK hP a 0 (pm_ws_at hw) hK0 hi hdg (kk _ _ _ hl hll hP hS)
    · refine W.eq (g2 := F0 m pc lsR (.int i :: .ref (pm_ad b j) :: st'.map (pm_v b))) (by simp [pm_v_some (hOut.1 j xs k hX).1, show pm_v b (.int i) = .int i from rfl]) ?_
      exact va_ti hx hb (hOut.1 j xs k hX).2 hS hi rfl hdg (kk _ _ _ hl hll hP hS)
  | baload =>
    have hn : n = 1 := hn.resolve_left (by simp [pm_sz])
    subst hn
    simp only [pm_one] at h
    rcases pm_oc_of h with h | h
    · obtain ⟨i, st', xs, hi, rfl, ⟨a, rfl, hw⟩ | ⟨j, k, rfl, hX⟩⟩ := pm_iald_of h
      · exact va_bald hx hb hK hP a 1 (pm_ws_at hw) hK1 hi hdg (kk _ _ _ hl hll hP hS)
      · refine W.eq (g2 := F0 m pc lsR (.int i :: .ref (pm_ad b j) :: st'.map (pm_v b))) (by simp [pm_v_some (hOut.2.1 j xs k hX).1, show pm_v b (.int i) = .int i from rfl]) ?_
        exact va_tb hx hb (hOut.2.1 j xs k hX).2 hS hi rfl hdg (kk _ _ _ hl hll hP hS)
    · obtain ⟨i, st', xs, hi, rfl, ⟨a, rfl, hw⟩ | ⟨j, k, rfl, hX⟩⟩ := pm_iald_of h
      · exact va_zald hx hb hK hP a 2 (pm_ws_at hw) hK2 hi hdg (kk _ _ _ hl hll hP hS)
      · cases hX
  | iastore =>
    have hn : n = 1 := hn.resolve_left (by simp [pm_sz])
    subst hn
    simp only [pm_one] at h
    obtain ⟨x, i, a, st', xs, rfl, hw, hi, rfl⟩ := pm_iast_of h
    refine va_iast hx hb hK hP hDD hS a 0 (pm_ws_at hw) hK0 hi hdg (fun H1 locs1 hP1 _ hS1 => kk _ _ _ hl hll ?_ hS1)
    show va_P D cl (pm_ws cA b (w.set a (.inl (0, .inl (xs.set i.toNatClampNeg x))))) H1
    rw [← pm_ws_set]
    show va_P D cl ((pm_ws cA b w).set a (b.1 + a, .inl (cA 0, (xs.set i.toNatClampNeg x).length, .inl (fun j => (xs.set i.toNatClampNeg x).getD j 0)))) H1
    rw [List.length_set, ← pm_upd (pm_in_lt hi)]
    exact hP1
  | bastore =>
    have hn : n = 1 := hn.resolve_left (by simp [pm_sz])
    subst hn
    simp only [pm_one] at h
    rcases pm_oc_of h with h | h
    · obtain ⟨x, i, a, st', xs, rfl, hw, hi, rfl⟩ := pm_iast_of h
      refine va_bast hx hb hK hP hDD hS a 1 (pm_ws_at hw) hK1 hi hdg (fun H1 locs1 hP1 _ hS1 => kk _ _ _ hl hll ?_ hS1)
      show va_P D cl (pm_ws cA b (w.set a (.inl (1, .inl (xs.set i.toNatClampNeg (vp_nar .byte x)))))) H1
      rw [← pm_ws_set]
      show va_P D cl ((pm_ws cA b w).set a (b.1 + a, .inl (cA 1, (xs.set i.toNatClampNeg (vp_nar .byte x)).length, .inl (fun j => (xs.set i.toNatClampNeg (vp_nar .byte x)).getD j 0)))) H1
      rw [List.length_set, ← pm_upd (pm_in_lt hi)]
      exact hP1
    · obtain ⟨x, i, a, st', xs, rfl, hw, hi, rfl⟩ := pm_iast_of h
      refine va_zast hx hb hK hP hDD hS a 2 (pm_ws_at hw) hK2 hi hdg (fun H1 locs1 hP1 _ hS1 => kk _ _ _ hl hll ?_ hS1)
      show va_P D cl (pm_ws cA b (w.set a (.inl (2, .inl (xs.set i.toNatClampNeg (vp_nar .boolean x)))))) H1
      rw [← pm_ws_set]
      show va_P D cl ((pm_ws cA b w).set a (b.1 + a, .inl (cA 2, (xs.set i.toNatClampNeg (vp_nar .boolean x)).length, .inl (fun j => (xs.set i.toNatClampNeg (vp_nar .boolean x)).getD j 0)))) H1
      rw [List.length_set, ← pm_upd (pm_in_lt hi)]
      exact hP1
  | arraylength =>
    have hn : n = 1 := hn.resolve_left (by simp [pm_sz])
    subst hn
    simp only [pm_one] at h
    split at h
    · rename_i j st'
      split at h
      · rename_i _ t xs k hX
        split at h
        · rename_i ht
          cases h
          rcases (show t = 0 ∨ t = 1 by omega) with rfl | rfl
          · refine W.eq (g2 := F0 m pc lsR (.ref (pm_ad b j) :: st'.map (pm_v b))) (by simp [pm_v_some (hOut.1 j xs k hX).1]) ?_
            exact va_tlen hx hb (hOut.1 j xs k hX).2 hS rfl hdg (kk _ _ _ hl hll hP hS)
          · refine W.eq (g2 := F0 m pc lsR (.ref (pm_ad b j) :: st'.map (pm_v b))) (by simp [pm_v_some (hOut.2.1 j xs k hX).1]) ?_
            exact va_tlen hx hb (hOut.2.1 j xs k hX).2 hS rfl hdg (kk _ _ _ hl hll hP hS)
        · cases h
      · cases h
    · rename_i a st'
      split at h
      · rename_i _ t xs hw
        split at h
        · rename_i ht
          cases h
          exact va_alen hx hb hK hP a t (pm_ws_at hw) (pm_tys_at (List.getElem?_eq_getElem ht)) (by rw [pm_len_a]) hdg (kk _ _ _ hl hll hP hS)
        · cases h
      · cases h
    · cases h
  | aaload =>
    have hn : n = 1 := hn.resolve_left (by simp [pm_sz])
    subst hn
    simp only [pm_one] at h
    split at h
    · rename_i i a st'
      split at h
      · rename_i _ t xs hw
        split at h
        · rename_i _ C ht
          split at h
          · rename_i hi
            cases h
            refine va_aldq hx hb hK hP a t (pm_ws_at hw) (pm_tys_at ht) (pm_in_ok hi) hdg ?_
            exact W.eq (by simp [pm_v_rf]) (kk _ _ _ hl hll hP hS)
          · cases h
        · cases h
      · cases h
    · cases h
  | aastore =>
    have hn : n = 1 := hn.resolve_left (by simp [pm_sz])
    subst hn
    simp only [pm_one] at h
    split at h
    · rename_i v i a st'
      split at h
      · rename_i _ t xs hw
        split at h
        · rename_i _ ci vs hv
          split at h
          · rename_i _ rc hc
            split at h
            · rename_i hi
              cases h
              refine va_astq hx hb hK hP hDD hS a t v ci (pm_ws_at hw) (pm_tys_at hi.1) (pm_ws_at hv) hc (pm_in_ok hi.2) hdg (fun H1 locs1 hP1 _ hS1 => kk _ _ _ hl hll ?_ hS1)
              show va_P D cl (pm_ws cA b (w.set a (.inl (t, .inr (.inr (xs.set i.toNatClampNeg (some v))))))) H1
              rw [← pm_ws_set]
              show va_P D cl ((pm_ws cA b w).set a (b.1 + a, .inl (cA t, (xs.set i.toNatClampNeg (some v)).length, .inr (.inr (.inr (.inr (fun j => ((xs.set i.toNatClampNeg (some v)).getD j none).map (fun k => b.1 + k)))))))) H1
              rw [List.length_set, ← pm_upq (pm_in_lt (pm_in_ok hi.2))]
              exact hP1
            · cases h
          · cases h
        · cases h
      · cases h
    · cases h
  | getfield k =>
    have hn : n = 3 := hn.resolve_left (by simp [pm_sz])
    subst hn
    simp only [pm_one] at h
    split at h
    · rename_i j st'
      split at h
      · rename_i _ xs i hX
        obtain ⟨o0, o1, o2, o3⟩ := hOut.2.2.1 j xs i hX
        refine W.eq (g2 := F0 m pc lsR (.ref (pm_ad b j) :: st'.map (pm_v b))) (by simp [pm_v_some o0]) ?_
        split at h
        · rename_i _ hk
          cases h
          exact vk_getf hx hb o2 hS hown (hts _ (okU.1 mi k hk)) (fun _ z => z) hdg (kk _ _ _ hl hll hP hS)
        · rename_i _ hk
          cases h
          exact vk_getf hx hb o3 hS hown (hts _ (okU.2 mi k hk)) (fun _ z => z) hdg (kk _ _ _ hl hll hP hS)
        · cases h
      · cases h
    · rename_i a st'
      split at h
      · rename_i _ ci j hg
        split at h
        · rename_i _ ci' fs hw
          split at h
          · rename_i hci
            subst hci
            split at h
            · rename_i _ v hv
              cases h
              obtain ⟨⟨C, T, N⟩, hq, hj, hF⟩ := hGt mi k _ j hg
              have hv' : (fs.map (pm_v b))[j]? = some (pm_v b v) := by rw [List.getElem?_map, hv]; rfl
              rcases hF with hf | ⟨host, hf⟩
              · exact va_get hx hb hts (hC _ _ hq).1 hown hK hP a (pm_ws_at hw) hq j hj (hts _ hf) (fun _ z => z) hv' hdg (kk _ _ _ hl hll hP hS)
              · exact va_getN hx hb hts (hC _ _ hq).1 hown hK hP a (pm_ws_at hw) hq j hj (va_Nw.use rfl (hN _ hf)) (fun _ z => z) hv' hdg (kk _ _ _ hl hll hP hS)
            · cases h
          · cases h
        · cases h
      · cases h
    · cases h
  | putfield k =>
    have hn : n = 3 := hn.resolve_left (by simp [pm_sz])
    subst hn
    simp only [pm_one] at h
    split at h
    · rename_i v a st'
      split at h
      · rename_i _ ci j ty hg
        split at h
        · rename_i _ ci' fs hw
          split at h
          · rename_i hci
            obtain ⟨rfl, hjl, hft⟩ := hci
            cases h
            obtain ⟨⟨C, T, N⟩, hq, hj, hty, hF⟩ := hPt mi k _ j ty hg
            obtain ⟨hin, ⟨ty0, hty0⟩, hnm0⟩ := hC _ _ hq
            obtain ⟨hn1, hf1⟩ := pm_fit_ok b hft
            have key : ∀ H1 : Heap, va_P D cl ((pm_ws cA b w).set a (b.1 + a, .inr (ci', (fs.map (pm_v b)).set j (pm_v b v)))) H1 → va_P D cl (pm_ws cA b (w.set a (.inr (ci', fs.set j v)))) H1 := by
              intro H1 hP1
              rw [← pm_ws_set]
              show va_P D cl ((pm_ws cA b w).set a (b.1 + a, .inr (ci', (fs.set j v).map (pm_v b)))) H1
              rw [List.map_set]
              exact hP1
            rcases hF with ⟨hfin, hf | ⟨host, hf⟩⟩ | ⟨hfin, hni, hde, hf⟩
            · exact va_put hx hb hts hin ty0 hty0 hnm0 hown hK hP hDD hS a (pm_ws_at hw) hq j hj (hts _ hf) (fun _ z => z) hfin hty hn1 hf1 (by rw [List.length_map]; exact hjl) hdg (fun H1 locs1 hP1 _ hS1 => kk _ _ _ hl hll (key H1 hP1) hS1)
            · exact va_putN hx hb hts hin ty0 hty0 hnm0 hown hK hP hDD hS a (pm_ws_at hw) hq j hj (va_Nw.use rfl (hN _ hf)) (fun _ z => z) hfin hty hn1 hf1 (by rw [List.length_map]; exact hjl) hdg (fun H1 locs1 hP1 _ hS1 => kk _ _ _ hl hll (key H1 hP1) hS1)
            · exact va_putF hx hb hts hin ty0 hty0 hnm0 hown hK hP hDD hS a (pm_ws_at hw) hq j hj (hts _ hf) (fun _ z => z) hfin (hnm hni) hde hty hn1 hf1 (by rw [List.length_map]; exact hjl) hdg (fun H1 locs1 hP1 _ hS1 => kk _ _ _ hl hll (key H1 hP1) hS1)
          · cases h
        · cases h
      · cases h
    · cases h
  | _ => exact absurd h (by simp [pm_one])
end PM
