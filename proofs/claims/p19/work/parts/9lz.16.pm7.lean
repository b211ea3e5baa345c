/-- a run of the pure machine is a run of the machine: at fuel f -/
def pm_Sound (G : pm_G) (X : pm_X) (sts : List (String × String × String × Value)) (srs : List (String × Nat × String × Nat)) (tyl : List FieldType) (cl : List vw_C) (D : va_G) (cA : Nat → ClassId) (b : pm_B) (Tb nws : List Cond) (aos : List String) (y : Nat → MethodName) (cd : Nat → ByteArray) (l : Launch) (f : Nat) : Prop :=
  ∀ (d mi pc : Nat) (ls st : List Value) (w : pm_W) (r : Option Value) (w' : pm_W) (mc ms : Nat), pm G X tyl cl f d mi pc ls st w = some (r, w', mc, ms) → ∀ (p : Program) (e : Env) (R : Room) (s : State) (m : MethodId) (args : Array Value) (below : List Frame) (meth : Method) (c : Code) (H : Heap) (locs : List Loc) (cells slots C S : Nat) (lsR : Array Slot),
    pm_Fx D cl cA tyl Tb nws aos y cd G X sts srs b mi p s m args meth c → lv_has lsR (pm_max G mi) (pm_lv b ls) → ls.length = pm_max G mi → va_P D cl (pm_ws cA b w) H → va_S (fun q => b.1 ≤ q) s.heap H locs → s.heap.size + cells = b.1 + w.length → d + 1 ≤ R.frames → 64 * (d + 1) ≤ R.locals → cells + mc = C → slots + ms = S → C ≤ R.cells → S ≤ R.slots →
    W p l e R s m args below meth c H locs cells slots (MQ below (pm_Qc D cl cA b r w') args s C S (fun q => b.1 ≤ q)) (F0 m pc lsR (st.map (pm_v b)))
section PM
variable {G : pm_G} {tyl : List FieldType} {cl : List vw_C} {D : va_G} {cA : Nat → ClassId} {b : pm_B} {Tb nws : List Cond} {aos : List String} {y : Nat → MethodName} {cd : Nat → ByteArray} {X : pm_X} {sts : List (String × String × String × Value)} {srs : List (String × Nat × String × Nat)} {l : Launch}
/-- a method's contract out of its run -/
theorem pm_Met {f : Nat} (hS : pm_Sound G X sts srs tyl cl D cA b Tb nws aos y cd l f) {d mj : Nat} {vs : List Value} {w w' : pm_W} {r : Option Value} {mc ms : Nat} (h : pm G X tyl cl f d mj 0 (pm_ent (pm_max G mj) vs) [] w = some (r, w', mc, ms)) (hvs : (pm_arg vs).length ≤ pm_max G mj) (hpn : plainName (y mj).cls = true) :
    Met l (y mj) (pm_wd Tb y cd G mj) (pm_rm d mc ms) (pm_Pc D cl cA tyl nws aos X sts srs b vs w) (pm_Qc D cl cA b r w') mc ms (fun q => b.1 ≤ q) := by
  refine Met.ofW (cc := cd mj) (maxL := pm_max G mj) (ret := pm_ret G mj) hpn rfl ?_
  intro p e s m args below meth c s₁ B hml hv
  obtain ⟨rfl, hsz, hP, hK, hO⟩ := hv
  have hts := atoms_spec (ws := pm_wd Tb y cd G mj) B.pre
  have hl := lv_entry (vs.map (pm_v b)) (n := pm_max G mj) (by rw [lg_sl_v, ← pm_arg_len]; exact hvs)
  rw [lg_entry_eq]
  exact hS d mj 0 _ [] w r w' mc ms h p e _ s m _ below meth c s.heap [] 0 0 mc ms _ ⟨B.exec, B.bytes, B.returns, hml, findClass_of_methodNamed B.named, fun w hw => hts w (List.mem_cons_of_mem _ hw), B.notSynchronized, fun h => (name_of_methodNamed B.named B.method).1.trans h, hK, by omega, hO⟩ (pm_ent_ok hl) (pm_ent_len hvs) hP va_S.rf hsz (Nat.le_refl _) (Nat.le_refl _) (Nat.zero_add _) (Nat.zero_add _) (Nat.le_refl _) (Nat.le_refl _)
theorem pm_blind (hn : ∀ w ∈ nws, pm_nestOk w) {vs : List Value} {w : pm_W} : FrameBlind (pm_Pc D cl cA tyl nws aos X sts srs b vs w) := fun a U g mk h => ⟨h.1, h.2.1, h.2.2.1, pm_K.call (U := U) (V := U.calling g mk a) hn rfl h.2.2.2.1, pm_Out.call (U := U) (V := U.calling g mk a) rfl h.2.2.2.2⟩
theorem pm_pre (hn : ∀ w ∈ nws, pm_nestOk w) {s : State} {H : Heap} {vs : List Value} {w : pm_W} (hO : pm_Out b X sts srs s H) (hK : pm_K D cl cA tyl nws aos s) (hz : H.size = b.1 + w.length) (hP : va_P D cl (pm_ws cA b w) H) : ∀ U : State, U.heap = H → s.WarmedH U.vm → pm_Pc D cl cA tyl nws aos X sts srs b vs w (vs.map (pm_v b)).toArray U :=
  fun U hU hW => ⟨rfl, by rw [hU]; exact hz, by rw [hU]; exact hP, hK.warm hn hW, by rw [hU]; exact hO.warm hW⟩
theorem pm_cll_of {mi : Nat} {i : Instr} {d : Nat} {st : List Value} {w : pm_W} {mj d' : Nat} {vs st' : List Value} (h : pm_cll G X mi i d st w = some (mj, d', vs, st')) : d = d' + 1 ∧ pm_sum st' ≤ 8 ∧ (pm_arg vs).length ≤ pm_max G mj ∧ ∃ k n As, pm_cal G mi k = some (mj, n) ∧ As.length = n ∧
    ((i = .invokestatic k ∧ vs = As ∧ st = As.reverse ++ st') ∨ ∃ v, vs = v :: As ∧ st = As.reverse ++ v :: st' ∧ ((i = .invokespecial k ∧ mj ≠ 0 ∧ ∃ a, v = .ref a) ∨ (i = .invokevirtual k ∧ pm_rcv G X w mj v = true))) := by
  unfold pm_cll at h
  split at h
  · rename_i k
    split at h
    · rename_i mj0 n hc
      split at h
      · rename_i d0 a st0 hs
        split at h
        · rename_i h0
          cases h
          refine ⟨rfl, h0.2.2.1, h0.2.2.2, k, n, (st.take n).reverse, hc, by rw [List.length_reverse]; exact h0.2.1, Or.inr ⟨.ref a, rfl, ?_, Or.inl ⟨rfl, h0.1, a, rfl⟩⟩⟩
          rw [List.reverse_reverse, ← hs, List.take_append_drop]
        · cases h
      · cases h
    · cases h
  · rename_i k
    split at h
    · rename_i mj0 n hc
      split at h
      · rename_i d0 v st0 hs
        split at h
        · rename_i h0
          cases h
          refine ⟨rfl, h0.2.2.1, h0.2.2.2, k, n, (st.take n).reverse, hc, by rw [List.length_reverse]; exact h0.2.1, Or.inr ⟨v, rfl, ?_, Or.inr ⟨rfl, h0.1⟩⟩⟩
          rw [List.reverse_reverse, ← hs, List.take_append_drop]
        · cases h
      · cases h
    · cases h
  · rename_i k
    split at h
    · rename_i mj0 n hc
      split at h
      · split at h
        · rename_i h0
          cases h
          refine ⟨rfl, h0.2.1, h0.2.2, k, n, (st.take n).reverse, hc, by rw [List.length_reverse]; exact h0.1, Or.inl ⟨rfl, rfl, ?_⟩⟩
          rw [List.reverse_reverse, List.take_append_drop]
        · cases h
      · cases h
    · cases h
  · cases h
theorem pm_push_v (r : Option Value) (st : List Value) : (pm_push r st).map (pm_v b) = (r.map (pm_v b)).toList ++ st.map (pm_v b) := by cases r <;> rfl
theorem pm_good (hg : ∀ w ∈ Tb, goodWord w = true) {mj : Nat} (hc : Cond.code (y mj) (cd mj) (pm_max G mj) (pm_ret G mj) ∈ Tb) : GoodIn Tb (pm_wd Tb y cd G mj) := by
  intro w hw
  rcases List.mem_cons.mp hw with rfl | hw
  · exact ⟨hc, good_of_word (hg _ hc)⟩
  · exact ⟨hw, good_of_word (hg _ hw)⟩
set_option maxHeartbeats 4000000 in
/-- a call -/
theorem pm_run (hok : pm_ok Tb nws aos tyl cl y cd G sts srs) {f : Nat} (ih : pm_Sound G X sts srs tyl cl D cA b Tb nws aos y cd l f) {p : Program} {e : Env} {R : Room} {s : State} {m : MethodId} {args : Array Value} {below : List Frame} {meth : Method} {c : Code} {H : Heap} {locs : List Loc} {cells slots : Nat} {lsR : Array Slot}
    {mi pc d mj d' : Nat} {i : Instr} {st vs st' : List Value} {w w1 : pm_W} {r1 : Option Value} {c1 n1 : Nat} (hd : pm_dec G mi pc = some i) (h1 : pm_cll G X mi i d st w = some (mj, d', vs, st')) (h2 : pm G X tyl cl f d' mj 0 (pm_ent (pm_max G mj) vs) [] w = some (r1, w1, c1, n1))
    (F : pm_Fx D cl cA tyl Tb nws aos y cd G X sts srs b mi p s m args meth c) (hls : lsR.size = pm_max G mi) (hP : va_P D cl (pm_ws cA b w) H) (hS : va_S (fun q => b.1 ≤ q) s.heap H locs) (hz : H.size = b.1 + w.length) (hRf : d + 1 ≤ R.frames) (hRl : 64 * (d + 1) ≤ R.locals) (hf : cells + c1 ≤ R.cells ∧ slots + n1 ≤ R.slots) :
    va_Run p l e R s m args below meth c H locs cells slots c1 n1 (F0 m pc lsR (st.map (pm_v b))) (st'.map (pm_v b)) (pm_Qc D cl cA b r1 w1 (vs.map (pm_v b)).toArray) (fun q => b.1 ≤ q) := by
  obtain ⟨⟨okD, okC, -, -, -, -, -⟩, hg, hn, okV, okS, okI, -, -, -, -, okH⟩ := hok
  obtain ⟨hx, hb, hr, hml, hown, hts, hlocks, hnm, hK, hbs, hOut⟩ := F
  have hO : pm_Out b X sts srs s H := hOut.kept hS.2.1
  obtain ⟨rfl, hsum, harg, k, n, As, hcal, hAs, hkind⟩ := pm_cll_of h1
  obtain ⟨len, hdg, hlen⟩ := okD mi pc i hd
  have hW : 2 * (F0 m pc lsR (st.map (pm_v b))).monitorRoom + ((st'.map (pm_v b)).map fun v => v.category).sum ≤ 8 := lv_room (by rw [pm_sum_v]; exact hsum)
  have hRm : pm_max G mj ≤ 45 → (pm_rm d' c1 n1).frames + 1 ≤ R.frames ∧ 8 + (pm_max G mj + 11) + (pm_rm d' c1 n1).locals ≤ R.locals := by
    intro h45
    constructor
    · show d' + 1 + 1 ≤ R.frames
      exact hRf
    · show 8 + (pm_max G mj + 11) + 64 * (d' + 1) ≤ R.locals
      omega
  have hLn : (As.map (pm_v b)).length = n := by rw [List.length_map]; exact hAs
  rcases hkind with ⟨rfl, rfl, rfl⟩ | ⟨rv, rfl, rfl, ⟨rfl, hmj, a, rfl⟩ | ⟨rfl, hrc⟩⟩
  · have hlen : len = 3 := hlen.resolve_left (by simp [pm_sz])
    subst hlen
    obtain ⟨⟨hpn, hcode, hini, hdd, h45⟩, hlk, hst⟩ := okS mi pc k mj n hd hcal
    have M := pm_Met ih h2 harg hpn
    have hstk : (F0 m pc lsR ((vs.reverse ++ st').map (pm_v b))).stack = (vs.map (pm_v b)).reverse ++ st'.map (pm_v b) := by
      show (vs.reverse ++ st').map (pm_v b) = _
      rw [List.map_append, List.map_reverse]
    rcases hlk with hlk | ⟨host, hlk⟩
    · exact va_runS (n := n) ⟨hx, hb, hml, hown, hts⟩ M ⟨callB_of n hts (pm_good hg hcode) rfl rfl rfl (hts _ hini) (hts _ hlk) hdd (hRm h45), hts _ hst⟩ ⟨pm_blind hn, pm_pre hn hO hK hz hP⟩ rfl hLn hls hstk hW hdg hf
    · exact va_runSN (n := n) ⟨hx, hb, hml, hown, hts⟩ M ⟨va_cnB n hts (pm_good hg hcode) rfl rfl rfl (hK.2.1 _ hlk) (hts _ hini) hdd (hRm h45), hts _ hst, trivial⟩ ⟨pm_blind hn, pm_pre hn hO hK hz hP⟩ rfl hLn hls hstk hW hdg hf
  · have hlen : len = 3 := hlen.resolve_left (by simp [pm_sz])
    subst hlen
    obtain ⟨⟨hpn, hcode, hini, hdd, h45⟩, hlk, hna, hin, hret⟩ := okI mi pc k mj n hd hcal hmj
    have M := pm_Met ih h2 harg hpn
    have hstk : (F0 m pc lsR ((As.reverse ++ .ref a :: st').map (pm_v b))).stack = (As.map (pm_v b)).reverse ++ .ref (b.1 + a) :: st'.map (pm_v b) := by
      show (As.reverse ++ .ref a :: st').map (pm_v b) = _
      rw [List.map_append, List.map_reverse]
      rfl
    have hw : pm_wd Tb y cd G mj = Cond.code (y mj) (cd mj) (pm_max G mj) none :: Tb := by unfold pm_wd; rw [hret]
    rcases hlk with hlk | ⟨host, hlk⟩
    · exact va_runI (n := n) ⟨hx, hb, hml, hown, hts⟩ M ⟨callB_of n hts (pm_good hg hcode) hw rfl rfl (hts _ hini) (hts _ hlk) hdd (hRm h45), hna, hts _ hin⟩ ⟨pm_blind hn, pm_pre hn hO hK hz hP⟩ rfl hLn hls hstk hW hdg hf
    · exact va_runIN (n := n) ⟨hx, hb, hml, hown, hts⟩ M ⟨va_cnB n hts (pm_good hg hcode) hw rfl rfl (hK.2.1 _ hlk) (hts _ hini) hdd (hRm h45), hna, hts _ hin⟩ ⟨pm_blind hn, pm_pre hn hO hK hz hP⟩ rfl hLn hls hstk hW hdg hf
  · have hlen : len = 3 := hlen.resolve_left (by simp [pm_sz])
    subst hlen
    obtain ⟨⟨hpn, hcode, hini, hdd, h45⟩, hlk, hin, hsel, hhom⟩ := okV mi pc k mj n hd hcal
    have M := pm_Met ih h2 harg hpn
    have hrec : ∃ adr : Nat, pm_v b rv = .ref adr ∧ ∃ cell : Cell, H[adr]? = some cell ∧ cell.vm.isStatics = false ∧ s.vm.findClass (y mj).cls = some cell.cls := by
      unfold pm_rcv at hrc
      split at hrc
      · split at hrc
        · rename_i j _ xs i hX
          have h1000 : pm_hom G mj = 1000 := eq_of_beq hrc
          rcases hhom with ⟨-, hcls⟩ | ⟨q, hq, -⟩
          · obtain ⟨cell, c1, c2, c3, -⟩ := (hO.2.2.1 j xs i hX).2.1
            exact ⟨pm_ad b j, pm_v_some (hO.2.2.1 j xs i hX).1, cell, c1, c2, by rw [hcls]; exact c3⟩
          · have := okH (pm_hom G mj) (by rw [hq]; exact fun z => by cases z)
            omega
        · cases hrc
      · rename_i a
        split at hrc
        · rename_i _ ci fs hwa
          have hci : ci = pm_hom G mj := eq_of_beq hrc
          subst hci
          rcases hhom with ⟨h1000, -⟩ | ⟨⟨C, T, N⟩, hq, hqC⟩
          · have hz0 := (hP a _ (pm_ws_at hwa))
            obtain ⟨q, hq, -⟩ := hz0
            have := okH (pm_hom G mj) (by rw [hq]; exact fun z => by cases z)
            omega
          · have hqC : C = (y mj).cls := hqC
            subst hqC
            exact ⟨b.1 + a, rfl, va_recv (q := ((y mj).cls, T, N)) hK.1 hP hq (pm_ws_at hwa)⟩
        · cases hrc
      · cases hrc
    obtain ⟨adr, hadr, hrec⟩ := hrec
    have hstk : (F0 m pc lsR ((As.reverse ++ rv :: st').map (pm_v b))).stack = (As.map (pm_v b)).reverse ++ .ref adr :: st'.map (pm_v b) := by
      show (As.reverse ++ rv :: st').map (pm_v b) = _
      rw [List.map_append, List.map_reverse, List.map_cons, hadr]
    have hpp := pm_pre (vs := rv :: As) hn hO hK hz hP
    rw [List.map_cons, hadr] at hpp ⊢
    rcases hlk with hlk | ⟨host, hlk⟩
    · exact va_runV (n := n) (C := (y mj).cls) ⟨hx, hb, hml, hown, hts⟩ M ⟨callB_of n hts (pm_good hg hcode) rfl rfl rfl (hts _ hini) (hts _ hlk) hdd (hRm h45), hts _ hin, hts _ hsel⟩ ⟨pm_blind hn, hrec, hpp⟩ rfl hLn hls hstk hW hdg hf
    · exact va_runVN (n := n) (C := (y mj).cls) ⟨hx, hb, hml, hown, hts⟩ M ⟨va_cnB n hts (pm_good hg hcode) rfl rfl rfl (hK.2.1 _ hlk) (hts _ hini) hdd (hRm h45), hts _ hin, hts _ hsel⟩ ⟨pm_blind hn, hrec, hpp⟩ rfl hLn hls hstk hW hdg hf
end PM
