def pm_rm (d mc ms : Nat) : Room := { frames := d + 1, cells := mc, slots := ms, locals := 64 * (d + 1) }
def pm_wd (Tb : List Cond) (y : Nat → MethodName) (cd : Nat → ByteArray) (G : pm_G) (mi : Nat) : List Cond := .code (y mi) (cd mi) (pm_max G mi) (pm_ret G mi) :: Tb
/-- a method's start: its arguments, the world, the tables -/
def pm_Pc (D : va_G) (cl : List vw_C) (cA : Nat → ClassId) (tyl : List FieldType) (nws : List Cond) (aos : List String) (X : pm_X) (sts : List (String × String × String × Value)) (srs : List (String × Nat × String × Nat)) (b : pm_B) (vs : List Value) (w : pm_W) : Array Value → State → Prop := fun a U => a = (vs.map (pm_v b)).toArray ∧ U.heap.size = b.1 + w.length ∧ va_P D cl (pm_ws cA b w) U.heap ∧ pm_K D cl cA tyl nws aos U ∧ pm_Out b X sts srs U U.heap
/-- a method's end: its answer, the world; nothing below b has changed -/
def pm_Qc (D : va_G) (cl : List vw_C) (cA : Nat → ClassId) (b : pm_B) (r : Option Value) (w : pm_W) : Array Value → State → Outcome → State → Prop := fun _ st oc t => oc = .returned (r.map (pm_v b)) ∧ va_P D cl (pm_ws cA b w) t.heap ∧ va_F (fun q => b.1 ≤ q) st t
def pm_nestOk (w : Cond) : Prop := (∃ a i b n d h, w = .fieldLinkNest a i b n d h) ∨ ∃ a i x h, w = .methodLinkNest a i x h
theorem pm_K.warm {D : va_G} {cl : List vw_C} {cA : Nat → ClassId} {tyl : List FieldType} {nws : List Cond} {aos : List String} (hn : ∀ w ∈ nws, pm_nestOk w) {s U : State} (hW : s.WarmedH U.vm) (h : pm_K D cl cA tyl nws aos s) : pm_K D cl cA tyl nws aos U := by
  refine ⟨h.1.moved hW.alike, fun w hw => ?_, fun C hC => (h.2.2 C hC).moved hW.alike⟩
  rcases hn w hw with ⟨a, i, b, n, d, g, rfl⟩ | ⟨a, i, x, g, rfl⟩
  · exact va_Nw.warmF hW (h.2.1 _ hw)
  · exact va_Nw.warmM hW (h.2.1 _ hw)
theorem pm_K.call {D : va_G} {cl : List vw_C} {cA : Nat → ClassId} {tyl : List FieldType} {nws : List Cond} {aos : List String} (hn : ∀ w ∈ nws, pm_nestOk w) {U V : State} (hv : U.vm = V.vm) (h : pm_K D cl cA tyl nws aos U) : pm_K D cl cA tyl nws aos V := by
  have ha : U.vm.Alike V.vm := by rw [hv]; exact Vm.Alike.refl V.vm
  refine ⟨h.1.moved ha, fun w hw => ?_, fun C hC => (h.2.2 C hC).moved ha⟩
  rcases hn w hw with ⟨a, i, b, n, d, g, rfl⟩ | ⟨a, i, x, g, rfl⟩
  · exact va_Nw.same rfl hv (h.2.1 _ hw)
  · exact va_Nw.same rfl hv (h.2.1 _ hw)
def pm_okM (Tb : List Cond) (y : Nat → MethodName) (cd : Nat → ByteArray) (G : pm_G) (mj n : Nat) : Prop := plainName (y mj).cls = true ∧ Cond.code (y mj) (cd mj) (pm_max G mj) (pm_ret G mj) ∈ Tb ∧ Cond.initialized (y mj).cls ∈ Tb ∧ ((y mj).cls ≠ "java/lang/invoke/MethodHandle" ∧ (y mj).cls ≠ "java/lang/invoke/VarHandle" ∧ (parseMethodDescriptor (y mj).desc).map (fun d => d.parameters.length) = some n) ∧ pm_max G mj ≤ 45
def pm_okL (Tb nws : List Cond) (own : String) (k : Nat) (x : MethodName) : Prop := Cond.methodLink own k x ∈ Tb ∨ ∃ host, Cond.methodLinkNest own k x host ∈ nws
def pm_okV (Tb nws : List Cond) (cl : List vw_C) (y : Nat → MethodName) (cd : Nat → ByteArray) (G : pm_G) : Prop := ∀ mi pc k mj n, pm_dec G mi pc = some (.invokevirtual k) → pm_cal G mi k = some (mj, n) → pm_okM Tb y cd G mj n ∧ pm_okL Tb nws (y mi).cls k (y mj) ∧ Cond.instanceMethod (y mj) ∈ Tb ∧ Cond.selects (y mj).cls (y mj) (y mj) ∈ Tb ∧ ((pm_hom G mj = 1000 ∧ (y mj).cls = "java/lang/String") ∨ ∃ q : vw_C, cl[pm_hom G mj]? = some q ∧ q.1 = (y mj).cls)
def pm_okS (Tb nws : List Cond) (y : Nat → MethodName) (cd : Nat → ByteArray) (G : pm_G) : Prop := ∀ mi pc k mj n, pm_dec G mi pc = some (.invokestatic k) → pm_cal G mi k = some (mj, n) → pm_okM Tb y cd G mj n ∧ pm_okL Tb nws (y mi).cls k (y mj) ∧ Cond.static (y mj) ∈ Tb
def pm_okI (Tb nws : List Cond) (y : Nat → MethodName) (cd : Nat → ByteArray) (G : pm_G) : Prop := ∀ mi pc k mj n, pm_dec G mi pc = some (.invokespecial k) → pm_cal G mi k = some (mj, n) → mj ≠ 0 → pm_okM Tb y cd G mj n ∧ pm_okL Tb nws (y mi).cls k (y mj) ∧ (y mj).name = "<init>" ∧ Cond.instanceMethod (y mj) ∈ Tb ∧ pm_ret G mj = none
def pm_okO (Tb : List Cond) (y : Nat → MethodName) (G : pm_G) : Prop := ∀ mi pc k n, pm_dec G mi pc = some (.invokespecial k) → pm_cal G mi k = some (0, n) → Cond.methodLink (y mi).cls k objectInit ∈ Tb ∧ Cond.instanceMethod objectInit ∈ Tb ∧ Cond.code objectInit ⟨#[0xb1]⟩ 1 none ∈ Tb
def pm_okN (Tb : List Cond) (cl : List vw_C) (y : Nat → MethodName) (G : pm_G) : Prop := ∀ mi k ci fs, pm_new G mi k = some (ci, fs) → ∃ q : vw_C, cl[ci]? = some q ∧ Cond.classLink (y mi).cls k q.1 ∈ Tb ∧ Cond.instantiable q.1 q.2.2 ∈ Tb ∧ Cond.initialized q.1 ∈ Tb ∧ fs.length = q.2.2 ∧ ∀ j, j < q.2.2 → (parseFieldDescriptor (q.2.1 j).2.2.1).map defaultValue = some (vp_V fs j)
def pm_okA (Tb : List Cond) (tyl : List FieldType) (aos : List String) (y : Nat → MethodName) (G : pm_G) : Prop := (∀ mi pc a, pm_dec G mi pc = some (.newarray a) → Cond.arrayClass (newarray.typeOf a) ∈ Tb) ∧ ∀ mi k t, pm_anw G mi k = some t → ∃ C, tyl[t]? = some (.object C) ∧ Cond.classLink (y mi).cls k C ∈ Tb ∧ C ∈ aos
/-- all of it -/
def pm_ok (Tb nws : List Cond) (aos : List String) (tyl : List FieldType) (cl : List vw_C) (y : Nat → MethodName) (cd : Nat → ByteArray) (G : pm_G) (sts : List (String × String × String × Value)) (srs : List (String × Nat × String × Nat)) : Prop :=
  (pm_okD cd G ∧ pm_okC Tb cl ∧ pm_okG Tb nws cl y G ∧ pm_okP Tb nws cl y G ∧ pm_okK Tb y G ∧ tyl[0]? = some .int ∧ tyl[1]? = some .byte ∧ tyl[2]? = some .boolean) ∧
  (∀ w ∈ Tb, goodWord w = true) ∧ (∀ w ∈ nws, pm_nestOk w) ∧ pm_okV Tb nws cl y cd G ∧ pm_okS Tb nws y cd G ∧ pm_okI Tb nws y cd G ∧ pm_okO Tb y G ∧ pm_okN Tb cl y G ∧ pm_okA Tb tyl aos y G ∧ (pm_okT Tb nws sts y G ∧ pm_okR srs y G ∧ pm_okU Tb y G ∧ pm_okY Tb y G) ∧ ∀ ci, cl[ci]? ≠ none → ci < 1000
section PM
variable {G : pm_G} {tyl : List FieldType} {cl : List vw_C} {D : va_G} {cA : Nat → ClassId} {b : pm_B} {Tb nws : List Cond} {aos : List String} {y : Nat → MethodName} {cd : Nat → ByteArray} {X : pm_X} {sts : List (String × String × String × Value)} {srs : List (String × Nat × String × Nat)}
variable {p : Program} {l : Launch} {e : Env} {R : Room} {s : State} {m : MethodId} {args : Array Value} {below : List Frame} {meth : Method} {c : Code} {H : Heap} {locs : List Loc} {cells slots : Nat} {Q : State → Prop}
theorem pm_hs {g : JFrame} (k : H.size ≤ s.heap.size + cells → W p l e R s m args below meth c H locs cells slots Q g) : W p l e R s m args below meth c H locs cells slots Q g :=
  fun T hT X => k (by rw [← hT]; exact X.heapSize) T hT X
theorem pm_size {w : pm_W} (hP : va_P D cl (pm_ws cA b w) H) (hS : va_S (fun q => b.1 ≤ q) s.heap H locs) (hbs : b.1 ≤ s.heap.size) (hc : s.heap.size + cells = b.1 + w.length) (h : H.size ≤ s.heap.size + cells) : H.size = b.1 + w.length := by
  have h1 := hS.1
  cases hw : w.length with
  | zero => rw [hw] at hc; omega
  | succ n =>
    have hn : n < w.length := by omega
    have h2 := (hP n _ (pm_ws_at (List.getElem?_eq_getElem hn))).lt
    have h2 : b.1 + n < H.size := h2
    omega
/-- the cell that is made lies behind all others -/
theorem pm_newq {w : pm_W} {q : Nat} {E : va_E} {H1 : Heap} (hP : va_P D cl (pm_ws cA b w ++ [(q, E)]) H1) (hD : va_D (fun x => b.1 ≤ x) (pm_ws cA b w ++ [(q, E)])) (hz : H1.size ≤ b.1 + w.length + 1) : q = b.1 + w.length := by
  have hl : (pm_ws cA b w).length = w.length := pm_ws_len cA b w
  have hq : (pm_ws cA b w ++ [(q, E)])[w.length]? = some (q, E) := by
    rw [List.getElem?_append_right (by omega), hl, Nat.sub_self]
    rfl
  have h1 : q < H1.size := (hP _ _ hq).lt
  have h2 : b.1 ≤ q := hD.2 _ _ hq
  rcases Nat.lt_or_ge q (b.1 + w.length) with h3 | h3
  · have hn : q - b.1 < w.length := by omega
    have h4 : (pm_ws cA b w ++ [(q, E)])[q - b.1]? = some (b.1 + (q - b.1), pm_e cA b w[q - b.1]) := by
      rw [List.getElem?_append_left (by omega)]
      exact pm_ws_at (List.getElem?_eq_getElem hn)
    have h5 := hD.1 _ _ _ _ h4 hq (show b.1 + (q - b.1) = q by omega)
    omega
  · omega
theorem pm_call {pc : Nat} {lsR : Array Slot} {st0 rest : List Value} {r : Option Value} {w' : pm_W} {a : Array Value} {mc ms : Nat} (hr : va_Run p l e R s m args below meth c H locs cells slots mc ms (F0 m pc lsR st0) rest (pm_Qc D cl cA b r w' a) (fun q => b.1 ≤ q)) (hS : va_S (fun q => b.1 ≤ q) s.heap H locs)
    (kk : ∀ (H1 : Heap) (locs1 : List Loc), va_P D cl (pm_ws cA b w') H1 → va_S (fun q => b.1 ≤ q) s.heap H1 locs1 → W p l e R s m args below meth c H1 locs1 (cells + mc) (slots + ms) Q (F0 m (pc + 3) lsR ((r.map (pm_v b)).toList ++ rest))) : W p l e R s m args below meth c H locs cells slots Q (F0 m pc lsR st0) := by
  intro T hT X
  obtain ⟨v, st₀, t, T', L, h0, X', hL, e1, e2, ⟨hv, hp, hz, hk⟩, st⟩ := hr T hT X
  cases hv
  rw [h0] at hz hk
  obtain ⟨t2, a1, b1⟩ := kk T'.heap (locs ++ L) (by rw [e1]; exact hp)
    ⟨Nat.le_trans hS.1 (by rw [e1]; exact hz), fun q h1 h2 => by rw [e1, hk q (Nat.lt_of_lt_of_le h1 hS.1) h2]; exact hS.2.1 q h1 h2, fun q hq => by
      rcases List.mem_append.mp hq with h | h
      · exact hS.2.2 q h
      · exact hL q h⟩ T' rfl X'
  exact ⟨t2, st t2 a1, b1⟩
end PM
