/-! ===== the tape, images ===== -/
def KE (A A' : Nat → List Int32) : Prop := ∀ j : Int, 1690 ≤ j → fr (A' 148) j = fr (A 148) j
theorem KE_refl {A : Nat → List Int32} : KE A A := fun _ _ => rfl
theorem KE_set {A A1 A2 : Nat → List Int32} {i : Int} {v : Int32} (h : KE A A1) (e : A2 = upa A1 148 ((A1 148).set i.toNat v)) (i0 : 0 ≤ i) (i1 : i < 1690) : KE A A2 := by
  intro j hj
  rw [upa_at e, fr_ne i0 (by omega) (by omega)]
  exact h j hj
section MZ9
variable {X : pm_X} {d mi pc : Nat} {ls st : List Value} {wc : pm_W} {f : Nat → Int32} {A : Nat → List Int32} {Q : pm_R → Prop} {x : Int32} {a : Int}
theorem mz_st149 {v : Int32} (hd : pm_dec pg mi pc = some .bastore) (hc : wc.length = 147) (hI : MI f A) (hx : x.toInt = a) (h0 : 0 ≤ a) (h1 : a < 3) (kk : ∀ A' : Nat → List Int32, A' = upa A 149 ((A 149).set a.toNat (vp_nar .boolean v)) → MI f A' → pmE pg X pg_tyl pg_cl d mi (pc + 1) ls st (md wc f A') Q) : pmE pg X pg_tyl pg_cl d mi pc ls (.int v :: .int x :: .ref 149 :: st) (md wc f A) Q :=
  pz_zast hd (md_a149 hc) (mlen_149 hI) hx h0 (by show a < ((3 : Nat) : Int); omega) (md_s149 hc) (kk _ rfl (mi_st hI (by decide) (by decide) (by decide) (by show a.toNat < 3; omega) (nb_rgz v)))
end MZ9
