theorem rv_cat {ρ : Nm → Nat} {o : Option Nm} : (rv ρ o).category = 1 := by cases o <;> rfl
theorem sN_c {σ : PH} {n : Nm} {k len : Nat} : hK (sN σ n k len) n = k := by rw [hK_sN, if_pos rfl]
theorem sN_k {σ : PH} {c n : Nm} {kd len k : Nat} (hz : hK σ c = 0) (h : hK σ n = k) (h0 : k ≠ 0) : hK (sN σ c kd len) n = k := by
  rw [hK_sN, if_neg (fun q => h0 (by rw [← h, q]; exact hz))]; exact h
section
variable {G : xG} {X : xX} {Q : State → Prop} {nL : Nat} {rm : Room} {own : String} {cc : ByteArray} {ρ : Nm → Nat} {σ : PH} {k n pc : Nat} {L : List (Nat × Value)} {st : List Value}
theorem xJ.nmH (kk : ∀ σ' : PH, σ' = σ → xJ G X Q nL ρ σ' k n pc L st) : xJ G X Q nL ρ σ k n pc L st := kk σ rfl
theorem xJ.nmT {v : Int32} (kk : ∀ y : Int32, y = v → xJ G X Q nL ρ σ k n pc L (.int y :: st)) : xJ G X Q nL ρ σ k n pc L (.int v :: st) := kk v rfl
theorem xJ.nrm {k' n' pc' : Nat} {st' : List Value} (h1 : k = k') (h2 : n = n') (h3 : pc = pc') (h4 : st = st') (kk : xJ G X Q nL ρ σ k' n' pc' L st') : xJ G X Q nL ρ σ k n pc L st := by subst h1; subst h2; subst h3; subst h4; exact kk
theorem x_cases20 (x : Int32) : x = 0 ∨ x = 1 ∨ x = 2 ∨ x = 3 ∨ x = 4 ∨ x = 5 ∨ x = 6 ∨ x = 7 ∨ x = 8 ∨ x = 9 ∨ x = 10 ∨ x = 11 ∨ x = 12 ∨ x = 13 ∨ x = 14 ∨ x = 15 ∨ x = 16 ∨ x = 17 ∨ x = 18 ∨ x = 19 ∨ x = 20 ∨ ((∀ j : Nat, j ≤ 20 → ¬ x = nI j) ∧ (x.toInt < 0 ∨ 20 < x.toInt)) := by
  by_cases h : 0 ≤ x.toInt ∧ x.toInt ≤ 20
  · obtain ⟨j, hj, e⟩ : ∃ j : Nat, j ≤ 20 ∧ x = nI j := ⟨x.toInt.toNat, by omega, Int32.toInt_inj.mp (by rw [nI_toInt (by omega)]; omega)⟩
    have hj' : j = 0 ∨ j = 1 ∨ j = 2 ∨ j = 3 ∨ j = 4 ∨ j = 5 ∨ j = 6 ∨ j = 7 ∨ j = 8 ∨ j = 9 ∨ j = 10 ∨ j = 11 ∨ j = 12 ∨ j = 13 ∨ j = 14 ∨ j = 15 ∨ j = 16 ∨ j = 17 ∨ j = 18 ∨ j = 19 ∨ j = 20 := by omega
    subst e
    rcases hj' with rfl | rfl | rfl | rfl | rfl | rfl | rfl | rfl | rfl | rfl | rfl | rfl | rfl | rfl | rfl | rfl | rfl | rfl | rfl | rfl | rfl <;> decide
  · have h9 : (∀ j : Nat, j ≤ 20 → ¬ x = nI j) ∧ (x.toInt < 0 ∨ 20 < x.toInt) := ⟨fun j hj e => h (by rw [e, nI_toInt (by omega)]; omega), by omega⟩
    exact Or.inr (Or.inr (Or.inr (Or.inr (Or.inr (Or.inr (Or.inr (Or.inr (Or.inr (Or.inr (Or.inr (Or.inr (Or.inr (Or.inr (Or.inr (Or.inr (Or.inr (Or.inr (Or.inr (Or.inr (Or.inr h9))))))))))))))))))))
theorem x_tabIn (hC : xC G X own cc nL rm) {dflt lo hi : Int} {offs : Array Int} {len : Nat} {x : Int32} {off : Int} {tgt : Nat} (j : Nat) {v : Int32} (he : x = v) (d : decode cc pc = .ok (.tableswitch dflt lo hi offs, len)) (h1 : ¬ v.toInt < lo) (h2 : ¬ hi < v.toInt) (ho : offs[(v.toInt - lo).toNat]? = some off) (ht : (pc : Int) + off = (tgt : Int)) (kk : xJ G X Q nL ρ σ k n tgt L st) : xJ G X Q nL ρ σ k n pc L (.int x :: st) := by
  subst he
  obtain ⟨p, l, e, R, s, m, args, below, meth, c, σ0, ρ0⟩ := X
  obtain ⟨hx, hb, -⟩ := hC
  intro H locs ls hH hl
  exact lv_tableIn hx hb d h1 h2 ho ht (kk H locs ls hH hl)
theorem x_tabOut (hC : xC G X own cc nL rm) {dflt lo hi : Int} {offs : Array Int} {len : Nat} {x : Int32} {tgt : Nat} (h : x.toInt < lo ∨ hi < x.toInt) (d : decode cc pc = .ok (.tableswitch dflt lo hi offs, len)) (ht : (pc : Int) + dflt = (tgt : Int)) (kk : xJ G X Q nL ρ σ k n tgt L st) : xJ G X Q nL ρ σ k n pc L (.int x :: st) := by
  obtain ⟨p, l, e, R, s, m, args, below, meth, c, σ0, ρ0⟩ := X
  obtain ⟨hx, hb, -⟩ := hC
  intro H locs ls hH hl
  exact lv_tableOut hx hb d h ht (kk H locs ls hH hl)
/-- the law's script, no cell of ours -/
def xScr (G : xG) (X : xX) (b Lx : Nat) (xs : Nat → Int32) : Prop := va_X b Lx xs X.2.2.2.2.1 X.2.2.2.2.1.heap ∧ b < X.2.2.2.2.1.heap.size ∧ ¬ xA G b
theorem xC.scr (hC : xC G X own cc nL rm) : xScr G X (gb G) (gL G) (gx G) := by
  obtain ⟨p, l, e, R, s, m, args, below, meth, c, σ0, ρ0⟩ := X
  obtain ⟨hx, hb, hml, hown, hts, hE, -⟩ := hC
  exact ⟨hE.2.2.2.2.2.2.2.2.1, Nat.lt_of_lt_of_le hE.2.2.2.2.2.2.2.2.2 hE.2.2.2.2.2.2.2.1, Nat.not_le.mpr hE.2.2.2.2.2.2.2.2.2⟩
theorem x_sld (hC : xC G X own cc nL rm) {b Lx : Nat} {xs : Nat → Int32} (hS : xScr G X b Lx xs) {i : Int32} (hin : vp_in i Lx) (d : decode cc pc = .ok (.iaload, 1)) (kk : xJ G X Q nL ρ σ k n (pc + 1) L (.int (xs i.toNatClampNeg) :: st)) : xJ G X Q nL ρ σ k n pc L (.int i :: .ref b :: st) := by
  obtain ⟨p, l, e, R, s, m, args, below, meth, c, σ0, ρ0⟩ := X
  obtain ⟨hx, hb, -⟩ := hC
  intro H locs ls hH hl
  exact va_sld hx hb hS.1 hS.2.1 hS.2.2 hH.2.1 hin d (kk H locs ls hH hl)
theorem x_slen (hC : xC G X own cc nL rm) {b Lx : Nat} {xs : Nat → Int32} (hS : xScr G X b Lx xs) (d : decode cc pc = .ok (.arraylength, 1)) (kk : xJ G X Q nL ρ σ k n (pc + 1) L (.int (nI Lx) :: st)) : xJ G X Q nL ρ σ k n pc L (.ref b :: st) := by
  obtain ⟨p, l, e, R, s, m, args, below, meth, c, σ0, ρ0⟩ := X
  obtain ⟨hx, hb, -⟩ := hC
  intro H locs ls hH hl
  exact va_slen hx hb hS.1 hS.2.1 hS.2.2 hH.2.1 d (kk H locs ls hH hl)
end
theorem xpass1 {own E n1 : String} {i1 a1 b1 c1 : Nat} (w1 : Cond.classLink own i1 n1 ∈ T0) (h1 : i1 ≠ 0) (g1 : (E, n1) ∈ xNcs) : ∀ z ∈ [(a1, b1, c1, i1)], z.2.2.2 ≠ 0 ∧ ∃ nm, Cond.classLink own z.2.2.2 nm ∈ T0 ∧ (E, nm) ∈ xNcs := by
  intro z hz
  rw [List.mem_singleton] at hz
  subst hz
  exact ⟨h1, n1, w1, g1⟩
theorem xpass2 {own E n1 n2 : String} {i1 i2 a1 b1 c1 a2 b2 c2 : Nat} (w1 : Cond.classLink own i1 n1 ∈ T0) (h1 : i1 ≠ 0) (g1 : (E, n1) ∈ xNcs ∧ (E, n2) ∈ xNcs) (w2 : Cond.classLink own i2 n2 ∈ T0) (h2 : i2 ≠ 0) : ∀ z ∈ [(a1, b1, c1, i1), (a2, b2, c2, i2)], z.2.2.2 ≠ 0 ∧ ∃ nm, Cond.classLink own z.2.2.2 nm ∈ T0 ∧ (E, nm) ∈ xNcs := by
  intro z hz
  rw [List.mem_cons, List.mem_singleton] at hz
  rcases hz with rfl | rfl
  · exact ⟨h1, n1, w1, g1.1⟩
  · exact ⟨h2, n2, w2, g1.2⟩
theorem t1_of {w : Cond} (h : w ∈ lw_tbl) (g : isCD w = true) : w ∈ T1 := List.mem_filter.mpr ⟨h, g⟩
theorem xcast_xIO : Cond.castable xIO "java/lang/IndexOutOfBoundsException" ∈ T1 := t1_of (by decide +kernel) rfl
theorem xcast_xIA : Cond.castable xIA "java/lang/IllegalArgumentException" ∈ T1 := t1_of (by decide +kernel) rfl
theorem xcast_xIS : Cond.castable xIS "java/lang/IllegalStateException" ∈ T1 := t1_of (by decide +kernel) rfl
theorem xcast_xNE : Cond.castable xNE "java/util/NoSuchElementException" ∈ T1 := t1_of (by decide +kernel) rfl
theorem qn_0 : Cond.methodLinkNest "PlantServer" 30 ⟨"PlantServer$History", "<init>", "()V"⟩ "PlantServer" ∈ T1 := t1_of (by decide +kernel) rfl
theorem qn_2 : Cond.methodLinkNest "PlantServer$Subscription" 104 ⟨"PlantServer$Message", "<init>", "()V"⟩ "PlantServer" ∈ T1 := t1_of (by decide +kernel) rfl
theorem xhat_xIO : ∀ w ∈ vx_atS "PlantServer" 189 xIO xNs, w ∈ lw_tbl ∧ (goodWord w || isCD w) = true := by decide +kernel
theorem xhat_xIA : ∀ w ∈ vx_atS "PlantServer" 113 xIA xNs, w ∈ lw_tbl ∧ (goodWord w || isCD w) = true := by decide +kernel
theorem xhat_xIS : ∀ w ∈ vx_atS "PlantServer" 63 xIS xNs, w ∈ lw_tbl ∧ (goodWord w || isCD w) = true := by decide +kernel
theorem xgood_xIO : ∀ w ∈ Cond.classLink "PlantServer" 185 xIO :: Cond.initialized xIO :: vx_atS "PlantServer" 189 xIO xNs, vx_ot w = true := by decide +kernel
theorem xgood_xIA : ∀ w ∈ Cond.classLink "PlantServer" 109 xIA :: Cond.initialized xIA :: vx_atS "PlantServer" 113 xIA xNs, vx_ot w = true := by decide +kernel
theorem xgood_xIS : ∀ w ∈ Cond.classLink "PlantServer" 59 xIS :: Cond.initialized xIS :: vx_atS "PlantServer" 63 xIS xNs, vx_ot w = true := by decide +kernel
theorem xdf_of {ci N : Nat} {T : u_T} {tyX : Nat → FieldType} (h1 : ∀ k, k < N → parseFieldDescriptor (T k).2.2.1 = some (tyX k)) (h2 : ∀ j, j < N → defaultValue (tyX j) = if xRef (ci + 1) j = true then .null else .int 0) : ∀ (ty : Nat → FieldType), (∀ k, k < N → parseFieldDescriptor (T k).2.2.1 = some (ty k)) → ∀ j, j < N → defaultValue (ty j) = if xRef (ci + 1) j = true then .null else .int 0 := by
  intro ty h j hj
  rw [show ty j = tyX j from Option.some.inj ((h j hj).symm.trans (h1 j hj))]
  exact h2 j hj
theorem xdf0 : ∀ (ty : Nat → FieldType), (∀ k, k < 4 → parseFieldDescriptor (TX0 k).2.2.1 = some (ty k)) → ∀ j, j < 4 → defaultValue (ty j) = if xRef (0 + 1) j = true then .null else .int 0 := xdf_of tyX0_ok (by decide +kernel)
theorem xdf1 : ∀ (ty : Nat → FieldType), (∀ k, k < 12 → parseFieldDescriptor (TX1 k).2.2.1 = some (ty k)) → ∀ j, j < 12 → defaultValue (ty j) = if xRef (1 + 1) j = true then .null else .int 0 := xdf_of tyX1_ok (by decide +kernel)
theorem xdf2 : ∀ (ty : Nat → FieldType), (∀ k, k < 5 → parseFieldDescriptor (TX2 k).2.2.1 = some (ty k)) → ∀ j, j < 5 → defaultValue (ty j) = if xRef (2 + 1) j = true then .null else .int 0 := xdf_of tyX2_ok (by decide +kernel)
theorem xdf3 : ∀ (ty : Nat → FieldType), (∀ k, k < 5 → parseFieldDescriptor (TX3 k).2.2.1 = some (ty k)) → ∀ j, j < 5 → defaultValue (ty j) = if xRef (3 + 1) j = true then .null else .int 0 := xdf_of tyX3_ok (by decide +kernel)
theorem xdf4 : ∀ (ty : Nat → FieldType), (∀ k, k < 14 → parseFieldDescriptor (TX4 k).2.2.1 = some (ty k)) → ∀ j, j < 14 → defaultValue (ty j) = if xRef (4 + 1) j = true then .null else .int 0 := xdf_of tyX4_ok (by decide +kernel)
theorem xdf5 : ∀ (ty : Nat → FieldType), (∀ k, k < 2 → parseFieldDescriptor (TX5 k).2.2.1 = some (ty k)) → ∀ j, j < 2 → defaultValue (ty j) = if xRef (5 + 1) j = true then .null else .int 0 := xdf_of tyX5_ok (by decide +kernel)
theorem xdf6 : ∀ (ty : Nat → FieldType), (∀ k, k < 9 → parseFieldDescriptor (TX6 k).2.2.1 = some (ty k)) → ∀ j, j < 9 → defaultValue (ty j) = if xRef (6 + 1) j = true then .null else .int 0 := xdf_of tyX6_ok (by decide +kernel)
