section
variable {G : xG} {X : xX} {Q : State → Prop} {nL : Nat} {rm : Room} {own : String} {cc : ByteArray} {ρ : Nm → Nat} {σ : PH} {k n pc : Nat} {L : List (Nat × Value)} {st : List Value}
/-- 'new': a name that nothing has yet, and an address -/
theorem x_new (hC : xC G X own cc nL rm) {ci idx : Nat} {C : String} {T : u_T} {N : Nat} (n0 : Nm) (hz : hK σ n0 = 0) (hc : vwCl[ci]? = some (C, T, N)) (hdef : ∀ (ty : Nat → FieldType), (∀ k, k < N → parseFieldDescriptor (T k).2.2.1 = some (ty k)) → ∀ j, j < N → defaultValue (ty j) = if xRef (ci + 1) j = true then .null else .int 0) (w1 : Cond.classLink own idx C ∈ T0) (w2 : Cond.instantiable C N ∈ T0) (w3 : Cond.initialized C ∈ T0) (h1 : k + 1 ≤ rm.cells) (h2 : n + N ≤ rm.slots) (d : decode cc pc = .ok (.new idx, 3))
    (kk : ∀ ρ' : Nm → Nat, (∀ m, hK σ m ≠ 0 → ρ' m = ρ m) → xJ G X Q nL ρ' (sN σ n0 (ci + 1) 0) (k + 1) (n + N) (pc + 3) L (.ref (ρ' n0) :: st)) : xJ G X Q nL ρ σ k n pc L st := by
  obtain ⟨p, l, e, R, s, m, args, below, meth, c, σ0, ρ0⟩ := X
  obtain ⟨hx, hb, hml, hown, hts, hE, hlk, hst, hR⟩ := hC
  intro H locs ls hH hlo
  subst hR
  have hKn := hE.1.1 ci _ hc
  obtain ⟨g1, ⟨ty, g2⟩, g3, g4⟩ := xcl hc
  have hGH : G.1 ≤ H.size := Nat.le_trans hE.2.2.2.2.2.2.2.1 hH.2.1.1
  refine W.newcK hx hb hown (hts _ w1) (hts _ w2) (hts _ w3) rfl d h1 h2 hKn.2.1 rfl fun H1 kC hkC e1 z1 o1 => ?_
  obtain ⟨ρ', e0, hne⟩ : ∃ ρ' : Nm → Nat, ρ' n0 = H.size ∧ ∀ m, hK σ m ≠ 0 → ρ' m = ρ m := ⟨fun m => if m = n0 then H.size else ρ m, if_pos rfl, fun m hm => if_neg (fun q => hm (by rw [q]; exact hz))⟩
  have hob := u_born ty hts g1 hKn hkC e1 g2
  refine W.eq (g2 := F0 m (pc + 3) ls (.ref H.size :: st)) rfl ?_
  rw [← e0]
  refine kk ρ' hne H1 locs ls ⟨hH.1.new (kd := ci + 1) (len := 0) hz rfl hGH e0 hne (by omega) ?_ o1, ⟨Nat.le_trans hH.2.1.1 (by omega), fun x q1 q2 => (o1 x (Nat.lt_of_lt_of_le q1 hH.2.1.1)).trans (hH.2.1.2.1 x q1 q2), hH.2.1.2.2⟩, hH.2.2.new hz hne⟩ hlo
  have hkn : hK (sN σ n0 (ci + 1) 0) n0 = ci + 1 := by rw [hK_sN, if_pos rfl]
  unfold xat
  rw [hkn, if_pos (by omega)]
  refine ⟨(C, T, N), hc, ?_⟩
  rw [e0]
  refine t_OB.to hob (fun j hj => ?_)
  rw [hdef ty g2 j hj]
  unfold xV
  rw [hkn]
  cases hr : xRef (ci + 1) j
  · simp [hI_sN]
  · simp [hR_sN, rv_none]
theorem x_newa {kd : Nat} (hkd : kd = 9 ∨ kd = 10) (hC : xC G X own cc nL rm) {v : Int32} {N : Nat} (n0 : Nm) (hz : hK σ n0 = 0) (at9 : ArrayType) (hat : newarray.typeOf at9 = xTy kd) (hv : v = nI N) (hN : N < 2 ^ 20) (w1 : Cond.arrayClass (newarray.typeOf at9) ∈ T0) (h1 : k + 1 ≤ rm.cells) (h2 : n + N ≤ rm.slots) (d : decode cc pc = .ok (.newarray at9, 2))
    (kk : ∀ ρ' : Nm → Nat, (∀ m, hK σ m ≠ 0 → ρ' m = ρ m) → xJ G X Q nL ρ' (sN σ n0 kd N) (k + 1) (n + N) (pc + 2) L (.ref (ρ' n0) :: st)) : xJ G X Q nL ρ σ k n pc L (.int v :: st) := by
  obtain ⟨p, l, e, R, s, m, args, below, meth, c, σ0, ρ0⟩ := X
  obtain ⟨hx, hb, hml, hown, hts, hE, hlk, hst, hR⟩ := hC
  intro H locs ls hH hlo
  subst hR
  have hGH : G.1 ≤ H.size := Nat.le_trans hE.2.2.2.2.2.2.2.1 hH.2.1.1
  have hcb : componentBytes (xTy kd) ≤ 8 := by rcases hkd with rfl | rfl <;> decide
  refine va_newaK hx hb (hts _ w1) (g := F0 m pc ls (.int v :: st)) rfl d (n := v) (N := N) rfl (by rw [hv]; exact nI_pos (by omega)) (by rw [hv]; exact nI_clamp (by omega)) (by rw [hat]; exact Nat.le_trans (Nat.mul_le_mul (Nat.le_of_lt hN) hcb) (by decide)) h1 h2 rfl fun H1 cA e1 z1 o1 hAr hNm => ?_
  obtain ⟨ρ', e0, hne⟩ : ∃ ρ' : Nm → Nat, ρ' n0 = H.size ∧ ∀ m, hK σ m ≠ 0 → ρ' m = ρ m := ⟨fun m => if m = n0 then H.size else ρ m, if_pos rfl, fun m hm => if_neg (fun q => hm (by rw [q]; exact hz))⟩
  have hcA : cA = G.2.2.2.1 kd := by
    rw [hat] at hNm
    rcases hkd with rfl | rfl
    · exact Option.some.inj (hNm.symm.trans (hE.1.2 0 _ rfl).2)
    · exact Option.some.inj (hNm.symm.trans (hE.1.2 1 _ rfl).2)
  refine W.eq (g2 := F0 m (pc + 2) ls (.ref H.size :: st)) rfl ?_
  rw [← e0]
  refine kk ρ' hne H1 locs ls ⟨hH.1.new (kd := kd) (len := N) hz rfl hGH e0 hne (by omega) ?_ o1, ⟨Nat.le_trans hH.2.1.1 (by omega), fun x q1 q2 => (o1 x (Nat.lt_of_lt_of_le q1 hH.2.1.1)).trans (hH.2.1.2.1 x q1 q2), hH.2.1.2.2⟩, hH.2.2.new hz hne⟩ hlo
  have hkn : hK (sN σ n0 kd N) n0 = kd := by rw [hK_sN, if_pos rfl]
  have hln : hL (sN σ n0 kd N) n0 = N := by rw [hL_sN, if_pos rfl]
  have hin : hI (sN σ n0 kd N) n0 = fun _ => 0 := by funext j; rw [hI_sN, if_pos rfl]
  have hjn : hJ (sN σ n0 kd N) n0 = fun _ => 0 := by funext j; rw [hJ_sN, if_pos rfl]
  unfold xat
  rw [hkn, if_neg (by omega), e0, e1, ← hcA, hat]
  rcases hkd with rfl | rfl
  · rw [xc_i (by omega), hln, hin]; rfl
  · rw [xc_i (by omega), hln, hin]; rfl
theorem x_newq {kd : Nat} {C : String} (hkd : kd = 11 ∧ C = "PlantServer$Item" ∨ kd = 12 ∧ C = "PlantServer$Message" ∨ kd = 13 ∧ C = "PlantServer$Subscription") (hC : xC G X own cc nL rm) {v : Int32} {N idx : Nat} (n0 : Nm) (hz : hK σ n0 = 0) (hv : v = nI N) (hN : N < 2 ^ 20) (w1 : Cond.classLink own idx C ∈ T0) (h1 : k + 1 ≤ rm.cells) (h2 : n + N ≤ rm.slots) (d : decode cc pc = .ok (.anewarray idx, 3))
    (kk : ∀ ρ' : Nm → Nat, (∀ m, hK σ m ≠ 0 → ρ' m = ρ m) → xJ G X Q nL ρ' (sN σ n0 kd N) (k + 1) (n + N) (pc + 3) L (.ref (ρ' n0) :: st)) : xJ G X Q nL ρ σ k n pc L (.int v :: st) := by
  obtain ⟨p, l, e, R, s, m, args, below, meth, c, σ0, ρ0⟩ := X
  obtain ⟨hx, hb, hml, hown, hts, hE, hlk, hst, hR⟩ := hC
  intro H locs ls hH hlo
  subst hR
  have hGH : G.1 ≤ H.size := Nat.le_trans hE.2.2.2.2.2.2.2.1 hH.2.1.1
  have hao : va_AO C s := hE.2.2.2.2.2.2.1 C (by rcases hkd with ⟨-, rfl⟩ | ⟨-, rfl⟩ | ⟨-, rfl⟩ <;> simp)
  refine W.anew hx hb hown (hts _ w1) (va_AO.use hao) (g := F0 m pc ls (.int v :: st)) rfl d (n := v) rfl (by rw [hv]; exact nI_pos (by omega)) (by rw [hv, nI_clamp (by omega)]; omega) h1 (by rw [hv, nI_clamp (by omega)]; exact h2) fun cA kA comp f1 f2 f3 f4 => ?_
  obtain ⟨ρ', e0, hne⟩ : ∃ ρ' : Nm → Nat, ρ' n0 = H.size ∧ ∀ m, hK σ m ≠ 0 → ρ' m = ρ m := ⟨fun m => if m = n0 then H.size else ρ m, if_pos rfl, fun m hm => if_neg (fun q => hm (by rw [q]; exact hz))⟩
  have hvN : v.toNatClampNeg = N := by rw [hv]; exact nI_clamp (by omega)
  rw [hvN]
  generalize hH1 : H.push ({ cls := cA, slots := Array.replicate N .null, vm := .none } : Cell) = H1
  have z1 : H1.size = H.size + 1 := by rw [← hH1, Array.size_push]
  have e1 : H1[H.size]? = some (arrV cA N (fun _ => .null)) := by rw [← hH1, Array.getElem?_push_size, ← arrV_new]
  have o1 : ∀ q : Nat, q < H.size → H1[q]? = H[q]? := fun q hq => by rw [← hH1, Array.getElem?_push, if_neg (Nat.ne_of_lt hq)]
  have hcA : cA = G.2.2.2.1 kd := by
    rcases hkd with ⟨rfl, rfl⟩ | ⟨rfl, rfl⟩ | ⟨rfl, rfl⟩
    · obtain ⟨kA', comp', -, -, -, k4⟩ := (hE.1.2 2 _ rfl).2
      exact Option.some.inj (f1.symm.trans k4)
    · obtain ⟨kA', comp', -, -, -, k4⟩ := (hE.1.2 3 _ rfl).2
      exact Option.some.inj (f1.symm.trans k4)
    · obtain ⟨kA', comp', -, -, -, k4⟩ := (hE.1.2 4 _ rfl).2
      exact Option.some.inj (f1.symm.trans k4)
  refine W.eq (g2 := F0 m (pc + 3) ls (.ref H.size :: st)) rfl ?_
  rw [← e0]
  have hkk : 11 ≤ kd ∧ kd ≤ 13 := by rcases hkd with ⟨rfl, -⟩ | ⟨rfl, -⟩ | ⟨rfl, -⟩ <;> decide
  refine kk ρ' hne H1 locs ls ⟨hH.1.new (kd := kd) (len := N) hz rfl hGH e0 hne (by omega) ?_ o1, ⟨Nat.le_trans hH.2.1.1 (by omega), fun x q1 q2 => (o1 x (Nat.lt_of_lt_of_le q1 hH.2.1.1)).trans (hH.2.1.2.1 x q1 q2), hH.2.1.2.2⟩, hH.2.2.new hz hne⟩ hlo
  have hkn : hK (sN σ n0 kd N) n0 = kd := by rw [hK_sN, if_pos rfl]
  have hln : hL (sN σ n0 kd N) n0 = N := by rw [hL_sN, if_pos rfl]
  unfold xat
  rw [hkn, if_neg (by omega), e0, e1, ← hcA]
  rw [xc_q (by omega) (by omega), hln, vp_cell_q]
  congr 2
  funext j
  rw [hR_sN, if_pos rfl]
  rfl
end
