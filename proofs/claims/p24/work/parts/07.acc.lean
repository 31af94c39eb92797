section
variable {G : xG} {ρ : Nm → Nat} {σ : PH} {n0 : Nm} {j : Nat}
theorem xV_sI {v : Int32} (hr : xRef (hK σ n0) j = false) (i : Nat) : updV (xV ρ σ n0) j (.int v) i = xV ρ (sI σ n0 j v) n0 i := by
  unfold updV xV
  rw [hK_sI, hR_sI]
  by_cases h : i = j
  · subst h
    simp [hr, hI_sI]
  · simp [h, hI_sI]
theorem xV_sR {o : Option Nm} (hr : xRef (hK σ n0) j = true) (i : Nat) : updV (xV ρ σ n0) j (rv ρ o) i = xV ρ (sR σ n0 j o) n0 i := by
  unfold updV xV
  rw [hK_sR, hI_sR]
  by_cases h : i = j
  · subst h
    simp [hr, hR_sR]
  · simp [h, hR_sR]
theorem xc_i (hk : hK σ n0 ≤ 10) : xcont ρ σ n0 = (hL σ n0, .inl (hI σ n0)) := by unfold xcont; rw [if_pos hk]
theorem xc_q (hk : 11 ≤ hK σ n0) (hk2 : hK σ n0 ≤ 13) : xcont ρ σ n0 = (hL σ n0, .inr (.inr (.inr (.inr (fun j => (hR σ n0 j).map ρ))))) := by unfold xcont; rw [if_neg (by omega), if_pos hk2]
theorem xc_l (hk : hK σ n0 = 14) : xcont ρ σ n0 = (hL σ n0, .inr (.inl (hJ σ n0))) := by unfold xcont; rw [if_neg (by omega), if_neg (by omega)]
end
section
variable {G : xG} {X : xX} {Q : State → Prop} {nL : Nat} {rm : Room} {own : String} {cc : ByteArray} {ρ : Nm → Nat} {σ : PH} {k n pc : Nat} {L : List (Nat × Value)} {st : List Value}
theorem sI_o {n0 : Nm} {j : Nat} {v : Int32} (m : Nm) (hm : m ≠ n0) : hL (sI σ n0 j v) m = hL σ m ∧ (∀ i, hI (sI σ n0 j v) m i = hI σ m i) ∧ (∀ i, hR (sI σ n0 j v) m i = hR σ m i) ∧ (∀ i, hJ (sI σ n0 j v) m i = hJ σ m i) := ⟨rfl, fun i => by rw [hI_sI, if_neg (fun q => hm q.1)], fun _ => rfl, fun _ => rfl⟩
theorem sR_o {n0 : Nm} {j : Nat} {v : Option Nm} (m : Nm) (hm : m ≠ n0) : hL (sR σ n0 j v) m = hL σ m ∧ (∀ i, hI (sR σ n0 j v) m i = hI σ m i) ∧ (∀ i, hR (sR σ n0 j v) m i = hR σ m i) ∧ (∀ i, hJ (sR σ n0 j v) m i = hJ σ m i) := ⟨rfl, fun _ => rfl, fun i => by rw [hR_sR, if_neg (fun q => hm q.1)], fun _ => rfl⟩
theorem sJ_o {n0 : Nm} {j : Nat} {v : Int64} (m : Nm) (hm : m ≠ n0) : hL (sJ σ n0 j v) m = hL σ m ∧ (∀ i, hI (sJ σ n0 j v) m i = hI σ m i) ∧ (∀ i, hR (sJ σ n0 j v) m i = hR σ m i) ∧ (∀ i, hJ (sJ σ n0 j v) m i = hJ σ m i) := ⟨rfl, fun _ => rfl, fun _ => rfl, fun i => by rw [hJ_sJ, if_neg (fun q => hm q.1)]⟩
theorem xH.cl {H : Heap} {locs : List Loc} (h : xH G X ρ σ H locs) : ∀ a i m, hR σ a i = some m → hK σ m ≠ 0 := by
  obtain ⟨p, l, e, R, s, m, args, below, meth, c, σ0, ρ0⟩ := X
  exact h.1.2.2
theorem xJ.withH (kk : (∀ a i m, hR σ a i = some m → hK σ m ≠ 0) → xJ G X Q nL ρ σ k n pc L st) : xJ G X Q nL ρ σ k n pc L st := by
  obtain ⟨p, l, e, R, s, m, args, below, meth, c, σ0, ρ0⟩ := X
  intro H locs ls hH hlo
  exact kk hH.1.2.2 H locs ls hH hlo
theorem x_putI (hC : xC G X own cc nL rm) {n0 : Nm} {ci idx : Nat} {C : String} {T : u_T} {N : Nat} (j : Nat) (hk : hK σ n0 = ci + 1) (hc : vwCl[ci]? = some (C, T, N)) (hr : xRef (ci + 1) j = false) (hj : j < N) (hT : (T j).1 = C) (hl : Cond.fieldLink own idx C (T j).2.1 (T j).2.2.1 ∈ T0) (hfin : (T j).2.2.2 = false) (hd : parseFieldDescriptor (T j).2.2.1 = some .int) {v : Int32} (d : decode cc pc = .ok (.putfield idx, 3)) (kk : xJ G X Q nL ρ (sI σ n0 j v) k n (pc + 3) L st) : xJ G X Q nL ρ σ k n pc L (.int v :: .ref (ρ n0) :: st) := by
  refine xJ.withH (fun hcl => ?_)
  exact x_putV hC j hk hc hj hT hl (Or.inl hfin) hd rfl rfl (σ' := sI σ n0 j v) rfl sI_o (xV_sI (by rw [hk]; exact hr)) (hcl n0) d kk
theorem x_putZ (hC : xC G X own cc nL rm) {n0 : Nm} {ci idx : Nat} {C : String} {T : u_T} {N : Nat} (j : Nat) (hk : hK σ n0 = ci + 1) (hc : vwCl[ci]? = some (C, T, N)) (hr : xRef (ci + 1) j = false) (hj : j < N) (hT : (T j).1 = C) (hl : Cond.fieldLink own idx C (T j).2.1 (T j).2.2.1 ∈ T0) (hfin : (T j).2.2.2 = false) (hd : parseFieldDescriptor (T j).2.2.1 = some .boolean) {v : Int32} (hz : zb v) (d : decode cc pc = .ok (.putfield idx, 3)) (kk : xJ G X Q nL ρ (sI σ n0 j v) k n (pc + 3) L st) : xJ G X Q nL ρ σ k n pc L (.int v :: .ref (ρ n0) :: st) := by
  refine xJ.withH (fun hcl => ?_)
  exact x_putV hC j hk hc hj hT hl (Or.inl hfin) hd (zb_n hz) (zb_f hz) (σ' := sI σ n0 j v) rfl sI_o (xV_sI (by rw [hk]; exact hr)) (hcl n0) d kk
theorem x_putIF (hC : xC G X own cc nL rm) {n0 : Nm} {ci idx : Nat} {C : String} {T : u_T} {N : Nat} (j : Nat) (hk : hK σ n0 = ci + 1) (hc : vwCl[ci]? = some (C, T, N)) (hr : xRef (ci + 1) j = false) (hj : j < N) (hT : (T j).1 = C) (hl : Cond.fieldLink own idx C (T j).2.1 (T j).2.2.1 ∈ T0) (hfin : (T j).2.2.2 = true) (hown2 : C = own) (hin : xNm X "<init>") (hd : parseFieldDescriptor (T j).2.2.1 = some .int) {v : Int32} (d : decode cc pc = .ok (.putfield idx, 3)) (kk : xJ G X Q nL ρ (sI σ n0 j v) k n (pc + 3) L st) : xJ G X Q nL ρ σ k n pc L (.int v :: .ref (ρ n0) :: st) := by
  refine xJ.withH (fun hcl => ?_)
  exact x_putV hC j hk hc hj hT hl (Or.inr ⟨hfin, hown2, hin⟩) hd rfl rfl (σ' := sI σ n0 j v) rfl sI_o (xV_sI (by rw [hk]; exact hr)) (hcl n0) d kk
theorem x_putZF (hC : xC G X own cc nL rm) {n0 : Nm} {ci idx : Nat} {C : String} {T : u_T} {N : Nat} (j : Nat) (hk : hK σ n0 = ci + 1) (hc : vwCl[ci]? = some (C, T, N)) (hr : xRef (ci + 1) j = false) (hj : j < N) (hT : (T j).1 = C) (hl : Cond.fieldLink own idx C (T j).2.1 (T j).2.2.1 ∈ T0) (hfin : (T j).2.2.2 = true) (hown2 : C = own) (hin : xNm X "<init>") (hd : parseFieldDescriptor (T j).2.2.1 = some .boolean) {v : Int32} (hz : zb v) (d : decode cc pc = .ok (.putfield idx, 3)) (kk : xJ G X Q nL ρ (sI σ n0 j v) k n (pc + 3) L st) : xJ G X Q nL ρ σ k n pc L (.int v :: .ref (ρ n0) :: st) := by
  refine xJ.withH (fun hcl => ?_)
  exact x_putV hC j hk hc hj hT hl (Or.inr ⟨hfin, hown2, hin⟩) hd (zb_n hz) (zb_f hz) (σ' := sI σ n0 j v) rfl sI_o (xV_sI (by rw [hk]; exact hr)) (hcl n0) d kk
theorem x_putRF (hC : xC G X own cc nL rm) {n0 : Nm} {ci idx : Nat} {C : String} {T : u_T} {N : Nat} (j : Nat) (hk : hK σ n0 = ci + 1) (hc : vwCl[ci]? = some (C, T, N)) (hr : xRef (ci + 1) j = true) (hj : j < N) (hT : (T j).1 = C) (hl : Cond.fieldLink own idx C (T j).2.1 (T j).2.2.1 ∈ T0) (hfin : (T j).2.2.2 = true) (hown2 : C = own) (hin : xNm X "<init>") {ty : FieldType} (hd : parseFieldDescriptor (T j).2.2.1 = some ty) {m0 : Nm} (hn : narrow ty (.ref (ρ m0)) = .ref (ρ m0)) (hfit : fits ty (.ref (ρ m0)) = true) (hm0 : hK σ m0 ≠ 0) (d : decode cc pc = .ok (.putfield idx, 3)) (kk : xJ G X Q nL ρ (sR σ n0 j (some m0)) k n (pc + 3) L st) : xJ G X Q nL ρ σ k n pc L (.ref (ρ m0) :: .ref (ρ n0) :: st) := by
  refine xJ.withH (fun hcl => ?_)
  refine x_putV hC j hk hc hj hT hl (Or.inr ⟨hfin, hown2, hin⟩) hd hn hfit (σ' := sR σ n0 j (some m0)) rfl sR_o (xV_sR (o := some m0) (by rw [hk]; exact hr)) (fun i m h => ?_) d kk
  rw [hR_sR] at h
  split at h
  · cases h; exact hm0
  · exact hcl n0 i m h
/-- one array changed -/
theorem x_arrW {p : Program} {l : Launch} {e : Env} {R : Room} {s : State} {m : MethodId} {args : Array Value} {below : List Frame} {meth : Method} {c : Code} {σ0 : PH} {ρ0 : Nm → Nat} {H : Heap} {locs : List Loc} (hH : xH G (p, l, e, R, s, m, args, below, meth, c, σ0, ρ0) ρ σ H locs) {a : Nm} {σ' : PH} {j : Nat} (h9 : 9 ≤ hK σ a) (e1 : hK σ' = hK σ) (e2 : ∀ m, m ≠ a → hL σ' m = hL σ m ∧ (∀ j, hI σ' m j = hI σ m j) ∧ (∀ j, hR σ' m j = hR σ m j) ∧ (∀ j, hJ σ' m j = hJ σ m j)) (cl : ∀ j m, hR σ' a j = some m → hK σ m ≠ 0) {H' : Heap} (f1 : H'[ρ a]? = some (vp_cell (G.2.2.2.1 (hK σ a)) (xcont ρ σ' a))) (f2 : H'.size = H.size) (f3 : ∀ q, q ≠ ρ a → H'[q]? = H[q]?) : xH G (p, l, e, R, s, m, args, below, meth, c, σ0, ρ0) ρ σ' H' (locs ++ [⟨ρ a, j⟩]) := by
  refine ⟨hH.1.put (n0 := a) (by omega) e1 e2 ?_ f3 cl, hH.2.1.put f2 f3 ((hH.1.1 a (by omega)).1), hH.2.2.same e1⟩
  unfold xat
  rw [e1, if_neg (by omega)]
  exact f1
theorem x_iald (hC : xC G X own cc nL rm) {a : Nm} {i : Int32} (hk : hK σ a = 9) (hin : vp_in i (hL σ a)) (d : decode cc pc = .ok (.iaload, 1)) (kk : xJ G X Q nL ρ σ k n (pc + 1) L (.int (hI σ a i.toNatClampNeg) :: st)) : xJ G X Q nL ρ σ k n pc L (.int i :: .ref (ρ a) :: st) := by
  obtain ⟨p, l, e, R, s, m, args, below, meth, c, σ0, ρ0⟩ := X
  obtain ⟨hx, hb, hml, hown, hts, hE, -⟩ := hC
  intro H locs ls hH hlo
  have hlt : i.toNatClampNeg < hL σ a := Nat.not_le.mp fun q => hin (Or.inr q)
  have hcell := hH.1.arr hk (by decide)
  rw [xc_i (by omega)] at hcell
  refine W.iald (v := .int (hI σ a i.toNatClampNeg)) hx hb hcell ((hE.1.2 0 _ rfl).1 (hL σ a) (fun j => .int (hI σ a j))) (fun q => by cases q) (by show ¬ (i < 0 ∨ (arrV _ _ _).slots.size ≤ _); rw [arrV_size]; exact hin) (by show (arrV _ _ _).slots[_]? = _; rw [arrV_read _ _ hlt]) rfl rfl d (kk H locs ls hH hlo)
theorem x_zald (hC : xC G X own cc nL rm) {a : Nm} {i : Int32} (hk : hK σ a = 10) (hin : vp_in i (hL σ a)) (d : decode cc pc = .ok (.baload, 1)) (kk : xJ G X Q nL ρ σ k n (pc + 1) L (.int (hI σ a i.toNatClampNeg) :: st)) : xJ G X Q nL ρ σ k n pc L (.int i :: .ref (ρ a) :: st) := by
  obtain ⟨p, l, e, R, s, m, args, below, meth, c, σ0, ρ0⟩ := X
  obtain ⟨hx, hb, hml, hown, hts, hE, -⟩ := hC
  intro H locs ls hH hlo
  have hlt : i.toNatClampNeg < hL σ a := Nat.not_le.mp fun q => hin (Or.inr q)
  have hcell := hH.1.arr hk (by decide)
  rw [xc_i (by omega)] at hcell
  refine W.zald (v := .int (hI σ a i.toNatClampNeg)) hx hb hcell ((hE.1.2 1 _ rfl).1 (hL σ a) (fun j => .int (hI σ a j))) (fun q => by cases q) (by show ¬ (i < 0 ∨ (arrV _ _ _).slots.size ≤ _); rw [arrV_size]; exact hin) (by show (arrV _ _ _).slots[_]? = _; rw [arrV_read _ _ hlt]) rfl rfl d (kk H locs ls hH hlo)
theorem x_aald11 (hC : xC G X own cc nL rm) {a : Nm} {i : Int32} (hk : hK σ a = 11) (hin : vp_in i (hL σ a)) (d : decode cc pc = .ok (.aaload, 1)) (kk : xJ G X Q nL ρ σ k n (pc + 1) L (rv ρ (hR σ a i.toNatClampNeg) :: st)) : xJ G X Q nL ρ σ k n pc L (.int i :: .ref (ρ a) :: st) := by
  obtain ⟨p, l, e, R, s, m, args, below, meth, c, σ0, ρ0⟩ := X
  obtain ⟨hx, hb, hml, hown, hts, hE, -⟩ := hC
  intro H locs ls hH hlo
  have hlt : i.toNatClampNeg < hL σ a := Nat.not_le.mp fun q => hin (Or.inr q)
  have hcell := hH.1.arr hk (by decide)
  rw [xc_q (by omega) (by omega)] at hcell
  refine W.aald (v := rv ρ (hR σ a i.toNatClampNeg)) hx hb hcell ((hE.1.2 2 _ rfl).1 (hL σ a) (fun j => rv ρ (hR σ a j))) rfl (fun q => by cases q) (by show ¬ (i < 0 ∨ (arrV _ _ _).slots.size ≤ _); rw [arrV_size]; exact hin) (by show (arrV _ _ _).slots[_]? = _; rw [arrV_read _ _ hlt]; rfl) rfl rfl d (kk H locs ls hH hlo)
theorem x_aald12 (hC : xC G X own cc nL rm) {a : Nm} {i : Int32} (hk : hK σ a = 12) (hin : vp_in i (hL σ a)) (d : decode cc pc = .ok (.aaload, 1)) (kk : xJ G X Q nL ρ σ k n (pc + 1) L (rv ρ (hR σ a i.toNatClampNeg) :: st)) : xJ G X Q nL ρ σ k n pc L (.int i :: .ref (ρ a) :: st) := by
  obtain ⟨p, l, e, R, s, m, args, below, meth, c, σ0, ρ0⟩ := X
  obtain ⟨hx, hb, hml, hown, hts, hE, -⟩ := hC
  intro H locs ls hH hlo
  have hlt : i.toNatClampNeg < hL σ a := Nat.not_le.mp fun q => hin (Or.inr q)
  have hcell := hH.1.arr hk (by decide)
  rw [xc_q (by omega) (by omega)] at hcell
  refine W.aald (v := rv ρ (hR σ a i.toNatClampNeg)) hx hb hcell ((hE.1.2 3 _ rfl).1 (hL σ a) (fun j => rv ρ (hR σ a j))) rfl (fun q => by cases q) (by show ¬ (i < 0 ∨ (arrV _ _ _).slots.size ≤ _); rw [arrV_size]; exact hin) (by show (arrV _ _ _).slots[_]? = _; rw [arrV_read _ _ hlt]; rfl) rfl rfl d (kk H locs ls hH hlo)
theorem x_aald13 (hC : xC G X own cc nL rm) {a : Nm} {i : Int32} (hk : hK σ a = 13) (hin : vp_in i (hL σ a)) (d : decode cc pc = .ok (.aaload, 1)) (kk : xJ G X Q nL ρ σ k n (pc + 1) L (rv ρ (hR σ a i.toNatClampNeg) :: st)) : xJ G X Q nL ρ σ k n pc L (.int i :: .ref (ρ a) :: st) := by
  obtain ⟨p, l, e, R, s, m, args, below, meth, c, σ0, ρ0⟩ := X
  obtain ⟨hx, hb, hml, hown, hts, hE, -⟩ := hC
  intro H locs ls hH hlo
  have hlt : i.toNatClampNeg < hL σ a := Nat.not_le.mp fun q => hin (Or.inr q)
  have hcell := hH.1.arr hk (by decide)
  rw [xc_q (by omega) (by omega)] at hcell
  refine W.aald (v := rv ρ (hR σ a i.toNatClampNeg)) hx hb hcell ((hE.1.2 4 _ rfl).1 (hL σ a) (fun j => rv ρ (hR σ a j))) rfl (fun q => by cases q) (by show ¬ (i < 0 ∨ (arrV _ _ _).slots.size ≤ _); rw [arrV_size]; exact hin) (by show (arrV _ _ _).slots[_]? = _; rw [arrV_read _ _ hlt]; rfl) rfl rfl d (kk H locs ls hH hlo)
theorem x_iast (hC : xC G X own cc nL rm) {a : Nm} {i : Int32} {v : Int32} (hk : hK σ a = 9) (hin : vp_in i (hL σ a)) (d : decode cc pc = .ok (.iastore, 1)) (kk : xJ G X Q nL ρ (sI σ a i.toNatClampNeg v) k n (pc + 1) L st) : xJ G X Q nL ρ σ k n pc L (.int v :: .int i :: .ref (ρ a) :: st) := by
  obtain ⟨p, l, e, R, s, m, args, below, meth, c, σ0, ρ0⟩ := X
  obtain ⟨hx, hb, hml, hown, hts, hE, -⟩ := hC
  intro H locs ls hH hlo
  have hlt : i.toNatClampNeg < hL σ a := Nat.not_le.mp fun q => hin (Or.inr q)
  have hcell := hH.1.arr hk (by decide)
  rw [xc_i (by omega)] at hcell
  refine W.iast hx hb hcell ((hE.1.2 0 _ rfl).1 (hL σ a) (fun j => .int (hI σ a j))) (fun q => by cases q) (by show ¬ (i < 0 ∨ (arrV _ _ _).slots.size ≤ _); rw [arrV_size]; exact hin) rfl rfl d fun H1 e9 z oq => ?_
  refine kk H1 _ ls (x_arrW (a := a) (σ' := sI σ a i.toNatClampNeg v) hH (by omega) rfl sI_o (hH.1.2.2 a) ?_ z oq) hlo
  rw [e9, xc_i (by rw [hK_sI]; omega), hk]
  rw [vp_cell_i, vp_cell_i, arrV_store]
  congr 2
  funext q
  by_cases hq : q = i.toNatClampNeg
  · subst hq; simp [updV, hI_sI]
  · simp [updV, hI_sI, hq]
theorem x_zast (hC : xC G X own cc nL rm) {a : Nm} {i : Int32} {v : Int32} (hz : zb v) (hk : hK σ a = 10) (hin : vp_in i (hL σ a)) (d : decode cc pc = .ok (.bastore, 1)) (kk : xJ G X Q nL ρ (sI σ a i.toNatClampNeg v) k n (pc + 1) L st) : xJ G X Q nL ρ σ k n pc L (.int v :: .int i :: .ref (ρ a) :: st) := by
  obtain ⟨p, l, e, R, s, m, args, below, meth, c, σ0, ρ0⟩ := X
  obtain ⟨hx, hb, hml, hown, hts, hE, -⟩ := hC
  intro H locs ls hH hlo
  have hlt : i.toNatClampNeg < hL σ a := Nat.not_le.mp fun q => hin (Or.inr q)
  have hcell := hH.1.arr hk (by decide)
  rw [xc_i (by omega)] at hcell
  refine W.zast hx hb hcell ((hE.1.2 1 _ rfl).1 (hL σ a) (fun j => .int (hI σ a j))) (fun q => by cases q) (by show ¬ (i < 0 ∨ (arrV _ _ _).slots.size ≤ _); rw [arrV_size]; exact hin) rfl rfl d fun H1 e9 z oq => ?_
  refine kk H1 _ ls (x_arrW (a := a) (σ' := sI σ a i.toNatClampNeg v) hH (by omega) rfl sI_o (hH.1.2.2 a) ?_ z oq) hlo
  rw [e9, xc_i (by rw [hK_sI]; omega), hk]
  rw [zb_n hz]
  rw [vp_cell_i, vp_cell_i, arrV_store]
  congr 2
  funext q
  by_cases hq : q = i.toNatClampNeg
  · subst hq; simp [updV, hI_sI]
  · simp [updV, hI_sI, hq]
theorem x_aast11 (hC : xC G X own cc nL rm) {a : Nm} {i : Int32} {o : Option Nm} (ho : ∀ m, o = some m → hK σ m = 2) (hk : hK σ a = 11) (hin : vp_in i (hL σ a)) (d : decode cc pc = .ok (.aastore, 1)) (kk : xJ G X Q nL ρ (sR σ a i.toNatClampNeg o) k n (pc + 1) L st) : xJ G X Q nL ρ σ k n pc L (rv ρ o :: .int i :: .ref (ρ a) :: st) := by
  obtain ⟨p, l, e, R, s, m, args, below, meth, c, σ0, ρ0⟩ := X
  obtain ⟨hx, hb, hml, hown, hts, hE, -⟩ := hC
  intro H locs ls hH hlo
  have hlt : i.toNatClampNeg < hL σ a := Nat.not_le.mp fun q => hin (Or.inr q)
  have h0 : ¬ i < 0 := fun q => hin (Or.inl q)
  have hcell := hH.1.arr hk (by decide)
  rw [xc_q (by omega) (by omega)] at hcell
  have hcl : ∀ j m, hR (sR σ a i.toNatClampNeg o) a j = some m → hK σ m ≠ 0 := by
    intro j m h
    rw [hR_sR] at h
    split at h
    · rw [ho m h]; decide
    · exact hH.1.2.2 a j m h
  have hfin : ∀ (H1 : Heap), H1[ρ a]? = some (vp_cell (G.2.2.2.1 11) (hL σ a, .inr (.inr (.inr (.inr (fun j => (hR (sR σ a i.toNatClampNeg o) a j).map ρ)))))) → H1.size = H.size → (∀ q, q ≠ ρ a → H1[q]? = H[q]?) → W p l e R s m args below meth c H1 (locs ++ [⟨ρ a, i.toNatClampNeg⟩]) k n Q (F0 m (pc + 1) ls st) := by
    intro H1 e9 z oq
    refine kk H1 _ ls (x_arrW (a := a) (σ' := sR σ a i.toNatClampNeg o) hH (by omega) rfl sR_o hcl ?_ z oq) hlo
    rw [e9, xc_q (by rw [hK_sR]; omega) (by rw [hK_sR]; omega), hk]
    rfl
  have heq : ∀ w : Value, w = rv ρ o → (vp_cell (G.2.2.2.1 11) (hL σ a, .inr (.inr (.inr (.inr (fun j => (hR σ a j).map ρ)))))).setSlot i.toNatClampNeg w = vp_cell (G.2.2.2.1 11) (hL σ a, .inr (.inr (.inr (.inr (fun j => (hR (sR σ a i.toNatClampNeg o) a j).map ρ))))) := by
    intro w hw
    rw [vp_cell_q, vp_cell_q, arrV_store]
    congr 1
    funext q
    by_cases hq : q = i.toNatClampNeg
    · subst hq; simp [updV, hR_sR, hw, rv]
    · simp [updV, hR_sR, hq]
  cases o with
  | none => exact va_WaastN (C := "PlantServer$Item") hx hb hcell ((hE.1.2 2 _ rfl).1 (hL σ a) (fun j => rv ρ (hR σ a j))) (fun h => by cases h) (by show ¬ (i < 0 ∨ (arrV _ _ _).slots.size ≤ _); rw [arrV_size]; exact hin) rfl rfl d fun H1 e9 z oq => hfin H1 (by rw [e9, heq .null rfl]) z oq
  | some v =>
    have hv := ho v rfl
    obtain ⟨cellV, g1, g2, g3, -⟩ := hH.1.obj (ci := 1) hv rfl
    have hcls := (hE.1.1 1 _ rfl).2
    obtain ⟨kA, comp, k1, k2, k3, -⟩ := (hE.1.2 2 _ rfl).2
    have hcomp : comp = G.2.1 1 := Option.some.inj (k3.symm.trans hcls.1)
    subst hcomp
    obtain ⟨kC, hkC, -⟩ := hcls.2
    exact W.aast hx hb hcell (fun q h => by cases h) (fun h => by cases h) k1 k2 rfl hkC ⟨h0, by show _ < (arrV _ _ _).slots.size; rw [arrV_size]; exact hlt⟩ g1 (fun q h => by rw [g3] at h; cases h) (by rw [g2]; exact hkC) (by rw [g2]; exact va_assign hcls) rfl rfl d fun H1 e9 z oq => hfin H1 (by rw [e9, heq (.ref (ρ v)) rfl]) z oq
theorem x_aast12 (hC : xC G X own cc nL rm) {a : Nm} {i : Int32} {o : Option Nm} (ho : ∀ m, o = some m → hK σ m = 3) (hk : hK σ a = 12) (hin : vp_in i (hL σ a)) (d : decode cc pc = .ok (.aastore, 1)) (kk : xJ G X Q nL ρ (sR σ a i.toNatClampNeg o) k n (pc + 1) L st) : xJ G X Q nL ρ σ k n pc L (rv ρ o :: .int i :: .ref (ρ a) :: st) := by
  obtain ⟨p, l, e, R, s, m, args, below, meth, c, σ0, ρ0⟩ := X
  obtain ⟨hx, hb, hml, hown, hts, hE, -⟩ := hC
  intro H locs ls hH hlo
  have hlt : i.toNatClampNeg < hL σ a := Nat.not_le.mp fun q => hin (Or.inr q)
  have h0 : ¬ i < 0 := fun q => hin (Or.inl q)
  have hcell := hH.1.arr hk (by decide)
  rw [xc_q (by omega) (by omega)] at hcell
  have hcl : ∀ j m, hR (sR σ a i.toNatClampNeg o) a j = some m → hK σ m ≠ 0 := by
    intro j m h
    rw [hR_sR] at h
    split at h
    · rw [ho m h]; decide
    · exact hH.1.2.2 a j m h
  have hfin : ∀ (H1 : Heap), H1[ρ a]? = some (vp_cell (G.2.2.2.1 12) (hL σ a, .inr (.inr (.inr (.inr (fun j => (hR (sR σ a i.toNatClampNeg o) a j).map ρ)))))) → H1.size = H.size → (∀ q, q ≠ ρ a → H1[q]? = H[q]?) → W p l e R s m args below meth c H1 (locs ++ [⟨ρ a, i.toNatClampNeg⟩]) k n Q (F0 m (pc + 1) ls st) := by
    intro H1 e9 z oq
    refine kk H1 _ ls (x_arrW (a := a) (σ' := sR σ a i.toNatClampNeg o) hH (by omega) rfl sR_o hcl ?_ z oq) hlo
    rw [e9, xc_q (by rw [hK_sR]; omega) (by rw [hK_sR]; omega), hk]
    rfl
  have heq : ∀ w : Value, w = rv ρ o → (vp_cell (G.2.2.2.1 12) (hL σ a, .inr (.inr (.inr (.inr (fun j => (hR σ a j).map ρ)))))).setSlot i.toNatClampNeg w = vp_cell (G.2.2.2.1 12) (hL σ a, .inr (.inr (.inr (.inr (fun j => (hR (sR σ a i.toNatClampNeg o) a j).map ρ))))) := by
    intro w hw
    rw [vp_cell_q, vp_cell_q, arrV_store]
    congr 1
    funext q
    by_cases hq : q = i.toNatClampNeg
    · subst hq; simp [updV, hR_sR, hw, rv]
    · simp [updV, hR_sR, hq]
  cases o with
  | none => exact va_WaastN (C := "PlantServer$Message") hx hb hcell ((hE.1.2 3 _ rfl).1 (hL σ a) (fun j => rv ρ (hR σ a j))) (fun h => by cases h) (by show ¬ (i < 0 ∨ (arrV _ _ _).slots.size ≤ _); rw [arrV_size]; exact hin) rfl rfl d fun H1 e9 z oq => hfin H1 (by rw [e9, heq .null rfl]) z oq
  | some v =>
    have hv := ho v rfl
    obtain ⟨cellV, g1, g2, g3, -⟩ := hH.1.obj (ci := 2) hv rfl
    have hcls := (hE.1.1 2 _ rfl).2
    obtain ⟨kA, comp, k1, k2, k3, -⟩ := (hE.1.2 3 _ rfl).2
    have hcomp : comp = G.2.1 2 := Option.some.inj (k3.symm.trans hcls.1)
    subst hcomp
    obtain ⟨kC, hkC, -⟩ := hcls.2
    exact W.aast hx hb hcell (fun q h => by cases h) (fun h => by cases h) k1 k2 rfl hkC ⟨h0, by show _ < (arrV _ _ _).slots.size; rw [arrV_size]; exact hlt⟩ g1 (fun q h => by rw [g3] at h; cases h) (by rw [g2]; exact hkC) (by rw [g2]; exact va_assign hcls) rfl rfl d fun H1 e9 z oq => hfin H1 (by rw [e9, heq (.ref (ρ v)) rfl]) z oq
theorem x_aast13 (hC : xC G X own cc nL rm) {a : Nm} {i : Int32} {o : Option Nm} (ho : ∀ m, o = some m → hK σ m = 5) (hk : hK σ a = 13) (hin : vp_in i (hL σ a)) (d : decode cc pc = .ok (.aastore, 1)) (kk : xJ G X Q nL ρ (sR σ a i.toNatClampNeg o) k n (pc + 1) L st) : xJ G X Q nL ρ σ k n pc L (rv ρ o :: .int i :: .ref (ρ a) :: st) := by
  obtain ⟨p, l, e, R, s, m, args, below, meth, c, σ0, ρ0⟩ := X
  obtain ⟨hx, hb, hml, hown, hts, hE, -⟩ := hC
  intro H locs ls hH hlo
  have hlt : i.toNatClampNeg < hL σ a := Nat.not_le.mp fun q => hin (Or.inr q)
  have h0 : ¬ i < 0 := fun q => hin (Or.inl q)
  have hcell := hH.1.arr hk (by decide)
  rw [xc_q (by omega) (by omega)] at hcell
  have hcl : ∀ j m, hR (sR σ a i.toNatClampNeg o) a j = some m → hK σ m ≠ 0 := by
    intro j m h
    rw [hR_sR] at h
    split at h
    · rw [ho m h]; decide
    · exact hH.1.2.2 a j m h
  have hfin : ∀ (H1 : Heap), H1[ρ a]? = some (vp_cell (G.2.2.2.1 13) (hL σ a, .inr (.inr (.inr (.inr (fun j => (hR (sR σ a i.toNatClampNeg o) a j).map ρ)))))) → H1.size = H.size → (∀ q, q ≠ ρ a → H1[q]? = H[q]?) → W p l e R s m args below meth c H1 (locs ++ [⟨ρ a, i.toNatClampNeg⟩]) k n Q (F0 m (pc + 1) ls st) := by
    intro H1 e9 z oq
    refine kk H1 _ ls (x_arrW (a := a) (σ' := sR σ a i.toNatClampNeg o) hH (by omega) rfl sR_o hcl ?_ z oq) hlo
    rw [e9, xc_q (by rw [hK_sR]; omega) (by rw [hK_sR]; omega), hk]
    rfl
  have heq : ∀ w : Value, w = rv ρ o → (vp_cell (G.2.2.2.1 13) (hL σ a, .inr (.inr (.inr (.inr (fun j => (hR σ a j).map ρ)))))).setSlot i.toNatClampNeg w = vp_cell (G.2.2.2.1 13) (hL σ a, .inr (.inr (.inr (.inr (fun j => (hR (sR σ a i.toNatClampNeg o) a j).map ρ))))) := by
    intro w hw
    rw [vp_cell_q, vp_cell_q, arrV_store]
    congr 1
    funext q
    by_cases hq : q = i.toNatClampNeg
    · subst hq; simp [updV, hR_sR, hw, rv]
    · simp [updV, hR_sR, hq]
  cases o with
  | none => exact va_WaastN (C := "PlantServer$Subscription") hx hb hcell ((hE.1.2 4 _ rfl).1 (hL σ a) (fun j => rv ρ (hR σ a j))) (fun h => by cases h) (by show ¬ (i < 0 ∨ (arrV _ _ _).slots.size ≤ _); rw [arrV_size]; exact hin) rfl rfl d fun H1 e9 z oq => hfin H1 (by rw [e9, heq .null rfl]) z oq
  | some v =>
    have hv := ho v rfl
    obtain ⟨cellV, g1, g2, g3, -⟩ := hH.1.obj (ci := 4) hv rfl
    have hcls := (hE.1.1 4 _ rfl).2
    obtain ⟨kA, comp, k1, k2, k3, -⟩ := (hE.1.2 4 _ rfl).2
    have hcomp : comp = G.2.1 4 := Option.some.inj (k3.symm.trans hcls.1)
    subst hcomp
    obtain ⟨kC, hkC, -⟩ := hcls.2
    exact W.aast hx hb hcell (fun q h => by cases h) (fun h => by cases h) k1 k2 rfl hkC ⟨h0, by show _ < (arrV _ _ _).slots.size; rw [arrV_size]; exact hlt⟩ g1 (fun q h => by rw [g3] at h; cases h) (by rw [g2]; exact hkC) (by rw [g2]; exact va_assign hcls) rfl rfl d fun H1 e9 z oq => hfin H1 (by rw [e9, heq (.ref (ρ v)) rfl]) z oq
end
