theorem t0_all {ws : List Cond} (h1 : ∀ w ∈ ws, w ∈ lw_tbl) (h2 : ws.all goodWord = true) : ∀ w ∈ ws, w ∈ T0 := fun w hw => t0_of (h1 w hw) (List.all_eq_true.mp h2 w hw)
theorem inX0 : ∀ w ∈ wsX00, w ∈ T0 := t0_all (by decide +kernel) (by decide +kernel)
theorem inX1 : ∀ w ∈ wsX10, w ∈ T0 := t0_all (by decide +kernel) (by decide +kernel)
theorem inX2 : ∀ w ∈ wsX20, w ∈ T0 := t0_all (by decide +kernel) (by decide +kernel)
theorem inX3 : ∀ w ∈ wsX30, w ∈ T0 := t0_all (by decide +kernel) (by decide +kernel)
theorem inX4 : ∀ w ∈ wsX40, w ∈ T0 := t0_all (by decide +kernel) (by decide +kernel)
theorem inX5 : ∀ w ∈ wsX50, w ∈ T0 := t0_all (by decide +kernel) (by decide +kernel)
theorem inX6 : ∀ w ∈ wsX60, w ∈ T0 := t0_all (by decide +kernel) (by decide +kernel)
theorem xcl {ci : Nat} {C : String} {T : u_T} {N : Nat} (hc : vwCl[ci]? = some (C, T, N)) : (∀ w ∈ u_ws C T N, w ∈ T0) ∧ (∃ ty : Nat → FieldType, ∀ k, k < N → parseFieldDescriptor (T k).2.2.1 = some (ty k)) ∧ (∀ a, a < N → ∀ b, b < N → a ≠ b → (T a).2.1 ≠ (T b).2.1) ∧ ci < 8 := by
  match ci, hc with
  | 0, hc => cases hc; exact ⟨inX0, ⟨_, tyX0_ok⟩, nmX0, by decide⟩
  | 1, hc => cases hc; exact ⟨inX1, ⟨_, tyX1_ok⟩, nmX1, by decide⟩
  | 2, hc => cases hc; exact ⟨inX2, ⟨_, tyX2_ok⟩, nmX2, by decide⟩
  | 3, hc => cases hc; exact ⟨inX3, ⟨_, tyX3_ok⟩, nmX3, by decide⟩
  | 4, hc => cases hc; exact ⟨inX4, ⟨_, tyX4_ok⟩, nmX4, by decide⟩
  | 5, hc => cases hc; exact ⟨inX5, ⟨_, tyX5_ok⟩, nmX5, by decide⟩
  | 6, hc => cases hc; exact ⟨inX6, ⟨_, tyX6_ok⟩, nmX6, by decide⟩
  | k + 7, hc => simp at hc
section
variable {G : xG} {ρ ρ' : Nm → Nat} {σ σ' : PH} {H H' : Heap} {n0 : Nm}
theorem xW.obj (h : xW G ρ σ H) {ci : Nat} {r : vw_C} (hk : hK σ n0 = ci + 1) (hc : vwCl[ci]? = some r) : t_OB (ρ n0) (G.2.1 ci) r.2.2 (G.2.2.1 ci) H (xV ρ σ n0) := by
  obtain ⟨C, T, N⟩ := r
  have h8 := (xcl hc).2.2.2
  have h1 := (h.1 n0 (by omega)).2
  unfold xat at h1
  rw [hk, if_pos (by omega)] at h1
  obtain ⟨r', e1, e2⟩ := h1
  rw [Nat.add_sub_cancel] at e1 e2
  cases Option.some.inj (e1.symm.trans hc)
  exact e2
theorem xW.arr (h : xW G ρ σ H) {t : Nat} (hk : hK σ n0 = t) (h9 : 9 ≤ t) : H[ρ n0]? = some (vp_cell (G.2.2.2.1 t) (xcont ρ σ n0)) := by
  have h1 := (h.1 n0 (by omega)).2
  unfold xat at h1
  rw [hk, if_neg (by omega)] at h1
  exact h1
theorem xat.same (h : xat G ρ σ n0 H) (e1 : hK σ' n0 = hK σ n0) (e2 : hL σ' n0 = hL σ n0) (e3 : ∀ j, hI σ' n0 j = hI σ n0 j) (e4 : ∀ j, (hR σ' n0 j).map ρ' = (hR σ n0 j).map ρ) (e5 : ∀ j, hJ σ' n0 j = hJ σ n0 j) (e6 : ρ' n0 = ρ n0) (e7 : H'[ρ n0]? = H[ρ n0]?) : xat G ρ' σ' n0 H' := by
  have ev : xV ρ' σ' n0 = xV ρ σ n0 := by
    funext j
    unfold xV rv
    rw [e1, e3, e4]
  have ec : xcont ρ' σ' n0 = xcont ρ σ n0 := by
    have f3 : hI σ' n0 = hI σ n0 := funext e3
    have f5 : hJ σ' n0 = hJ σ n0 := funext e5
    unfold xcont
    rw [e1, e2, f3, f5]
    simp only [e4]
  unfold xat at h ⊢
  rw [e1]
  split
  · rename_i h8
    rw [if_pos h8] at h
    obtain ⟨r, r1, r2⟩ := h
    refine ⟨r, r1, ?_⟩
    rw [ev, e6]
    exact r2.kept e7
  · rename_i h8
    rw [if_neg h8] at h
    rw [ec, e6, e7]
    exact h
theorem xW.put (h : xW G ρ σ H) (hz : hK σ n0 ≠ 0) (e1 : hK σ' = hK σ) (e2 : ∀ n, n ≠ n0 → hL σ' n = hL σ n ∧ (∀ j, hI σ' n j = hI σ n j) ∧ (∀ j, hR σ' n j = hR σ n j) ∧ (∀ j, hJ σ' n j = hJ σ n j)) (hat : xat G ρ σ' n0 H') (oq : ∀ q, q ≠ ρ n0 → H'[q]? = H[q]?) (cl : ∀ j m, hR σ' n0 j = some m → hK σ m ≠ 0) : xW G ρ σ' H' := by
  obtain ⟨h1, h2, h3⟩ := h
  refine ⟨fun n hn => ?_, by rw [e1]; exact h2, fun n j m hr => ?_⟩
  · rw [e1] at hn
    refine ⟨(h1 n hn).1, ?_⟩
    by_cases hnn : n = n0
    · subst hnn; exact hat
    · obtain ⟨a1, a2, a3, a4⟩ := e2 n hnn
      exact (h1 n hn).2.same (by rw [e1]) a1 a2 (fun j => by rw [a3]) a4 rfl (oq _ (fun q => hnn (h2 n n0 hn hz q)))
  · rw [e1]
    by_cases hnn : n = n0
    · subst hnn; exact cl j m hr
    · rw [(e2 n hnn).2.2.1] at hr
      exact h3 n j m hr
theorem xW.new (h : xW G ρ σ H) (hz : hK σ n0 = 0) {kd len a : Nat} (hsz : H.size = a) (hG : G.1 ≤ a) (e0 : ρ' n0 = a) (e1 : ∀ n, hK σ n ≠ 0 → ρ' n = ρ n) (hk : kd ≠ 0) (hat : xat G ρ' (sN σ n0 kd len) n0 H') (oq : ∀ q, q < H.size → H'[q]? = H[q]?) : xW G ρ' (sN σ n0 kd len) H' := by
  obtain ⟨h1, h2, h3⟩ := h
  have lt : ∀ n, hK σ n ≠ 0 → ρ n < H.size := by
    intro n hn
    have h4 := (h1 n hn).2
    unfold xat at h4
    split at h4
    · obtain ⟨r, -, cell, r2, -⟩ := h4
      exact (Array.getElem?_eq_some_iff.mp r2).1
    · exact (Array.getElem?_eq_some_iff.mp h4).1
  have hKn : ∀ n, n ≠ n0 → hK (sN σ n0 kd len) n = hK σ n := fun n hn => by rw [hK_sN, if_neg hn]
  have hK0 : hK (sN σ n0 kd len) n0 = kd := by rw [hK_sN, if_pos rfl]
  refine ⟨fun n hn => ?_, fun n m hn hm he => ?_, fun n j m hr => ?_⟩
  · by_cases hnn : n = n0
    · subst hnn; exact ⟨by rw [e0]; exact hG, hat⟩
    · rw [hKn n hnn] at hn
      refine ⟨by rw [e1 n hn]; exact (h1 n hn).1, (h1 n hn).2.same (hKn n hnn) (by rw [hL_sN, if_neg hnn]) (fun j => by rw [hI_sN, if_neg hnn]) (fun j => ?_) (fun j => by rw [hJ_sN, if_neg hnn]) (e1 n hn) (oq _ (lt n hn))⟩
      rw [hR_sN, if_neg hnn]
      cases hr : hR σ n j with
      | none => rfl
      | some m => simp only [Option.map_some]; rw [e1 m (h3 n j m hr)]
  · by_cases hnn : n = n0
    · by_cases hmm : m = n0
      · rw [hnn, hmm]
      · rw [hKn m hmm] at hm
        have := lt m hm
        rw [hnn, e0, e1 m hm] at he
        omega
    · rw [hKn n hnn] at hn
      by_cases hmm : m = n0
      · have := lt n hn
        rw [hmm, e0, e1 n hn] at he
        omega
      · rw [hKn m hmm] at hm
        rw [e1 n hn, e1 m hm] at he
        exact h2 n m hn hm he
  · by_cases hnn : n = n0
    · rw [hR_sN, if_pos hnn] at hr; cases hr
    · rw [hR_sN, if_neg hnn] at hr
      have := h3 n j m hr
      by_cases hmm : m = n0
      · rw [hmm] at this; exact absurd hz this
      · rw [hKn m hmm]; exact this
theorem xAg.new {σ0 : PH} {ρ0 : Nm → Nat} (h : xAg σ0 ρ0 σ ρ) (hz : hK σ n0 = 0) {kd len : Nat} (e1 : ∀ n, hK σ n ≠ 0 → ρ' n = ρ n) : xAg σ0 ρ0 (sN σ n0 kd len) ρ' := by
  intro n hn
  obtain ⟨a1, a2⟩ := h n hn
  have hne : n ≠ n0 := fun q => by rw [q] at a1; exact hn (q ▸ (a1.symm.trans hz))
  exact ⟨by rw [hK_sN, if_neg hne]; exact a1, by rw [e1 n (by rw [a1]; exact hn)]; exact a2⟩
end
section
variable {G : xG} {X : xX} {Q : State → Prop} {nL : Nat} {rm : Room} {own : String} {cc : ByteArray} {ρ : Nm → Nat} {σ : PH} {k n pc : Nat} {L : List (Nat × Value)} {st : List Value}
/-- the frame's method: what it returns, its name, its table -/
def xRt (X : xX) (ret : Option FieldType) : Prop := X.2.2.2.2.2.2.2.2.1.sig.returnType = ret
def xNm (X : xX) (nm : String) : Prop := X.2.2.2.2.2.2.2.2.1.name = nm
def xTab (X : xX) (hh : List (Nat × Nat × Nat × Nat)) : Prop := X.2.2.2.2.2.2.2.2.2.1.exceptionTable.toList = tableOf hh
theorem x_getV (hC : xC G X own cc nL rm) {n0 : Nm} {ci idx : Nat} {C : String} {T : u_T} {N : Nat} (j : Nat) (hk : hK σ n0 = ci + 1) (hc : vwCl[ci]? = some (C, T, N)) (hj : j < N) (hT : (T j).1 = C) (hl : Cond.fieldLink own idx C (T j).2.1 (T j).2.2.1 ∈ T0) (d : decode cc pc = .ok (.getfield idx, 3)) (kk : xJ G X Q nL ρ σ k n (pc + 3) L (xV ρ σ n0 j :: st)) : xJ G X Q nL ρ σ k n pc L (.ref (ρ n0) :: st) := by
  obtain ⟨p, l, e, R, s, m, args, below, meth, c, σ0, ρ0⟩ := X
  obtain ⟨hx, hb, hml, hown, hts, hE, -⟩ := hC
  intro H locs ls hH hlo
  obtain ⟨cell, q1, q2, q3, q4⟩ := hH.1.obj hk hc
  obtain ⟨hS, hfc, kC, hkC, hkind⟩ := hE.1.1 ci _ hc
  obtain ⟨cf, kf, fi, f, hi, hsl⟩ := hS j hj
  have hi' : s.fieldFound? C (T j).2.1 (T j).2.2.1 = some (cf, kf, fi, f) := by rw [← hT]; exact hi
  refine W.getf hx hb hown (hts _ hl) hi' (u_facts hfc hkC (u_lays hts (xcl hc).1 hj) hi).1 q1 (by rw [q3]; exact fun h => by cases h) (v := xV ρ σ n0 j) ?_ rfl rfl d (kk H locs ls hH hlo)
  rw [hsl, q4 j hj]
theorem x_getI (hC : xC G X own cc nL rm) {n0 : Nm} {ci idx : Nat} {C : String} {T : u_T} {N : Nat} (j : Nat) (hk : hK σ n0 = ci + 1) (hc : vwCl[ci]? = some (C, T, N)) (hr : xRef (ci + 1) j = false) (hj : j < N) (hT : (T j).1 = C) (hl : Cond.fieldLink own idx C (T j).2.1 (T j).2.2.1 ∈ T0) (d : decode cc pc = .ok (.getfield idx, 3)) (kk : xJ G X Q nL ρ σ k n (pc + 3) L (.int (hI σ n0 j) :: st)) : xJ G X Q nL ρ σ k n pc L (.ref (ρ n0) :: st) := by
  refine x_getV hC j hk hc hj hT hl d ?_
  have e : xV ρ σ n0 j = .int (hI σ n0 j) := by unfold xV; rw [hk, hr]; rfl
  rw [e]; exact kk
theorem x_getR (hC : xC G X own cc nL rm) {n0 : Nm} {ci idx : Nat} {C : String} {T : u_T} {N : Nat} (j : Nat) (hk : hK σ n0 = ci + 1) (hc : vwCl[ci]? = some (C, T, N)) (hr : xRef (ci + 1) j = true) (hj : j < N) (hT : (T j).1 = C) (hl : Cond.fieldLink own idx C (T j).2.1 (T j).2.2.1 ∈ T0) (d : decode cc pc = .ok (.getfield idx, 3)) (kk : xJ G X Q nL ρ σ k n (pc + 3) L (rv ρ (hR σ n0 j) :: st)) : xJ G X Q nL ρ σ k n pc L (.ref (ρ n0) :: st) := by
  refine x_getV hC j hk hc hj hT hl d ?_
  have e : xV ρ σ n0 j = rv ρ (hR σ n0 j) := by unfold xV; rw [hk, hr]; rfl
  rw [e]; exact kk
/-- the slots of a class's objects are apart -/
theorem x_apart {s : State} {args : Array Value} (hts : ∀ w ∈ T0, w.before args s = true) (hE : va_K (G.2.1, G.2.2.1) vwCl (xtys G) s) {ci : Nat} {C : String} {T : u_T} {N : Nat} (hc : vwCl[ci]? = some (C, T, N)) : ∀ x y, x < N → y < N → x ≠ y → (G.2.2.1 ci) x ≠ (G.2.2.1 ci) y := by
  obtain ⟨h1, ⟨ty, h2⟩, h3, -⟩ := xcl hc
  exact va_apart (own := "") hts h1 ty h2 h3 hE hc
theorem x_putV (hC : xC G X own cc nL rm) {n0 : Nm} {ci idx : Nat} {C : String} {T : u_T} {N : Nat} (j : Nat) (hk : hK σ n0 = ci + 1) (hc : vwCl[ci]? = some (C, T, N)) (hj : j < N) (hT : (T j).1 = C) (hl : Cond.fieldLink own idx C (T j).2.1 (T j).2.2.1 ∈ T0)
    (hfin : (T j).2.2.2 = false ∨ (T j).2.2.2 = true ∧ C = own ∧ xNm X "<init>") {ty : FieldType} {v : Value} (hd : parseFieldDescriptor (T j).2.2.1 = some ty) (hn : narrow ty v = v) (hfit : fits ty v = true) {σ' : PH} (e1 : hK σ' = hK σ) (e2 : ∀ m, m ≠ n0 → hL σ' m = hL σ m ∧ (∀ j, hI σ' m j = hI σ m j) ∧ (∀ j, hR σ' m j = hR σ m j) ∧ (∀ j, hJ σ' m j = hJ σ m j)) (e3 : ∀ i, updV (xV ρ σ n0) j v i = xV ρ σ' n0 i) (cl : ∀ j m, hR σ' n0 j = some m → hK σ m ≠ 0)
    (d : decode cc pc = .ok (.putfield idx, 3)) (kk : xJ G X Q nL ρ σ' k n (pc + 3) L st) : xJ G X Q nL ρ σ k n pc L (v :: .ref (ρ n0) :: st) := by
  obtain ⟨p, l, e, R, s, m, args, below, meth, c, σ0, ρ0⟩ := X
  obtain ⟨hx, hb, hml, hown, hts, hE, -⟩ := hC
  intro H locs ls hH hlo
  have hap := x_apart hts hE.1 hc
  obtain ⟨cell, q1, q2, q3, q4⟩ := hH.1.obj hk hc
  obtain ⟨hS, hfc, kC, hkC, hkind⟩ := hE.1.1 ci _ hc
  obtain ⟨cf, kf, fi, f, hi, hsl⟩ := hS j hj
  have hi' : s.fieldFound? C (T j).2.1 (T j).2.2.1 = some (cf, kf, fi, f) := by rw [← hT]; exact hi
  have hlays := u_lays hts (xcl hc).1 hj
  have hst := (u_facts hfc hkC hlays hi).1
  have h8 := (xcl hc).2.2.2
  have key : ∀ (H' : Heap), H'[ρ n0]? = some (cell.setSlot f.slot v) → H'.size = H.size → (∀ q, q ≠ ρ n0 → H'[q]? = H[q]?) → W p l e R s m args below meth c H' (locs ++ [⟨ρ n0, f.slot⟩]) k n Q (F0 m (pc + 3) ls st) := by
    intro H' f1 f2 f3
    refine kk H' _ ls ⟨hH.1.put (n0 := n0) (by omega) e1 e2 ?_ f3 cl, hH.2.1.put f2 f3 ((hH.1.1 n0 (by omega)).1), hH.2.2.same e1⟩ hlo
    unfold xat
    rw [e1, hk, if_pos (by omega)]
    rw [hsl] at f1
    exact ⟨(C, T, N), hc, t_OB.to (V := updV (xV ρ σ n0) j v) ⟨_, f1, q2, q3, t_set q4 hap hj v⟩ (fun i _ => e3 i)⟩
  have hlay := hts _ ((xcl hc).1 _ (u_in_lay hj))
  rcases hfin with hfin | ⟨hfin, hown2, hinit⟩
  · unfold u_lay at hlay
    rw [if_neg (by rw [hfin]; decide)] at hlay
    have h6 := u_store hfc hkC hkind hlay hi hd hn hfit
    exact W.putK hx hb (f := f) ⟨hown, hts _ hl, ⟨_, _, _, hi'⟩, hst⟩ (by rw [q2]; exact h6) q1 q3 (by rw [hsl]; exact k2_hasslot (q4 j hj)) rfl rfl d key
  · unfold u_lay at hlay
    rw [if_pos hfin] at hlay
    have hcf : m.cls = cf := by
      obtain ⟨_, _, c', _, _, _, -, -, hf', -, -, -, hown3, -⟩ := Cond.laysFinal_spec hlay
      have e9 : c' = cf := by have := hi.symm.trans hf'; simp at this; exact this.1.symm
      rw [hT, hown2] at hown3
      rw [← e9]; exact Option.some.inj (hown.symm.trans hown3)
    have h6 := u_fits hfc hkC hkind (Or.inr hlay) hi hd hn hfit
    exact W.putFinK hx hb hown (hts _ hl) hi' hst hcf hinit (by rw [q2]; exact h6) q1 q3 (by rw [hsl]; exact k2_hasslot (q4 j hj)) rfl rfl d key
end
