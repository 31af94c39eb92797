def xR0 (X : xX) (ρ : Nm → Nat) : Prop := X.2.2.2.2.2.2.2.2.2.2.2 = ρ
section
variable {G : xG} {X : xX} {Q : State → Prop} {nL : Nat} {rm : Room} {own : String} {cc : ByteArray} {ρ : Nm → Nat} {σ : PH} {k n pc : Nat} {L : List (Nat × Value)} {st : List Value} {P : Option Value → PH → (Nm → Nat) → Prop} {Xp : String → PH → Prop}
theorem x_iret (hC : xC G X own cc nL rm) (hr : xRt X (some .int)) {v : Int32} (d : decode cc pc = .ok (.ireturn, 1)) (h1 : k ≤ rm.cells) (h2 : n ≤ rm.slots) (hp : P (some (.int v)) σ ρ) : xJ G X (xT X P Xp G rm) nL ρ σ k n pc L [.int v] := by
  obtain ⟨p, l, e, R, s, m, args, below, meth, c, σ0, ρ0⟩ := X
  obtain ⟨hx, hb, hml, hown, hts, hE, hlk, hst, hR⟩ := hC
  intro H locs ls hH hlo
  exact vx_ret (W.widen h1 h2 (W.iret hx hb hr (fun t ht hW => ⟨⟨_, σ, ρ, rfl, hp, by rw [ht]; exact hH.1, hH.2.2⟩, hH.2.1.F ht⟩) hH.2.1.2.2 d hlk))
theorem x_zret (hC : xC G X own cc nL rm) (hr : xRt X (some .boolean)) {v : Int32} (hz : zb v) (d : decode cc pc = .ok (.ireturn, 1)) (h1 : k ≤ rm.cells) (h2 : n ≤ rm.slots) (hp : P (some (.int v)) σ ρ) : xJ G X (xT X P Xp G rm) nL ρ σ k n pc L [.int v] := by
  obtain ⟨p, l, e, R, s, m, args, below, meth, c, σ0, ρ0⟩ := X
  obtain ⟨hx, hb, hml, hown, hts, hE, hlk, hst, hR⟩ := hC
  intro H locs ls hH hlo
  exact vx_ret (W.widen h1 h2 (W.zret hx hb hr (zb_n hz) (fun t ht hW => ⟨⟨_, σ, ρ, rfl, hp, by rw [ht]; exact hH.1, hH.2.2⟩, hH.2.1.F ht⟩) hH.2.1.2.2 d hlk))
theorem x_vret (hC : xC G X own cc nL rm) (hr : xRt X none) (d : decode cc pc = .ok (.return_, 1)) (h1 : k ≤ rm.cells) (h2 : n ≤ rm.slots) (hp : P none σ ρ) : xJ G X (xT X P Xp G rm) nL ρ σ k n pc L [] := by
  obtain ⟨p, l, e, R, s, m, args, below, meth, c, σ0, ρ0⟩ := X
  obtain ⟨hx, hb, hml, hown, hts, hE, hlk, hst, hR⟩ := hC
  intro H locs ls hH hlo
  exact vx_ret (W.widen h1 h2 (W.vret hx hb hr (fun t ht hW => ⟨⟨_, σ, ρ, rfl, hp, by rw [ht]; exact hH.1, hH.2.2⟩, hH.2.1.F ht⟩) hH.2.1.2.2 d hlk))
theorem x_aret (hC : xC G X own cc nL rm) {C : String} (hr : xRt X (some (.object C))) {o : Option Nm} (d : decode cc pc = .ok (.areturn, 1)) (h1 : k ≤ rm.cells) (h2 : n ≤ rm.slots) (hp : P (some (rv ρ o)) σ ρ) : xJ G X (xT X P Xp G rm) nL ρ σ k n pc L [rv ρ o] := by
  obtain ⟨p, l, e, R, s, m, args, below, meth, c, σ0, ρ0⟩ := X
  obtain ⟨hx, hb, hml, hown, hts, hE, hlk, hst, hR⟩ := hC
  intro H locs ls hH hlo
  exact vx_ret (W.widen h1 h2 (W.aret hx hb hr (Or.inl ⟨C, rfl⟩) (by cases o with | none => exact Or.inl rfl | some a => exact Or.inr ⟨_, rfl⟩) (fun t ht hW => ⟨⟨_, σ, ρ, rfl, hp, by rw [ht]; exact hH.1, hH.2.2⟩, hH.2.1.F ht⟩) hH.2.1.2.2 d hlk))
/-- an exception that goes on to the caller -/
theorem x_out (hC : xC G X own cc nL rm) {E : String} (h0 : xR0 X ρ) (htab : xTab X []) (h1 : k ≤ rm.cells) (h2 : n ≤ rm.slots) (hp : Xp E σ) : xE G X (xT X P Xp G rm) nL ρ σ k n pc L E := by
  obtain ⟨p, l, e, R, s, m, args, below, meth, c, σ0, ρ0⟩ := X
  obtain ⟨hx, hb, hml, hown, hts, hE, hlk, hst, hR⟩ := hC
  intro H locs ls rest q ce hH hlo g1 g2 g3
  cases (show ρ0 = ρ from h0)
  have htab : c.exceptionTable.toList = [] := htab
  exact vx_out (by rw [htab]; intro x hx; cases hx) hlk g1 g2 g3 (fun t ht hW => ⟨⟨σ, hp, by rw [ht]; exact hH.1, hH.2.2⟩, hH.2.1.F ht⟩) hH.2.1.2.2 h1 h2
theorem x_catch (hC : xC G X own cc nL rm) {E name : String} (pre suf : List (Nat × Nat × Nat × Nat)) (x : Nat × Nat × Nat × Nat) (htab : xTab X (pre ++ x :: suf)) (hpass : ∀ z ∈ pre, z.2.2.2 ≠ 0 ∧ ∃ nm, Cond.classLink own z.2.2.2 nm ∈ T0 ∧ (E, nm) ∈ xNcs) (hcov : covers ⟨x.1, x.2.1, x.2.2.1, x.2.2.2⟩ pc = true) (h0 : x.2.2.2 ≠ 0) (hlink : Cond.classLink own x.2.2.2 name ∈ T0) (hcast : Cond.castable E name ∈ T1) (kk : ∀ q : Nat, xJ G X Q nL ρ σ k n x.2.2.1 L [.ref q]) : xE G X Q nL ρ σ k n pc L E := by
  obtain ⟨p, l, e, R, s, m, args, below, meth, c, σ0, ρ0⟩ := X
  obtain ⟨hx, hb, hml, hown, hts, hE, hlk, hst, hR⟩ := hC
  intro H locs ls rest q ce hH hlo g1 g2 g3
  have htab : c.exceptionTable.toList = tableOf (pre ++ x :: suf) := htab
  refine vx_catch hown (tableOf pre) ⟨x.1, x.2.1, x.2.2.1, x.2.2.2⟩ (tableOf suf) (by rw [htab]; simp [tableOf]) (fun z hz => Or.inr ?_) hcov h0 (hts _ hlink) (va_Nw.use rfl (hE.2.2.2.2.1 _ hcast)) g1 g2 g3 (kk q H locs ls hH hlo)
  obtain ⟨z', hz', rfl⟩ := List.mem_map.mp hz
  obtain ⟨a1, nm, a2, a3⟩ := hpass z' hz'
  exact ⟨a1, nm, hts _ a2, hE.2.2.2.2.2.1 _ a3⟩
/-- behind a call -/
theorem x_callG {p : Program} {l : Launch} {e : Env} {R : Room} {s : State} {m : MethodId} {args : Array Value} {below : List Frame} {meth : Method} {c : Code} {σ0 : PH} {ρ0 : Nm → Nat} {H : Heap} {locs : List Loc} {ls : Array Slot} {mc ms : Nat} {st0 rest : List Value} {a : Array Value}
    (hr : vx_Run p l e R s m args below meth c H locs k n mc ms (F0 m pc ls st0) rest (xQ G ρ σ P a) (xXC G ρ σ Xp) (xA G)) (hH : xH G (p, l, e, R, s, m, args, below, meth, c, σ0, ρ0) ρ σ H locs) (hlo : lv_has ls nL L)
    (kx : ∀ (E : String) (σ' : PH), Xp E σ' → xE G (p, l, e, R, s, m, args, below, meth, c, σ0, ρ0) Q nL ρ σ' (k + mc) (n + ms) pc L E)
    (kk : ∀ (v : Option Value) (σ' : PH) (ρ' : Nm → Nat), P v σ' ρ' → xAg σ ρ σ' ρ' → xJ G (p, l, e, R, s, m, args, below, meth, c, σ0, ρ0) Q nL ρ' σ' (k + mc) (n + ms) (pc + 3) L (v.toList ++ rest)) : W p l e R s m args below meth c H locs k n Q (F0 m pc ls st0) := by
  intro T hT X
  rcases hr T hT X with ⟨v, st₀, t, T', Lc, h0, X1, hLc, e1, e2, ⟨⟨v', σ', ρ', hv, hp, hw, hag⟩, hF⟩, stp⟩ | ⟨q, st₀, t, T', Lc, E, ce, h0, X1, hLc, e1, e2, ⟨⟨σ', hp, hw, hag⟩, hF⟩, hce, hcv, hcl, stp⟩
  · cases hv
    obtain ⟨k1, k2, k3⟩ := vx_keep (A0 := xA G) (A1 := xA G) (free := xA G) h0 e1 hH.2.1 (fun _ _ h => h) (fun _ h => h) hLc hF
    obtain ⟨t2, a1, b1⟩ := kk v σ' ρ' hp hag T'.heap (locs ++ Lc) ls ⟨by rw [e1]; exact hw, k3, hH.2.2.tr hag⟩ hlo T' rfl X1
    exact ⟨t2, stp t2 a1, b1⟩
  · obtain ⟨k1, k2, k3⟩ := vx_keep (A0 := xA G) (A1 := xA G) (free := xA G) h0 e1 hH.2.1 (fun _ _ h => h) (fun _ h => h) hLc hF
    obtain ⟨t2, a1, b1⟩ := kx E σ' hp T'.heap (locs ++ Lc) ls rest q ce ⟨by rw [e1]; exact hw, k3, hH.2.2.tr hag⟩ hlo (by rw [e1]; exact hce) hcv hcl T' rfl X1
    exact ⟨t2, stp.trans a1, b1⟩
theorem x_preS {p : Program} {l : Launch} {e : Env} {R : Room} {s : State} {m : MethodId} {args : Array Value} {below : List Frame} {meth : Method} {c : Code} {σ0 : PH} {ρ0 : Nm → Nat} {H : Heap} {locs : List Loc} {as : List Value} (hE : xEnv G s) (hH : xH G (p, l, e, R, s, m, args, below, meth, c, σ0, ρ0) ρ σ H locs) : PreS s H (va_Pc as (xPre G ρ σ)) as :=
  ⟨x_blind, fun U hU hW => ⟨rfl, by rw [hU]; exact hH.1, xEnv.moved hW (by rw [hU]; exact hH.2.1.1) (fun q h1 h2 => by rw [hU]; exact hH.2.1.2.1 q h1 h2) hE⟩⟩
theorem t0_in {Ts ws : List Cond} (h1 : ∀ w ∈ Ts, w ∈ T0) (h2 : ∀ w ∈ ws, w ∈ Ts) : GoodIn Ts ws := fun w hw => ⟨h2 w hw, good_of_word (t0_good (h1 w (h2 w hw)))⟩
theorem goodV {idx : Nat} {C : String} {y : MethodName} {w0 : Cond} (h1 : Cond.methodLink own idx y ∈ T0) (h2 : Cond.instanceMethod y ∈ T0) (h3 : Cond.selects C y y ∈ T0) (h4 : Cond.initialized C ∈ T0) (h5 : w0 ∈ T0) : GoodIn T0 (wsV own idx C y (w0 :: T0)) := by
  refine t0_in (fun w h => h) (fun w hw => ?_)
  simp only [wsV, List.cons_append, List.nil_append, List.mem_cons] at hw
  rcases hw with rfl | rfl | rfl | rfl | rfl | hw
  · exact h1
  · exact h2
  · exact h3
  · exact h4
  · exact h5
  · exact hw
theorem goodS {idx : Nat} {y : MethodName} {w0 : Cond} (h1 : Cond.methodLink own idx y ∈ T0) (h2 : Cond.static y ∈ T0) (h4 : Cond.initialized y.cls ∈ T0) (h5 : w0 ∈ T0) : GoodIn T0 (va_wsS own idx y (w0 :: T0)) := by
  refine t0_in (fun w h => h) (fun w hw => ?_)
  simp only [va_wsS, List.cons_append, List.nil_append, List.mem_cons] at hw
  rcases hw with rfl | rfl | rfl | rfl | hw
  · exact h1
  · exact h2
  · exact h4
  · exact h5
  · exact hw
theorem good0 {w0 : Cond} (h5 : w0 ∈ T0) : GoodIn T0 (w0 :: T0) := t0_in (fun w h => h) (fun w hw => by
  rcases List.mem_cons.mp hw with rfl | hw
  · exact h5
  · exact hw)
theorem x_callV (hC : xC G X own cc nL rm) {n0 : Nm} {ci idx maxL : Nat} {r : vw_C} {y : MethodName} {bytes : ByteArray} {ret : Option FieldType} {rm' : Room} {as rest st0 : List Value} (hk : hK σ n0 = ci + 1) (hc : vwCl[ci]? = some r) (hM : ∀ l : Launch, l.stackTraces = false → xMet l y (.code y bytes maxL ret) rm' G ρ σ (.ref (ρ n0) :: as) P Xp)
    (w1 : Cond.methodLink own idx y ∈ T0) (w2 : Cond.instanceMethod y ∈ T0) (w3 : Cond.selects r.1 y y ∈ T0) (w4 : Cond.initialized r.1 ∈ T0) (w5 : Cond.code y bytes maxL ret ∈ T0) (hd : y.cls = r.1 ∧ y.cls ≠ "java/lang/invoke/MethodHandle" ∧ y.cls ≠ "java/lang/invoke/VarHandle" ∧ (parseMethodDescriptor y.desc).map (fun d => d.parameters.length) = some as.length) (hR : rm'.frames + 1 ≤ rm.frames ∧ 8 + (maxL + 11) + rm'.locals ≤ rm.locals) (hf : k + rm'.cells ≤ rm.cells ∧ n + rm'.slots ≤ rm.slots)
    (hst : (rest.map fun v => v.category).sum ≤ 8) (hs0 : st0 = as.reverse ++ .ref (ρ n0) :: rest) (d : decode cc pc = .ok (.invokevirtual idx, 3))
    (kx : ∀ (E : String) (σ' : PH), Xp E σ' → xE G X Q nL ρ σ' (k + rm'.cells) (n + rm'.slots) pc L E) (kk : ∀ (v : Option Value) (σ' : PH) (ρ' : Nm → Nat), P v σ' ρ' → xAg σ ρ σ' ρ' → xJ G X Q nL ρ' σ' (k + rm'.cells) (n + rm'.slots) (pc + 3) L (v.toList ++ rest)) : xJ G X Q nL ρ σ k n pc L st0 := by
  obtain ⟨p, l, e, R, s, m, args, below, meth, c, σ0, ρ0⟩ := X
  obtain ⟨hx, hb, hml, hown, hts, hE, hlk, hst9, hRR⟩ := hC
  subst hRR
  intro H locs ls hH hlo
  obtain ⟨cell, q1, q2, q3, -⟩ := hH.1.obj hk hc
  have hpre := x_preS (as := .ref (ρ n0) :: as) hE hH
  exact x_callG (vx_runV (As := as) (rest := rest) (C := r.1) ⟨hx, hb, hml, hown, hts⟩ (hM l hst9) (cwV as.length hts (goodV w1 w2 w3 w4 w5) rfl rfl rfl hd hR) ⟨hpre.1, ⟨cell, q1, by rw [q3]; rfl, by rw [q2]; exact (hE.1.1 ci r hc).2.1⟩, hpre.2⟩ rfl rfl hlo.1 hs0 (lv_room hst) d hf) hH hlo kx kk
theorem x_callS (hC : xC G X own cc nL rm) {idx maxL : Nat} {y : MethodName} {bytes : ByteArray} {ret : Option FieldType} {rm' : Room} {as rest st0 : List Value} (hM : ∀ l : Launch, l.stackTraces = false → xMet l y (.code y bytes maxL ret) rm' G ρ σ as P Xp)
    (w1 : Cond.methodLink own idx y ∈ T0) (w2 : Cond.static y ∈ T0) (w4 : Cond.initialized y.cls ∈ T0) (w5 : Cond.code y bytes maxL ret ∈ T0) (hd : y.cls ≠ "java/lang/invoke/MethodHandle" ∧ y.cls ≠ "java/lang/invoke/VarHandle" ∧ (parseMethodDescriptor y.desc).map (fun d => d.parameters.length) = some as.length) (hR : rm'.frames + 1 ≤ rm.frames ∧ 8 + (maxL + 11) + rm'.locals ≤ rm.locals) (hf : k + rm'.cells ≤ rm.cells ∧ n + rm'.slots ≤ rm.slots)
    (hst : (rest.map fun v => v.category).sum ≤ 8) (hs0 : st0 = as.reverse ++ rest) (d : decode cc pc = .ok (.invokestatic idx, 3))
    (kx : ∀ (E : String) (σ' : PH), Xp E σ' → xE G X Q nL ρ σ' (k + rm'.cells) (n + rm'.slots) pc L E) (kk : ∀ (v : Option Value) (σ' : PH) (ρ' : Nm → Nat), P v σ' ρ' → xAg σ ρ σ' ρ' → xJ G X Q nL ρ' σ' (k + rm'.cells) (n + rm'.slots) (pc + 3) L (v.toList ++ rest)) : xJ G X Q nL ρ σ k n pc L st0 := by
  obtain ⟨p, l, e, R, s, m, args, below, meth, c, σ0, ρ0⟩ := X
  obtain ⟨hx, hb, hml, hown, hts, hE, hlk, hst9, hRR⟩ := hC
  subst hRR
  intro H locs ls hH hlo
  exact x_callG (vx_runS (As := as) (rest := rest) ⟨hx, hb, hml, hown, hts⟩ (hM l hst9) (va_cwS as.length hts (goodS w1 w2 w4 w5) rfl rfl rfl hd hR) (x_preS (as := as) hE hH) rfl rfl hlo.1 hs0 (lv_room hst) d hf) hH hlo kx kk
theorem x_callSW (hC : xC G X own cc nL rm) {idx maxL : Nat} {y : MethodName} {bytes : ByteArray} {ret : Option FieldType} {hh : List (Nat × Nat × Nat × Nat)} {rm' : Room} {as rest st0 : List Value} (hM : ∀ l : Launch, l.stackTraces = false → xMet l y (.codeWith y bytes maxL ret hh) rm' G ρ σ as P Xp)
    (w1 : Cond.methodLink own idx y ∈ T0) (w2 : Cond.static y ∈ T0) (w4 : Cond.initialized y.cls ∈ T0) (w5 : Cond.codeWith y bytes maxL ret hh ∈ T0) (hd : y.cls ≠ "java/lang/invoke/MethodHandle" ∧ y.cls ≠ "java/lang/invoke/VarHandle" ∧ (parseMethodDescriptor y.desc).map (fun d => d.parameters.length) = some as.length) (hR : rm'.frames + 1 ≤ rm.frames ∧ 8 + (maxL + 11) + rm'.locals ≤ rm.locals) (hf : k + rm'.cells ≤ rm.cells ∧ n + rm'.slots ≤ rm.slots)
    (hst : (rest.map fun v => v.category).sum ≤ 8) (hs0 : st0 = as.reverse ++ rest) (d : decode cc pc = .ok (.invokestatic idx, 3))
    (kx : ∀ (E : String) (σ' : PH), Xp E σ' → xE G X Q nL ρ σ' (k + rm'.cells) (n + rm'.slots) pc L E) (kk : ∀ (v : Option Value) (σ' : PH) (ρ' : Nm → Nat), P v σ' ρ' → xAg σ ρ σ' ρ' → xJ G X Q nL ρ' σ' (k + rm'.cells) (n + rm'.slots) (pc + 3) L (v.toList ++ rest)) : xJ G X Q nL ρ σ k n pc L st0 := by
  obtain ⟨p, l, e, R, s, m, args, below, meth, c, σ0, ρ0⟩ := X
  obtain ⟨hx, hb, hml, hown, hts, hE, hlk, hst9, hRR⟩ := hC
  subst hRR
  intro H locs ls hH hlo
  exact x_callG (vx_runSX (As := as) (rest := rest) ⟨hx, hb, hml, hown, hts⟩ (hM l hst9) (vx_cwSW as.length hts (goodS w1 w2 w4 w5) rfl rfl rfl hd hR) (x_preS (as := as) hE hH) rfl rfl hlo.1 hs0 (lv_room hst) d hf) hH hlo kx kk
theorem x_callI (hC : xC G X own cc nL rm) {b idx maxL : Nat} {y : MethodName} {bytes : ByteArray} {rm' : Room} {as rest st0 : List Value} (hM : ∀ l : Launch, l.stackTraces = false → xMet l y (.code y bytes maxL none) rm' G ρ σ (.ref b :: as) P Xp)
    (w1 : Cond.methodLink own idx y ∈ T0) (w2 : Cond.instanceMethod y ∈ T0) (w4 : Cond.initialized y.cls ∈ T0) (w5 : Cond.code y bytes maxL none ∈ T0) (hy : y.name = "<init>") (hd : y.cls ≠ "java/lang/invoke/MethodHandle" ∧ y.cls ≠ "java/lang/invoke/VarHandle" ∧ (parseMethodDescriptor y.desc).map (fun d => d.parameters.length) = some as.length) (hR : rm'.frames + 1 ≤ rm.frames ∧ 8 + (maxL + 11) + rm'.locals ≤ rm.locals) (hf : k + rm'.cells ≤ rm.cells ∧ n + rm'.slots ≤ rm.slots)
    (hst : (rest.map fun v => v.category).sum ≤ 8) (hs0 : st0 = as.reverse ++ .ref b :: rest) (d : decode cc pc = .ok (.invokespecial idx, 3))
    (kx : ∀ (E : String) (σ' : PH), Xp E σ' → xE G X Q nL ρ σ' (k + rm'.cells) (n + rm'.slots) pc L E) (kk : ∀ (v : Option Value) (σ' : PH) (ρ' : Nm → Nat), P v σ' ρ' → xAg σ ρ σ' ρ' → xJ G X Q nL ρ' σ' (k + rm'.cells) (n + rm'.slots) (pc + 3) L (v.toList ++ rest)) : xJ G X Q nL ρ σ k n pc L st0 := by
  obtain ⟨p, l, e, R, s, m, args, below, meth, c, σ0, ρ0⟩ := X
  obtain ⟨hx, hb, hml, hown, hts, hE, hlk, hst9, hRR⟩ := hC
  subst hRR
  intro H locs ls hH hlo
  exact x_callG (vx_runI (As := as) (rest := rest) ⟨hx, hb, hml, hown, hts⟩ (hM l hst9) (cwI as.length hts (good0 w5) rfl rfl rfl (hts _ w4) (hts _ w1) (hts _ w2) hy hd hR) (x_preS (as := .ref b :: as) hE hH) rfl rfl hlo.1 hs0 (lv_room hst) d hf) hH hlo kx kk
theorem x_callIN (hC : xC G X own cc nL rm) {b idx maxL : Nat} {y : MethodName} {host : String} {bytes : ByteArray} {rm' : Room} {as rest st0 : List Value} (hM : ∀ l : Launch, l.stackTraces = false → xMet l y (.code y bytes maxL none) rm' G ρ σ (.ref b :: as) P Xp)
    (w1 : Cond.methodLinkNest own idx y host ∈ T1) (w2 : Cond.instanceMethod y ∈ T0) (w4 : Cond.initialized y.cls ∈ T0) (w5 : Cond.code y bytes maxL none ∈ T0) (hy : y.name = "<init>") (hd : y.cls ≠ "java/lang/invoke/MethodHandle" ∧ y.cls ≠ "java/lang/invoke/VarHandle" ∧ (parseMethodDescriptor y.desc).map (fun d => d.parameters.length) = some as.length) (hR : rm'.frames + 1 ≤ rm.frames ∧ 8 + (maxL + 11) + rm'.locals ≤ rm.locals) (hf : k + rm'.cells ≤ rm.cells ∧ n + rm'.slots ≤ rm.slots)
    (hst : (rest.map fun v => v.category).sum ≤ 8) (hs0 : st0 = as.reverse ++ .ref b :: rest) (d : decode cc pc = .ok (.invokespecial idx, 3))
    (kx : ∀ (E : String) (σ' : PH), Xp E σ' → xE G X Q nL ρ σ' (k + rm'.cells) (n + rm'.slots) pc L E) (kk : ∀ (v : Option Value) (σ' : PH) (ρ' : Nm → Nat), P v σ' ρ' → xAg σ ρ σ' ρ' → xJ G X Q nL ρ' σ' (k + rm'.cells) (n + rm'.slots) (pc + 3) L (v.toList ++ rest)) : xJ G X Q nL ρ σ k n pc L st0 := by
  obtain ⟨p, l, e, R, s, m, args, below, meth, c, σ0, ρ0⟩ := X
  obtain ⟨hx, hb, hml, hown, hts, hE, hlk, hst9, hRR⟩ := hC
  subst hRR
  intro H locs ls hH hlo
  exact x_callG (vx_runIN (As := as) (rest := rest) ⟨hx, hb, hml, hown, hts⟩ (hM l hst9) ⟨va_cnB as.length hts (good0 w5) rfl rfl rfl (hE.2.2.2.2.1 _ w1) (hts _ w4) hd hR, hy, hts _ w2⟩ (x_preS (as := .ref b :: as) hE hH) rfl rfl hlo.1 hs0 (lv_room hst) d hf) hH hlo kx kk
theorem x_oinit (hC : xC G X own cc nL rm) {b idx : Nat} (w1 : Cond.methodLink own idx Lib.objectInit ∈ T0) (w2 : Cond.instanceMethod Lib.objectInit ∈ T0) (w3 : Cond.code Lib.objectInit ⟨#[0xb1]⟩ 1 none ∈ T0) (hR : 1 ≤ rm.frames) (hR2 : (st.map fun v => v.category).sum + 12 ≤ rm.locals) (d : decode cc pc = .ok (.invokespecial idx, 3)) (kk : xJ G X Q nL ρ σ k n (pc + 3) L st) : xJ G X Q nL ρ σ k n pc L (.ref b :: st) := by
  obtain ⟨p, l, e, R, s, m, args, below, meth, c, σ0, ρ0⟩ := X
  obtain ⟨hx, hb, hml, hown, hts, hE, hlk, hst9, hRR⟩ := hC
  subst hRR
  intro H locs ls hH hlo
  exact W.objInit hx hb hown (hts _ w1) (hts _ w2) (hts _ w3) rfl (by rw [hml]; exact hlo.1) rfl d hR (by show 2 * 0 + _ + 12 ≤ _; omega) (W.eq (g2 := F0 m (pc + 3) ls st) rfl (kk H locs ls hH hlo))
theorem x_abs (hC : xC G X own cc nL rm) {idx : Nat} {v : Int32} (w1 : Cond.methodLink own idx Lib.Math.abs.name ∈ T0) (w2 : Cond.static Lib.Math.abs.name ∈ T0) (w3 : Cond.initialized "java/lang/Math" ∈ T0) (w4 : Cond.code Lib.Math.abs.name Lib.Math.abs.code 1 (some .int) ∈ T0) (hR : 1 ≤ rm.frames) (hR2 : (st.map fun v => v.category).sum + 13 ≤ rm.locals) (h1 : k ≤ rm.cells) (h2 : n ≤ rm.slots) (d : decode cc pc = .ok (.invokestatic idx, 3)) (kk : xJ G X Q nL ρ σ k n (pc + 3) L (.int (if 0 ≤ v then v else 0 - v) :: st)) : xJ G X Q nL ρ σ k n pc L (.int v :: st) := by
  obtain ⟨p, l, e, R, s, m, args, below, meth, c, σ0, ρ0⟩ := X
  obtain ⟨hx, hb, hml, hown, hts, hE, hlk, hst9, hRR⟩ := hC
  subst hRR
  intro H locs ls hH hlo
  exact va_mabs hx hb (hml.trans hlo.1.symm) hown (hts _ w1) (hts _ w2) (hts _ w3) (hts _ w4) hR hR2 h1 h2 d (kk H locs ls hH hlo)
theorem x_min (hC : xC G X own cc nL rm) {idx : Nat} {v w : Int32} (w1 : Cond.methodLink own idx Lib.Math.min.name ∈ T0) (w2 : Cond.static Lib.Math.min.name ∈ T0) (w3 : Cond.initialized "java/lang/Math" ∈ T0) (w4 : Cond.code Lib.Math.min.name Lib.Math.min.code 2 (some .int) ∈ T0) (hR : 1 ≤ rm.frames) (hR2 : (st.map fun v => v.category).sum + 13 ≤ rm.locals) (h1 : k ≤ rm.cells) (h2 : n ≤ rm.slots) (d : decode cc pc = .ok (.invokestatic idx, 3)) (kk : xJ G X Q nL ρ σ k n (pc + 3) L (.int (if w < v then w else v) :: st)) : xJ G X Q nL ρ σ k n pc L (.int w :: .int v :: st) := by
  obtain ⟨p, l, e, R, s, m, args, below, meth, c, σ0, ρ0⟩ := X
  obtain ⟨hx, hb, hml, hown, hts, hE, hlk, hst9, hRR⟩ := hC
  subst hRR
  intro H locs ls hH hlo
  exact va_mmin hx hb (hml.trans hlo.1.symm) hown (hts _ w1) (hts _ w2) (hts _ w3) (hts _ w4) hR hR2 h1 h2 d (kk H locs ls hH hlo)
/-- 'throw new E(text)' in PlantServer -/
def xEx : List (String × Nat × Nat) := [(xIO, 185, 189), (xIA, 109, 113), (xIS, 59, 63), (xNE, 198, 202)]
def xNs : List String := ["java/lang/RuntimeException", "java/lang/Exception"]
theorem x_throw (hC : xC G X "PlantServer" cc nL rm) (h0 : xR0 X ρ) (htab : xTab X []) {E text : String} {ik is ic : Nat} (hq : ("PlantServer", is, text) ∈ xStrs) (hcls : Bundle.fit E = true) (w1 : Cond.classLink "PlantServer" ik E ∈ T0) (w2 : Cond.initialized E ∈ T0) (hat : ∀ w ∈ vx_atS "PlantServer" ic E xNs, w ∈ lw_tbl ∧ (goodWord w || isCD w) = true) (hgood : ∀ w ∈ Cond.classLink "PlantServer" ik E :: Cond.initialized E :: vx_atS "PlantServer" ic E xNs, vx_ot w = true)
    (d0 : decode cc pc = .ok (.new ik, 3)) (d3 : decode cc (pc + 3) = .ok (.dup, 1)) (d4 : decode cc (pc + 4) = .ok (.ldc is, 2)) (d6 : decode cc (pc + 6) = .ok (.invokespecial ic, 3)) (d9 : decode cc (pc + 9) = .ok (.athrow, 1)) (hF : 5 < rm.frames) (hL9 : (st.map fun v => v.category).sum + 82 ≤ rm.locals) (h1 : k + 1 ≤ rm.cells) (h2 : n + 6 ≤ rm.slots) (hp : Xp E σ) : xJ G X (xT X P Xp G rm) nL ρ σ k n pc L st := by
  obtain ⟨p, l, e, R, s, m, args, below, meth, c, σ0, ρ0⟩ := X
  obtain ⟨hx, hb, hml, hown, hts, hE, hlk, hst9, hRR⟩ := hC
  subst hRR
  intro H locs ls hH hlo
  cases (show ρ0 = ρ from h0)
  have htab : c.exceptionTable.toList = [] := htab
  obtain ⟨sa, hsa⟩ := hE.2.2.2.1 _ hq
  refine vx_throwS (A := xA G) hx hb hst9 (ik := ik) (is := is) (ic := ic) (cls := E) (text := text) (names := xNs) hown hcls (by decide +kernel) (hts _ w1) (hts _ w2) hsa (fun w hw => ?_) hgood hE.2.1 hE.2.2.1 hH.2.1 (by rw [hml]; exact hlo.1) d0 d3 d4 d6 d9 (by rw [htab]; intro x hx; cases hx) hF hL9 h1 h2 hlk (fun t hal hz hk => ⟨⟨σ, hp, ⟨fun n hn => ?_, hH.1.2.1, hH.1.2.2⟩, hH.2.2⟩, ⟨Nat.le_trans hH.2.1.1 hz, fun q q1 q2 => (hk q (Nat.lt_of_lt_of_le q1 hH.2.1.1)).trans (hH.2.1.2.1 q q1 q2)⟩⟩) hH.2.1.2.2 h1 h2
  · obtain ⟨a1, a2⟩ := hat w hw
    rw [Bool.or_eq_true] at a2
    rcases a2 with a2 | a2
    · exact hts w (t0_of a1 a2)
    · exact va_Nw.use (by cases w <;> simp [isCD] at a2 <;> rfl) (hE.2.2.2.2.1 w (List.mem_filter.mpr ⟨a1, a2⟩))
  · obtain ⟨b1, b2⟩ := hH.1.1 n hn
    refine ⟨b1, b2.same rfl rfl (fun _ => rfl) (fun _ => rfl) (fun _ => rfl) rfl (hk _ ?_)⟩
    unfold xat at b2
    split at b2
    · obtain ⟨r, -, cell, r2, -⟩ := b2
      exact (Array.getElem?_eq_some_iff.mp r2).1
    · exact (Array.getElem?_eq_some_iff.mp b2).1
end
/-- a method's contract out of the walk of its body -/
theorem xMet.of {l : Launch} {y : MethodName} {cc : ByteArray} {maxL : Nat} {ret : Option FieldType} {rm : Room} {G : xG} {ρ : Nm → Nat} {σ : PH} {as : List Value} {P : Option Value → PH → (Nm → Nat) → Prop} {Xp : String → PH → Prop} (hl : l.stackTraces = false) (hy : plainName y.cls = true) (hlen : (lg_sl as).length ≤ maxL)
    (body : ∀ X : xX, xC G X y.cls cc maxL rm → xRt X ret → xNm X y.name → xTab X [] → xR0 X ρ → xJ G X (xT X P Xp G rm) maxL ρ σ 0 0 0 (lv_args 0 as) []) : xMet l y (.code y cc maxL ret) rm G ρ σ as P Xp := by
  refine vx_ofW (cc := cc) (maxL := maxL) (ret := ret) hy rfl ?_
  intro p e s m args below meth c s₁ B hml ht hv
  obtain ⟨rfl, hw, hE⟩ := hv
  have hts := atoms_spec (ws := Cond.code y cc maxL ret :: T0) B.pre
  have h := body (p, l, e, rm, s, m, as.toArray, below, meth, c, σ, ρ) ⟨B.exec, B.bytes, hml, findClass_of_methodNamed B.named, fun w hw => hts w (List.mem_cons_of_mem _ hw), hE, B.notSynchronized, hl, rfl⟩ B.returns (name_of_methodNamed B.named B.method).1 (List.eq_nil_iff_forall_not_mem.mpr ht) rfl
  rw [lg_entry_eq]
  exact h s.heap [] _ ⟨hw, va_S.rf, xAg.rf⟩ (lv_entry as hlen)
theorem xMet.ofW {l : Launch} {y : MethodName} {cc : ByteArray} {maxL : Nat} {ret : Option FieldType} {hh : List (Nat × Nat × Nat × Nat)} {rm : Room} {G : xG} {ρ : Nm → Nat} {σ : PH} {as : List Value} {P : Option Value → PH → (Nm → Nat) → Prop} {Xp : String → PH → Prop} (hl : l.stackTraces = false) (hy : plainName y.cls = true) (hlen : (lg_sl as).length ≤ maxL)
    (body : ∀ X : xX, xC G X y.cls cc maxL rm → xRt X ret → xNm X y.name → xTab X hh → xR0 X ρ → xJ G X (xT X P Xp G rm) maxL ρ σ 0 0 0 (lv_args 0 as) []) : xMet l y (.codeWith y cc maxL ret hh) rm G ρ σ as P Xp := by
  refine vx_ofWH (cc := cc) (maxL := maxL) (ret := ret) (hh := hh) hy rfl ?_
  intro p e s m args below meth c s₁ B hml hv
  obtain ⟨rfl, hw, hE⟩ := hv
  have hts := atoms_spec (ws := Cond.codeWith y cc maxL ret hh :: T0) B.pre
  have h := body (p, l, e, rm, s, m, as.toArray, below, meth, c, σ, ρ) ⟨B.exec, B.bytes, hml, findClass_of_methodNamed B.named, fun w hw => hts w (List.mem_cons_of_mem _ hw), hE, B.notSynchronized, hl, rfl⟩ B.returns (name_of_methodNamed B.named B.method).1 (vx_table (x := y) B (hts _ List.mem_cons_self)) rfl
  rw [lg_entry_eq]
  exact h s.heap [] _ ⟨hw, va_S.rf, xAg.rf⟩ (lv_entry as hlen)
