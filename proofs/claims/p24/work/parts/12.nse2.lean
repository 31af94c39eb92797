def vat13 (own : String) (ic : Nat) (cls sup : String) (ix : Nat) (rx : ByteArray) (names : List String) : List Cond := (at13 own ic cls sup ix rx names).filter vx_no
section
variable {p : Program} {l : Launch} {e : Env} {R : Room} {s : State} {m : MethodId} {args : Array Value} {below : List Frame} {meth : Method} {c : Code} {H : Heap} {locs : List Loc} {cells slots : Nat} {free : Addr → Prop} {ls : Array Slot} {rest : List Value} {Qc : Array Value → State → Outcome → State → Prop} {XC : String → State → State → Prop}
theorem w_throw13 {cc : ByteArray} {pc : Nat} (hexec : p.tables.exec = Jvm.exec) (hb : c.code = cc) (hl : l.stackTraces = false) {own cls sup text : String} {ix : Nat} {rx : ByteArray} {names : List String} {ik is ic mc ms sa : Nat} {A : Nat → Prop}
    (x0 : decode rx 0 = .ok (.aload_n 0, 1)) (x1 : decode rx 1 = .ok (.aload_n 1, 1)) (x2 : decode rx 2 = .ok (.invokespecial ix, 3)) (x5 : decode rx 5 = .ok (.return_, 1))
    (hown : s.vm.findClass own = some m.cls) (hcls : Bundle.fit cls = true) (hsup : Bundle.fit sup = true) (hnames : ∀ n ∈ names, Bundle.fit n = true)
    (hk : (Cond.classLink own ik cls).before args s = true) (hini : (Cond.initialized cls).before args s = true) (hstr : vk_R own is text sa s) (hat : ∀ w ∈ vat13 own ic cls sup ix rx names, w.before args s = true)
    (hgood : ∀ w ∈ Cond.classLink own ik cls :: Cond.initialized cls :: vat13 own ic cls sup ix rx names, vx_ot w = true)
    (hU : vx_Zq Bundle.tN "UNASSIGNED_STACK" Bundle.steD A s s.heap) (hN : vx_Zq Bundle.tN "SUPPRESSED_SENTINEL" Bundle.listD A s s.heap) (hS : va_S A s.heap H locs) (hsize : ls.size = c.maxLocals)
    (d0 : decode cc pc = .ok (.new ik, 3)) (d3 : decode cc (pc + 3) = .ok (.dup, 1)) (d4 : decode cc (pc + 4) = .ok (.ldc is, 2)) (d6 : decode cc (pc + 6) = .ok (.invokespecial ic, 3)) (d9 : decode cc (pc + 9) = .ok (.athrow, 1))
    (hout : ∀ x ∈ c.exceptionTable.toList, covers x (pc + 9) = false)
    (hRframes : names.length + 4 < R.frames) (hRlocals : (rest.map fun v => v.category).sum + (13 * (names.length + 2) + 43) ≤ R.locals) (hRcells : cells + 1 ≤ R.cells) (hRslots : slots + 6 ≤ R.slots) (hlocks : meth.locks = false)
    (hx : ∀ t : State, s.vm.Alike t.vm → H.size ≤ t.heap.size → (∀ q : Nat, q < H.size → t.heap[q]? = H[q]?) → XC cls s t)
    (hf : ∀ z ∈ locs, free z.base) (hc : cells + 1 ≤ mc) (hs : slots + 6 ≤ ms) :
    W p l e R s m args below meth c H locs cells slots (vx_MQ below Qc XC args s mc ms free) (F0 m pc ls rest) := by
  intro T hT X
  have htr : e.platform.stackTraces = false := (show e.platform.stackTraces = l.stackTraces by rw [X.admits.platform]).trans hl
  have Y := vx_rebase X (R' := { frames := R.frames, locals := R.locals, cells := 1, slots := 6 }) (Nat.le_refl _) (Nat.le_refl _) hRcells hRslots
  obtain ⟨s', hA⟩ : ∃ z, z = (T.setVm s.vm).setFrames (.invoking m args :: below) := ⟨_, rfl⟩
  rw [← hA] at Y
  have hvm : s'.vm = s.vm := by rw [hA]; rfl
  have hhp : s'.heap = H := by rw [hA]; exact hT
  have hW0 : s.WarmedH s'.vm := by rw [hvm]; exact State.WarmedH.refl s
  have hat' : ∀ w ∈ vat13 own ic cls sup ix rx names, w.before args s' = true := fun w hw => vx_ot_at hW0 hvm.symm (hgood w (List.mem_cons_of_mem _ (List.mem_cons_of_mem _ hw))) (hat w hw)
  have hk' : (Cond.classLink own ik cls).before args s' = true := vx_ot_at hW0 hvm.symm (hgood _ List.mem_cons_self) hk
  have hini' : (Cond.initialized cls).before args s' = true := vx_ot_at hW0 hvm.symm (hgood _ (List.mem_cons_of_mem _ List.mem_cons_self)) hini
  have hU' : vx_Zq Bundle.tN "UNASSIGNED_STACK" Bundle.steD A s' s'.heap := by rw [hhp]; exact vx_Zq.moved hW0.alike (hU.kept hS.2.1)
  have hN' : vx_Zq Bundle.tN "SUPPRESSED_SENTINEL" Bundle.listD A s' s'.heap := by rw [hhp]; exact vx_Zq.moved hW0.alike (hN.kept hS.2.1)
  have h : ∀ w ∈ at13 own ic cls sup ix rx names, w.before args s' = true := vx_own hat' (vx_isRefq hU'.1) (vx_isRefq hN'.1) hU'.2.word hN'.2.word
  have hown' : s'.vm.findClass own = some m.cls := by rw [hvm]; exact hown
  have hins : (Cond.instantiable cls 6).before args s' = true := h _ (by simp [at13])
  obtain ⟨vm₁, cX, kX, hfX, hkX, -, -, X₁, st1⟩ := Y.newCold hexec (own := own) (C := cls) (index := ik) (n := 6) hown' hk' hins hini'
    (g := F0 m pc ls rest) rfl (by rw [hb]; exact d0) (Nat.le_refl _) (Nat.le_refl _)
  generalize hT1 : (T.setVm vm₁).pushCell { cls := cX, slots := kX.instanceTypes.map defaultValue, vm := .none } = T1 at X₁ st1
  have hcat : (Value.ref T.heap.size).category = 1 := rfl
  have hcellA : T1.heap[T.heap.size]? = some (freshCell cX kX) := by rw [← hT1]; exact State.heap_pushCell_size _ _
  have d3' : decode c.code (pc + 3) = .ok (.dup, 1) := by rw [hb]; exact d3
  have d4' : decode c.code (pc + 4) = .ok (.ldc is, 2) := by rw [hb]; exact d4
  have hstr' : vk_R own is text sa s' := vk_R.warm hW0 hstr
  obtain ⟨U, hsteps, hrun, hend, hW, hsame, ce, hce, hcv, hcc⟩ := x_ctor13 X₁ hexec htr (own := own) (cls := cls) (sup := sup) (names := names) (ic := ic) x0 x1 x2 x5 hown' hcls hsup hnames h (fun x hx => nomatch hx) hfX hkX hcellA (by rw [hhp, hT]; exact Nat.le_refl _) (msg := .ref sa) rfl
    (g := { method := m, pc := pc + 6, locals := ls, stack := .ref sa :: .ref T.heap.size :: .ref T.heap.size :: rest, locked := none }) rfl hsize rfl rfl (rest := rest) rfl
    (by rw [hb]; exact d6) (by rw [hb]; exact d9) hout hRframes (by simp only [List.map_cons, List.sum_cons, hcat]; omega) hlocks
  obtain ⟨f1, f2⟩ := vx_frame hsame
  rw [hhp] at f1 f2
  have hWs : s.WarmedH U.vm := State.WarmedH.trans hW0 hW
  have hcl : s.vm.findClass cls = some ce.cls := by
    rw [hcc, ← hvm]; exact hfX
  have hall : s.sameButNew ({ U with vm := s.vm } : State) locs mc ms := by
    subst hA
    obtain ⟨e1, e2⟩ := hsame
    rw [State.setFrames_setFrames] at e1
    have h2 : (T.setVm s.vm).sameButNew ({ U with vm := s.vm } : State) [] (0 + 1) (0 + 6) := ⟨e1, e2⟩
    have h3 := X.same.trans h2
    rw [List.append_nil] at h3
    exact h3.mono hc hs
  refine ⟨U, ?_, .threw T.heap.size, hrun, hend, Or.inr ⟨T.heap.size, rfl, cls, ce, locs, hx U hWs.alike f1 (fun q hq => f2 q hq (fun z hz => nomatch hz)), hce, hcv, hcl, hWs, hall, hf⟩⟩
  refine st1 _ ?_
  show Steps p.tables e below (T1.setTop { method := m, pc := pc + 3, locals := ls, stack := .ref T.heap.size :: rest, locked := none }) _
  jvm_step X₁.here [X₁.here.top, hexec, d3', Value.category]
  exact X₁.ldcString hexec (own := own) (text := text) (index := is) (a := sa) hown' hstr'.1 hstr'.2
    (g := { method := m, pc := pc + 4, locals := ls, stack := .ref T.heap.size :: .ref T.heap.size :: rest, locked := none }) rfl d4' _ hsteps
end
section
variable {G : xG} {X : xX} {nL : Nat} {rm : Room} {cc : ByteArray} {ρ : Nm → Nat} {σ : PH} {k n pc : Nat} {L : List (Nat × Value)} {st : List Value} {P : Option Value → PH → (Nm → Nat) → Prop} {Xp : String → PH → Prop}
theorem xhat_xNE : ∀ w ∈ vat13 "PlantServer" 202 xNE "java/lang/RuntimeException" 13 prog_19_method_4_code ["java/lang/Exception"], w ∈ lw_tbl ∧ (goodWord w || isCD w) = true := by decide +kernel
theorem xgood_xNE : ∀ w ∈ Cond.classLink "PlantServer" 198 xNE :: Cond.initialized xNE :: vat13 "PlantServer" 202 xNE "java/lang/RuntimeException" 13 prog_19_method_4_code ["java/lang/Exception"], vx_ot w = true := by decide +kernel
theorem x_throwN (hC : xC G X "PlantServer" cc nL rm) (h0 : xR0 X ρ) (htab : xTab X []) {text : String} {is : Nat} (hq : ("PlantServer", is, text) ∈ xStrs) (w1 : Cond.classLink "PlantServer" 198 xNE ∈ T0) (w2 : Cond.initialized xNE ∈ T0)
    (d0 : decode cc pc = .ok (.new 198, 3)) (d3 : decode cc (pc + 3) = .ok (.dup, 1)) (d4 : decode cc (pc + 4) = .ok (.ldc is, 2)) (d6 : decode cc (pc + 6) = .ok (.invokespecial 202, 3)) (d9 : decode cc (pc + 9) = .ok (.athrow, 1)) (hF : 5 < rm.frames) (hL9 : (st.map fun v => v.category).sum + 82 ≤ rm.locals) (h1 : k + 1 ≤ rm.cells) (h2 : n + 6 ≤ rm.slots) (hp : Xp xNE σ) : xJ G X (xT X P Xp G rm) nL ρ σ k n pc L st := by
  obtain ⟨p, l, e, R, s, m, args, below, meth, c, σ0, ρ0⟩ := X
  obtain ⟨hx, hb, hml, hown, hts, hE, hlk, hst9, hRR⟩ := hC
  subst hRR
  intro H locs ls hH hlo
  cases (show ρ0 = ρ from h0)
  have htab : c.exceptionTable.toList = [] := htab
  obtain ⟨sa, hsa⟩ := hE.2.2.2.1 _ hq
  refine w_throw13 (A := xA G) hx hb hst9 (ik := 198) (is := is) (ic := 202) (cls := xNE) (sup := "java/lang/RuntimeException") (ix := 13) (rx := prog_19_method_4_code) (text := text) (names := ["java/lang/Exception"]) (by decide +kernel) (by decide +kernel) (by decide +kernel) (by decide +kernel) hown (by decide +kernel) (by decide +kernel) (by decide +kernel) (hts _ w1) (hts _ w2) hsa (fun w hw => ?_) xgood_xNE hE.2.1 hE.2.2.1 hH.2.1 (by rw [hml]; exact hlo.1) d0 d3 d4 d6 d9 (by rw [htab]; intro x hx; cases hx) hF hL9 h1 h2 hlk (fun t hal hz hk => ⟨⟨σ, hp, ⟨fun n hn => ?_, hH.1.2.1, hH.1.2.2⟩, hH.2.2⟩, ⟨Nat.le_trans hH.2.1.1 hz, fun q q1 q2 => (hk q (Nat.lt_of_lt_of_le q1 hH.2.1.1)).trans (hH.2.1.2.1 q q1 q2)⟩⟩) hH.2.1.2.2 h1 h2
  · obtain ⟨a1, a2⟩ := xhat_xNE w hw
    rw [Bool.or_eq_true] at a2
    rcases a2 with a2 | a2
    · exact hts w (t0_of a1 a2)
    · exact va_Nw.use (by cases w <;> simp [isCD] at a2 <;> rfl) (hE.2.2.2.2.1 w (List.mem_filter.mpr ⟨a1, a2⟩))
  · obtain ⟨b1, b2⟩ := hH.1.1 n hn
    refine ⟨b1, b2.same rfl rfl (fun _ => rfl) (fun _ => rfl) (fun _ => rfl) rfl (hk _ ?_)⟩
    unfold xat at b2
    split at b2
    · obtain ⟨r, -, cell, r2, -⟩ := b2
      exact (Array.getElem?_eq_some_iff.mp r2).1
    · exact (Array.getElem?_eq_some_iff.mp b2).1
end
