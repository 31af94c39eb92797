section
/-! ===== BEGIN words of one list among another's, by their places ===== -/
theorem goodIn_r {big : List Cond} (ws : List Cond) (ps : List Nat) (hp : ws = ps.filterMap (fun i => big[i]?)) (h : ws.all goodWord = true) : GoodIn big ws := by
  intro w hw
  have h1 := List.all_eq_true.mp h w hw
  rw [hp] at hw
  obtain ⟨i, -, hi⟩ := List.mem_filterMap.mp hw
  have hm : w ∈ big := by first | exact List.mem_of_getElem? hi | exact List.getElem?_mem hi
  exact ⟨hm, good_of_word h1⟩
theorem goodIn_app {big a b : List Cond} (ha : GoodIn big a) (hb : GoodIn big b) : GoodIn big (a ++ b) := fun w h => (List.mem_append.mp h).elim (ha w) (hb w)
theorem goodIn_ca {big a b : List Cond} {c : Cond} (ha : GoodIn big (c :: a)) (hb : GoodIn big b) : GoodIn big (c :: (a ++ b)) := fun w h => (List.mem_cons.mp h).elim (fun e => ha w (List.mem_cons.mpr (Or.inl e))) (fun h => (List.mem_append.mp h).elim (fun h => ha w (List.mem_cons.mpr (Or.inr h))) (hb w))
theorem goodIn_sub {big ws : List Cond} (hm : ∀ w ∈ ws, w ∈ big) (h : ws.all goodWord = true) : GoodIn big ws := fun w hw => ⟨hm w hw, good_of_word (List.all_eq_true.mp h w hw)⟩
/-! ===== END ===== -/

/-! ===== BEGIN exceptions that leave a method, and their catching by the caller (launches without stack traces) ===== -/
section VXA
/-! The laws vx_back, vx_callV, vx_callS, vx_callSW, vx_throw0, vx_throwS follow proofs of the library, with one case more: JvmDerived/Free/Laws.lean (Back.of_free), Shelf42/LK1.lean (callV, callS), Shelf/KitTraced.lean (throwNew0V, throwNewS). -/
/-- where a method has thrown q: the class by its name, the cell, what was written, the world -/
def vx_T (XC : String → State → State → Prop) (st : State) (q : Addr) (t : State) (mc ms : Nat) (free : Addr → Prop) : Prop :=
  ∃ (E : String) (ce : Cell) (L : List Loc), XC E st t ∧ t.heap[q]? = some ce ∧ ce.vm = .none ∧ st.vm.findClass E = some ce.cls ∧ st.WarmedH t.vm ∧ st.sameButNew ({ t with vm := st.vm } : State) L mc ms ∧ ∀ z ∈ L, free z.base
def vx_Q (Qc : Array Value → State → Outcome → State → Prop) (XC : String → State → State → Prop) (mc ms : Nat) (free : Addr → Prop) : Array Value → State → Outcome → State → Prop := fun a st o t =>
  (Qc a st o t ∧ ∃ L, FrameEnd st o t L mc ms ∧ ∀ q ∈ L, free q.base) ∨ ∃ q, o = .threw q ∧ vx_T XC st q t mc ms free
/-- a callee that returns or throws -/
def vx_Met (l : Launch) (y : MethodName) (ws : List Cond) (rm : Room) (Pc : Array Value → State → Prop) (Qc : Array Value → State → Outcome → State → Prop) (XC : String → State → State → Prop) (mc ms : Nat) (free : Addr → Prop) : Prop :=
  MetFree l y (headSpec ws rm) Pc (fun _ _ _ _ _ => True) (vx_Q Qc XC mc ms free)
def vx_Post (XC : String → State → State → Prop) (mc ms : Nat) (free : Addr → Prop) : Pt → Array Value → Addr → Pt → Prop := fun A a q B =>
  ∃ (g : JFrame) (mk : MethodId) (t : State) (L : List Loc) (E : String) (ce : Cell), B.U.heap = t.heap ∧ B.U.vm = t.vm ∧ XC E (A.U.calling g mk a) t ∧ t.heap[q]? = some ce ∧ ce.vm = .none ∧ A.U.vm.findClass E = some ce.cls ∧ B.locs = A.locs ++ L ∧ (∀ z ∈ L, free z.base) ∧ B.cells = A.cells + mc ∧ B.slots = A.slots + ms
def vx_Back (l : Launch) (R : Room) (p : Program) (e : Env) (below : List Frame) (s : State) (sargs : Array Value) (y : MethodName) (len W9 : Nat)
    (Pre : Pt → Array Value → Prop) (Post : Pt → Array Value → Option Value → Pt → Prop) (PostX : Pt → Array Value → Addr → Pt → Prop) : Prop :=
  ∀ (m : MethodId) (meth : Method) (c : Code) (A : Pt) (g : JFrame) (ig : Instr) (mk : MethodId) (a : Array Value),
    Stand p l e R s m sargs below meth c A.U A.locs A.cells A.slots → g.method = m → g.locals.size = c.maxLocals → decode c.code g.pc = .ok (ig, len) →
    2 * g.monitorRoom + (g.stack.map fun v => v.category).sum ≤ W9 → A.U.methodNamed? y = some mk → Pre A a →
    (∃ (v : Option Value) (B : Pt), Stand p l e R s m sargs below meth c B.U B.locs B.cells B.slots ∧ Post A a v B ∧
      Steps p.tables e below (doInvoke e (A.U.setTop g) [] mk a).1 (B.U.setTop { g with pc := g.pc + len, stack := v.toList ++ g.stack })) ∨
    (∃ (q : Addr) (B : Pt), Stand p l e R s m sargs below meth c B.U B.locs B.cells B.slots ∧ PostX A a q B ∧
      Steps p.tables e below (doInvoke e (A.U.setTop g) [] mk a).1 ((B.U.setTop g).pushFrame (.throwing q)))
section Payer
variable {l : Launch} {R : Room} {p : Program} {e : Env} {below : List Frame} {s : State} {sargs : Array Value} {y : MethodName} {len W9 : Nat}
theorem vx_back {ws : List Cond} {rm : Room} {Pc : Array Value → State → Prop} {Qc : Array Value → State → Outcome → State → Prop} {XC : String → State → State → Prop} {mc ms : Nat} {free : Addr → Prop} {bytes : ByteArray} {maxL : Nat} {ret : Option FieldType}
    (hM : vx_Met l y ws rm Pc Qc XC mc ms free) (hblind : FrameBlind Pc) (hrc : rm.cells = mc) (hrs : rm.slots = ms)
    (hframes : rm.frames + 1 ≤ R.frames) (hlocals : W9 + (maxL + 11) + rm.locals ≤ R.locals)
    (hws : ∀ w ∈ ws, ∀ a' U, s.WarmedH U.vm → w.before a' U = true) (hcode : Cond.code y bytes maxL ret ∈ ws) (hinit : ∀ a' U, s.WarmedH U.vm → (Cond.initialized y.cls).before a' U = true) :
    vx_Back l R p e below s sargs y len W9 (PreOf R mc ms Pc) (PostOf Qc mc ms free) (vx_Post XC mc ms free) := by
  intro m meth c A g ig mk a X hg hsize hdg hW hn hp
  have h1 : (headSpec ws rm).pre.before a A.U = true := atoms_intro fun w hw => hws w hw _ _ X.warmed
  have h2 : (Cond.code y bytes maxL ret).before a A.U = true := hws _ hcode _ _ X.warmed
  have h3 : (Cond.initialized y.cls).before a A.U = true := hinit _ _ X.warmed
  have h4 : A.cells + (headSpec ws rm).room.cells ≤ R.cells := by rw [show (headSpec ws rm).room.cells = mc from hrc]; exact hp.1
  have h5 : A.slots + (headSpec ws rm).room.slots ≤ R.slots := by rw [show (headSpec ws rm).room.slots = ms from hrs]; exact hp.2.1
  have hPc : Pc a (A.U.calling g mk a) := hblind _ _ _ _ hp.2.2
  obtain ⟨U, Ls, c0, s0⟩ := A
  dsimp only [Pt.U, Pt.locs, Pt.cells, Pt.slots] at h1 h2 h3 h4 h5 X hn hPc ⊢
  obtain ⟨methY, cY, hmY, hcY, -, hlY, -, -, -, -⟩ := Cond.code_spec hn h2
  obtain ⟨kY, hkY, -⟩ := className_of_methodNamed hn
  have hinitY : kY.init = .initialized := Cond.initialized_spec (findClass_of_methodNamed hn) hkY h3
  have h : At U g.method c below := by rw [hg]; exact X.here
  have hlocals9 : W9 + (maxL + 11) + (headSpec ws rm).room.locals ≤ R.locals := hlocals
  have happ : (headSpec ws rm).appliesLoose y e.platform (U.calling g mk a) = true :=
    Spec.appliesLoose_calling (g := g) h hdg hn hkY hinitY
      (X.room_calling (g := g) (R' := (headSpec ws rm).room) hsize hmY hcY hframes (by rw [hlY]; omega) h4 h5) h1
  obtain ⟨mid, hmid⟩ := h.above
  have hfr : (U.setTop g).frames = (.java g :: mid) ++ below := by rw [State.frames_setTop' g h.top, hmid]; rfl
  obtain ⟨o, s₂, hsteps, -, hend, hq⟩ := Steps.callFree hM p X.admits X.cas X.clock (acts := []) hfr happ hPc trivial
  have hq' : vx_Q Qc XC mc ms free a (U.calling g mk a) o s₂ := hq
  rw [State.frames_setTop' g h.top] at hend
  obtain ⟨g₀, hg0⟩ := Option.isSome_iff_exists.mp h.top
  obtain ⟨r, hr⟩ := State.topJava?_eq_some.mp hg0
  have hr' : (({ U with heap := s₂.heap, slotsUsed := s₂.slotsUsed } : State).setVm s₂.vm).frames = .java g₀ :: r := hr
  rcases hq' with ⟨hqc, L, hfe, hL⟩ | ⟨q, rfl, E, ce, L, hx, hce, hcv, hcl, hW₂, hsm, hL⟩
  · obtain ⟨⟨v, rfl⟩, hW₂, e2, q2, q3, q4, q5, q6⟩ := id hfe
    have e3 : s₂ = ({ (U.calling g mk a).setFrames s₂.frames with heap := s₂.heap, slotsUsed := s₂.slotsUsed } : State).setVm s₂.vm := by
      have : s₂ = ({ s₂ with vm := (U.calling g mk a).vm } : State).setVm s₂.vm := rfl
      rw [e2] at this
      exact this
    obtain ⟨c₂, i₂, len₂, hc₂, hd₂, hf₂⟩ := hend
    have hW' : U.WarmedH s₂.vm := hW₂
    have hcc : c₂ = c := by
      have h1 : s₂.code? g.method = U.code? g.method := by
        rw [State.code?_eq, State.code?_eq, hW'.alike.method?]
      exact Option.some.inj (hc₂.symm.trans (h1.trans h.code))
    subst hcc
    have hlen : len₂ = len := by rw [hdg] at hd₂; cases hd₂; rfl
    subst hlen
    have hs₂ : s₂ = (({ U with heap := s₂.heap, slotsUsed := s₂.slotsUsed } : State).setVm s₂.vm).setTop { g with pc := g.pc + len₂, stack := v.toList ++ g.stack } := by
      refine e3.trans ?_
      rw [hf₂, State.calling_eq h.top, State.setFrames_setFrames, State.setTop_of_frames _ hr', hr]
      rfl
    have hsame : U.sameButNew ({ U with heap := s₂.heap, slotsUsed := s₂.slotsUsed } : State) L mc ms := by
      refine ⟨?_, q2, q3, q4, q5, q6⟩
      obtain ⟨t, ht, -⟩ := State.frames_cons hr
      show ({ U with heap := s₂.heap, slotsUsed := s₂.slotsUsed } : State) = { U.setFrames U.frames with heap := s₂.heap, slotsUsed := s₂.slotsUsed }
      rw [State.setFrames_self ht]
    subst hg
    refine Or.inl ⟨v, ⟨(({ U with heap := s₂.heap, slotsUsed := s₂.slotsUsed } : State).setVm s₂.vm), Ls ++ L, c0 + mc, s0 + ms⟩,
      ⟨X.admits, X.cas, X.clock, X.frames, X.room, X.hears, X.method, X.code, (X.here.setHeapUsed s₂.heap s₂.slotsUsed).setVm hW'.alike, X.tail, State.WarmedH.trans X.warmed hW', X.limits, X.bytes, X.same.trans (hsame.setVm s.vm)⟩,
      ⟨g, mk, s₂, L, rfl, rfl, hqc, rfl, hL, rfl, rfl⟩, ?_⟩
    show Steps p.tables e below _ ((({ U with heap := s₂.heap, slotsUsed := s₂.slotsUsed } : State).setVm s₂.vm).setTop { g with pc := g.pc + len₂, stack := v.toList ++ g.stack })
    rw [← hs₂]
    exact hsteps
  · obtain ⟨e2, q2, q3, q4, q5, q6⟩ := id hsm
    have e3 : s₂ = ({ (U.calling g mk a).setFrames s₂.frames with heap := s₂.heap, slotsUsed := s₂.slotsUsed } : State).setVm s₂.vm := by
      have : s₂ = ({ s₂ with vm := (U.calling g mk a).vm } : State).setVm s₂.vm := rfl
      rw [e2] at this
      exact this
    have hf₂ : s₂.frames = .throwing q :: .java g :: U.frames.tail := hend
    have hW' : U.WarmedH s₂.vm := hW₂
    have hs₂ : s₂ = ((({ U with heap := s₂.heap, slotsUsed := s₂.slotsUsed } : State).setVm s₂.vm).setTop g).pushFrame (.throwing q) := by
      refine e3.trans ?_
      rw [hf₂, State.calling_eq h.top, State.setFrames_setFrames, State.pushFrame, State.frames_setTop _ hr', State.setTop_of_frames _ hr', State.setFrames_setFrames, hr]
      rfl
    have hsame : U.sameButNew ({ U with heap := s₂.heap, slotsUsed := s₂.slotsUsed } : State) L mc ms := by
      refine ⟨?_, q2, q3, q4, q5, q6⟩
      obtain ⟨t, ht, -⟩ := State.frames_cons hr
      show ({ U with heap := s₂.heap, slotsUsed := s₂.slotsUsed } : State) = { U.setFrames U.frames with heap := s₂.heap, slotsUsed := s₂.slotsUsed }
      rw [State.setFrames_self ht]
    subst hg
    refine Or.inr ⟨q, ⟨(({ U with heap := s₂.heap, slotsUsed := s₂.slotsUsed } : State).setVm s₂.vm), Ls ++ L, c0 + mc, s0 + ms⟩,
      ⟨X.admits, X.cas, X.clock, X.frames, X.room, X.hears, X.method, X.code, (X.here.setHeapUsed s₂.heap s₂.slotsUsed).setVm hW'.alike, X.tail, State.WarmedH.trans X.warmed hW', X.limits, X.bytes, X.same.trans (hsame.setVm s.vm)⟩,
      ⟨g, mk, s₂, L, E, ce, rfl, rfl, hx, hce, hcv, hcl, rfl, hL, rfl, rfl⟩, ?_⟩
    show Steps p.tables e below _ (((({ U with heap := s₂.heap, slotsUsed := s₂.slotsUsed } : State).setVm s₂.vm).setTop g).pushFrame (.throwing q))
    rw [← hs₂]
    exact hsteps
end Payer
section Calls
variable {p : Program} {l : Launch} {e : Env} {R : Room} {s : State} {m : MethodId} {args : Array Value} {below : List Frame} {meth : Method} {c : Code} {T : State} {locs : List Loc} {cells slots : Nat}
theorem vx_callV (X : Stand p l e R s m args below meth c T locs cells slots) (hexec : p.tables.exec = Jvm.exec) {own C : String} {index : Nat} {y : MethodName} {bytes : ByteArray} {maxL : Nat} {ret : Option FieldType}
    (hown : s.vm.findClass own = some m.cls) (hlink : (Cond.methodLink own index y).before args s = true) (hinst : (Cond.instanceMethod y).before args s = true) (hsel : (Cond.selects C y y).before args s = true)
    (hcode : (Cond.code y bytes maxL ret).before args s = true) (hy : y.cls ≠ "java/lang/invoke/MethodHandle" ∧ y.cls ≠ "java/lang/invoke/VarHandle")
    {W9 : Nat} {Pre : Pt → Array Value → Prop} {Post : Pt → Array Value → Option Value → Pt → Prop} {PostX : Pt → Array Value → Addr → Pt → Prop} (hK : vx_Back l R p e below s args y 3 W9 Pre Post PostX)
    {b : Addr} {cellB : Cell} (hcell : T.heap[b]? = some cellB) (hobj : cellB.vm.isStatics = false) (hcls : s.vm.findClass C = some cellB.cls)
    {g : JFrame} (hg : g.method = m) (hsize : g.locals.size = c.maxLocals) {argsL rest : List Value} (hlen : ∀ sig, parseMethodDescriptor y.desc = some sig → argsL.length = sig.parameters.length)
    (hstack : g.stack = argsL.reverse ++ .ref b :: rest) (hW : 2 * g.monitorRoom + (rest.map fun v => v.category).sum ≤ W9) (hdg : decode c.code g.pc = .ok (.invokevirtual index, 3))
    (hpre : ∀ vm₁, s.WarmedH vm₁ → Pre ⟨T.setVm vm₁, locs, cells, slots⟩ (Value.ref b :: argsL).toArray) :
    (∃ (v : Option Value) (vm₁ : Vm) (B : Pt), s.WarmedH vm₁ ∧ Stand p l e R s m args below meth c B.U B.locs B.cells B.slots ∧ Post ⟨T.setVm vm₁, locs, cells, slots⟩ (Value.ref b :: argsL).toArray v B ∧
      ∀ target, Steps p.tables e below (B.U.setTop { g with pc := g.pc + 3, stack := v.toList ++ rest }) target → Steps p.tables e below (T.setTop g) target) ∨
    (∃ (q : Addr) (vm₁ : Vm) (B : Pt), s.WarmedH vm₁ ∧ Stand p l e R s m args below meth c B.U B.locs B.cells B.slots ∧ PostX ⟨T.setVm vm₁, locs, cells, slots⟩ (Value.ref b :: argsL).toArray q B ∧
      Steps p.tables e below (T.setTop g) ((B.U.setTop { g with stack := rest }).pushFrame (.throwing q))) := by
  obtain ⟨mk, methM, hnamed, hmethM, hstM, habM⟩ := Cond.instanceMethod_spec hinst
  obtain ⟨methM', cM, hmethM', -, -, -, -, -, -, hsigM⟩ := Cond.code_spec hnamed hcode
  cases hmethM.symm.trans hmethM'
  obtain ⟨c2, r2, m2, q1, q2, q3, q4, kP, hkP, hkPi⟩ := Cond.selects_spec hsel
  cases hcls.symm.trans q1
  cases (State.methodFound?_of_named hnamed hy).symm.trans q2
  cases hnamed.symm.trans q3
  have hselP : selectMethod e.platform s.vm cellB.cls mk = .method mk := by rw [Launch.admits_selectMethod X.admits]; exact q4
  obtain ⟨vm₁, X₁, hstep₁⟩ := X.invokevirtual hexec hown hlink hnamed hmethM hstM hkP hkPi hy (a := b) (cell := cellB) hcell
    (fun z h => by rw [h] at hobj; cases hobj) hselP hmethM habM hkP hkPi (g := g) hg (argsL := argsL) (rest := rest) (hlen _ hsigM) hstack hdg
  rcases hK m meth c ⟨T.setVm vm₁, locs, cells, slots⟩ { g with stack := rest } (.invokevirtual index) mk (Value.ref b :: argsL).toArray X₁ hg hsize hdg hW (X₁.named hnamed) (hpre vm₁ X₁.warmed) with ⟨v, B, X', hpost, hsteps⟩ | ⟨q, B, X', hpost, hsteps⟩
  · exact Or.inl ⟨v, vm₁, B, X₁.warmed, X', hpost, fun target h => hstep₁ _ fun acts => by rw [doInvoke_state]; exact hsteps.trans h⟩
  · exact Or.inr ⟨q, vm₁, B, X₁.warmed, X', hpost, hstep₁ _ fun acts => by rw [doInvoke_state]; exact hsteps⟩
theorem vx_callS (X : Stand p l e R s m args below meth c T locs cells slots) (hexec : p.tables.exec = Jvm.exec) {own : String} {index : Nat} {y : MethodName} {bytes : ByteArray} {maxL : Nat} {ret : Option FieldType}
    (hown : s.vm.findClass own = some m.cls) (hlink : (Cond.methodLink own index y).before args s = true) (hstat : (Cond.static y).before args s = true) (hinit : (Cond.initialized y.cls).before args s = true)
    (hcode : (Cond.code y bytes maxL ret).before args s = true) (hy : y.cls ≠ "java/lang/invoke/MethodHandle" ∧ y.cls ≠ "java/lang/invoke/VarHandle")
    {W9 : Nat} {Pre : Pt → Array Value → Prop} {Post : Pt → Array Value → Option Value → Pt → Prop} {PostX : Pt → Array Value → Addr → Pt → Prop} (hK : vx_Back l R p e below s args y 3 W9 Pre Post PostX)
    {g : JFrame} (hg : g.method = m) (hsize : g.locals.size = c.maxLocals) {argsL rest : List Value} (hlen : ∀ sig, parseMethodDescriptor y.desc = some sig → argsL.length = sig.parameters.length)
    (hstack : g.stack = argsL.reverse ++ rest) (hW : 2 * g.monitorRoom + (rest.map fun v => v.category).sum ≤ W9) (hdg : decode c.code g.pc = .ok (.invokestatic index, 3))
    (hpre : ∀ vm₁, s.WarmedH vm₁ → Pre ⟨T.setVm vm₁, locs, cells, slots⟩ argsL.toArray) :
    (∃ (v : Option Value) (vm₁ : Vm) (B : Pt), s.WarmedH vm₁ ∧ Stand p l e R s m args below meth c B.U B.locs B.cells B.slots ∧ Post ⟨T.setVm vm₁, locs, cells, slots⟩ argsL.toArray v B ∧
      ∀ target, Steps p.tables e below (B.U.setTop { g with pc := g.pc + 3, stack := v.toList ++ rest }) target → Steps p.tables e below (T.setTop g) target) ∨
    (∃ (q : Addr) (vm₁ : Vm) (B : Pt), s.WarmedH vm₁ ∧ Stand p l e R s m args below meth c B.U B.locs B.cells B.slots ∧ PostX ⟨T.setVm vm₁, locs, cells, slots⟩ argsL.toArray q B ∧
      Steps p.tables e below (T.setTop g) ((B.U.setTop { g with stack := rest }).pushFrame (.throwing q))) := by
  obtain ⟨mk, hnamed⟩ := Cond.code_named hcode
  obtain ⟨methM, cM, hmethM, -, -, -, -, -, -, hsigM⟩ := Cond.code_spec hnamed hcode
  have hstatic : methM.isStatic = true := Cond.static_spec hnamed hmethM hstat
  obtain ⟨kP, hkP, -⟩ := className_of_methodNamed hnamed
  have hinitP : kP.init = .initialized := Cond.initialized_spec (findClass_of_methodNamed hnamed) hkP hinit
  obtain ⟨vm₁, X₁, hstep₁⟩ := X.invokestatic hexec hown hlink hnamed hmethM hstatic hkP hinitP hy (g := g) hg (argsL := argsL) (rest := rest) (hlen _ hsigM) hstack hdg
  rcases hK m meth c ⟨T.setVm vm₁, locs, cells, slots⟩ { g with stack := rest } (.invokestatic index) mk argsL.toArray X₁ hg hsize hdg hW (X₁.named hnamed) (hpre vm₁ X₁.warmed) with ⟨v, B, X', hpost, hsteps⟩ | ⟨q, B, X', hpost, hsteps⟩
  · exact Or.inl ⟨v, vm₁, B, X₁.warmed, X', hpost, fun target h => hstep₁ _ fun acts => by rw [doInvoke_state]; exact hsteps.trans h⟩
  · exact Or.inr ⟨q, vm₁, B, X₁.warmed, X', hpost, hstep₁ _ fun acts => by rw [doInvoke_state]; exact hsteps⟩
end Calls
theorem vx_cls {s : State} {T : State} {vm₁ : Vm} {E : String} {k : ClassId} (hW : s.WarmedH vm₁) (h : (T.setVm vm₁).vm.findClass E = some k) : s.vm.findClass E = some k := by
  have h1 : vm₁.findClass E = some k := h
  rw [hW.alike.findClass] at h1
  exact h1
/-- the method's frame g, with q thrown over it -/
def vx_W (p : Program) (l : Launch) (e : Env) (R : Room) (s : State) (m : MethodId) (args : Array Value) (below : List Frame) (meth : Method) (c : Code) (H : Heap) (locs : List Loc) (cells slots : Nat) (Q : State → Prop) (g : JFrame) (q : Addr) : Prop :=
  ∀ T : State, T.heap = H → Stand p l e R s m args below meth c T locs cells slots → ∃ t, Steps p.tables e below ((T.setTop g).pushFrame (.throwing q)) t ∧ Q t
def vx_Run (p : Program) (l : Launch) (e : Env) (R : Room) (s : State) (m : MethodId) (args : Array Value) (below : List Frame) (meth : Method) (c : Code) (H : Heap) (locs : List Loc) (cells slots mc ms : Nat) (g : JFrame) (rest : List Value) (Qa : State → Outcome → State → Prop) (XC : String → State → State → Prop) (free : Addr → Prop) : Prop :=
  ∀ T : State, T.heap = H → Stand p l e R s m args below meth c T locs cells slots →
    (∃ (v : Option Value) (st₀ t T' : State) (L : List Loc), st₀.heap = H ∧ Stand p l e R s m args below meth c T' (locs ++ L) (cells + mc) (slots + ms) ∧ (∀ q ∈ L, free q.base) ∧ T'.heap = t.heap ∧ T'.vm = t.vm ∧ Qa st₀ (.returned v) t ∧
      Goes p e below T g T' { g with pc := g.pc + 3, stack := v.toList ++ rest }) ∨
    (∃ (q : Addr) (st₀ t T' : State) (L : List Loc) (E : String) (ce : Cell), st₀.heap = H ∧ Stand p l e R s m args below meth c T' (locs ++ L) (cells + mc) (slots + ms) ∧ (∀ z ∈ L, free z.base) ∧ T'.heap = t.heap ∧ T'.vm = t.vm ∧ XC E st₀ t ∧ t.heap[q]? = some ce ∧ ce.vm = .none ∧ s.vm.findClass E = some ce.cls ∧
      Steps p.tables e below (T.setTop g) ((T'.setTop { g with stack := rest }).pushFrame (.throwing q)))
def vx_X {S : Type} (px : S → Prop) (B : String → S → State → Prop) (A : Nat → Prop) : String → State → State → Prop := fun E st t => ∃ u : S, px u ∧ B E u t ∧ va_F A st t
section Runs
variable {p : Program} {l : Launch} {e : Env} {R : Room} {s : State} {m : MethodId} {args : Array Value} {below : List Frame} {meth : Method} {c : Code} {H : Heap} {locs : List Loc} {cells slots : Nat}
variable {y : MethodName} {bytes cc : ByteArray} {maxL nL mc ms n index : Nat} {ret : Option FieldType} {ws : List Cond} {rm : Room} {Pc : Array Value → State → Prop} {Qc : Array Value → State → Outcome → State → Prop} {XC : String → State → State → Prop} {free : Addr → Prop} {Ts : List Cond} {own C : String} {b : Addr} {As rest : List Value} {g : JFrame}
theorem vx_callBack (cb : CallB R s args own index y bytes maxL ret ws rm mc ms n) (hM : vx_Met l y ws rm Pc Qc XC mc ms free) (hbl : FrameBlind Pc) : vx_Back l R p e below s args y 3 8 (PreOf R mc ms Pc) (PostOf Qc mc ms free) (vx_Post XC mc ms free) := by
  obtain ⟨hrc, hrs, hfr, hlo, hws, hcw, -, hini, -⟩ := cb
  exact vx_back (bytes := bytes) (maxL := maxL) (ret := ret) hM hbl hrc hrs hfr hlo hws hcw (fun a' U hW => word_at hW (Or.inl (by first | rfl | simp [Cond.onTables, Cond.keeps, Cond.steady])) hini)
theorem vx_runV (S : CallFix p m c cc nL s args Ts own) (hM : vx_Met l y ws rm Pc Qc XC mc ms free) (cw : CallW R s args own C index y bytes maxL ret ws rm mc ms n) (hp : PreV s H C b Pc As)
    (hg : g.method = m) (hn : As.length = n) (hsize : g.locals.size = nL) (hstack : g.stack = As.reverse ++ .ref b :: rest) (hW : 2 * g.monitorRoom + (rest.map fun v => v.category).sum ≤ 8) (hdg : decode cc g.pc = .ok (.invokevirtual index, 3)) (hf : cells + mc ≤ R.cells ∧ slots + ms ≤ R.slots) :
    vx_Run p l e R s m args below meth c H locs cells slots mc ms g rest (Qc (Value.ref b :: As).toArray) XC free := by
  have hK : vx_Back l R p e below s args y 3 8 (PreOf R mc ms Pc) (PostOf Qc mc ms free) (vx_Post XC mc ms free) := vx_callBack cw.1 hM hp.1
  obtain ⟨⟨-, -, -, -, -, -, hcode, -, hy, hlen, hl⟩, hin, hse⟩ := cw
  obtain ⟨hx, hb, hml, ho, -⟩ := S
  obtain ⟨-, ⟨cellB, hcB, hoB, hclB⟩, hPc⟩ := hp
  intro T hT X
  rcases vx_callV X hx (C := C) (bytes := bytes) (maxL := maxL) (ret := ret) ho hl hin hse hcode hy hK (by rw [hT]; exact hcB) hoB hclB hg (hsize.trans hml.symm) (argsL := As) (rest := rest) (fun sig h => hn.trans (hlen sig h)) hstack hW (by rw [hb]; exact hdg)
    (fun vm₁ hW₁ => ⟨hf.1, hf.2, hPc (T.setVm vm₁) hT hW₁⟩) with ⟨v, vm₁, ⟨U', l2, c2, s2⟩, hW₁, X', ⟨g', mk, t, L, e1, e2, hq, h1, hL, h2, h3⟩, st⟩ | ⟨q, vm₁, ⟨U', l2, c2, s2⟩, hW₁, X', ⟨g', mk, t, L, E, ce, e1, e2, hq, hce, hcv, hcl, h1, hL, h2, h3⟩, st⟩
  · dsimp only [Pt.U, Pt.locs, Pt.cells, Pt.slots] at X' e1 e2 h1 h2 h3 st
    subst h1; subst h2; subst h3
    exact Or.inl ⟨v, (T.setVm vm₁).calling g' mk (Value.ref b :: As).toArray, t, U', L, hT, X', hL, e1, e2, hq, st⟩
  · dsimp only [Pt.U, Pt.locs, Pt.cells, Pt.slots] at X' e1 e2 h1 h2 h3 st hcl
    subst h1; subst h2; subst h3
    exact Or.inr ⟨q, (T.setVm vm₁).calling g' mk (Value.ref b :: As).toArray, t, U', L, E, ce, hT, X', hL, e1, e2, hq, hce, hcv, vx_cls hW₁ hcl, st⟩
theorem vx_runS (S : CallFix p m c cc nL s args Ts own) (hM : vx_Met l y ws rm Pc Qc XC mc ms free) (cw : CallB R s args own index y bytes maxL ret ws rm mc ms n ∧ (Cond.static y).before args s = true) (hp : PreS s H Pc As)
    (hg : g.method = m) (hn : As.length = n) (hsize : g.locals.size = nL) (hstack : g.stack = As.reverse ++ rest) (hW : 2 * g.monitorRoom + (rest.map fun v => v.category).sum ≤ 8) (hdg : decode cc g.pc = .ok (.invokestatic index, 3)) (hf : cells + mc ≤ R.cells ∧ slots + ms ≤ R.slots) :
    vx_Run p l e R s m args below meth c H locs cells slots mc ms g rest (Qc As.toArray) XC free := by
  have hK : vx_Back l R p e below s args y 3 8 (PreOf R mc ms Pc) (PostOf Qc mc ms free) (vx_Post XC mc ms free) := vx_callBack cw.1 hM hp.1
  obtain ⟨⟨-, -, -, -, -, -, hcode, hini, hy, hlen, hl⟩, hstt⟩ := cw
  obtain ⟨hx, hb, hml, ho, -⟩ := S
  intro T hT X
  rcases vx_callS X hx (bytes := bytes) (maxL := maxL) (ret := ret) ho hl hstt hini hcode hy hK hg (hsize.trans hml.symm) (argsL := As) (rest := rest) (fun sig h => hn.trans (hlen sig h)) hstack hW (by rw [hb]; exact hdg)
    (fun vm₁ hW₁ => ⟨hf.1, hf.2, hp.2 (T.setVm vm₁) hT hW₁⟩) with ⟨v, vm₁, ⟨U', l2, c2, s2⟩, hW₁, X', ⟨g', mk, t, L, e1, e2, hq, h1, hL, h2, h3⟩, st⟩ | ⟨q, vm₁, ⟨U', l2, c2, s2⟩, hW₁, X', ⟨g', mk, t, L, E, ce, e1, e2, hq, hce, hcv, hcl, h1, hL, h2, h3⟩, st⟩
  · dsimp only [Pt.U, Pt.locs, Pt.cells, Pt.slots] at X' e1 e2 h1 h2 h3 st
    subst h1; subst h2; subst h3
    exact Or.inl ⟨v, (T.setVm vm₁).calling g' mk As.toArray, t, U', L, hT, X', hL, e1, e2, hq, st⟩
  · dsimp only [Pt.U, Pt.locs, Pt.cells, Pt.slots] at X' e1 e2 h1 h2 h3 st hcl
    subst h1; subst h2; subst h3
    exact Or.inr ⟨q, (T.setVm vm₁).calling g' mk As.toArray, t, U', L, E, ce, hT, X', hL, e1, e2, hq, hce, hcv, vx_cls hW₁ hcl, st⟩
end Runs
section Rows
variable {p : Program} {l : Launch} {e : Env} {R : Room} {s : State} {m : MethodId} {args : Array Value} {below : List Frame} {meth : Method} {c : Code} {H : Heap} {locs : List Loc} {cells slots : Nat} {Q : State → Prop}
variable {mc ms : Nat} {free : Addr → Prop} {A0 A1 : Nat → Prop} {H0 : Heap} {a : Array Value} {pc : Nat} {ls : Array Slot} {st0 rest : List Value}
theorem vx_keep {st₀ t T' : State} {L : List Loc} (h0 : st₀.heap = H) (e1 : T'.heap = t.heap) (hS : va_S A0 H0 H locs) (hA : ∀ q, q < H.size → A1 q → A0 q) (hf : ∀ q, free q → A0 q) (hL : ∀ q ∈ L, free q.base) (hF : va_F A1 st₀ t) :
    H.size ≤ T'.heap.size ∧ (∀ q : Nat, q < H.size → ¬ A1 q → T'.heap[q]? = H[q]?) ∧ va_S A0 H0 T'.heap (locs ++ L) := by
  obtain ⟨hz, hk⟩ := hF
  rw [h0] at hz hk
  exact ⟨by rw [e1]; exact hz, fun q h1 h2 => by rw [e1]; exact hk q h1 h2,
    ⟨Nat.le_trans hS.1 (by rw [e1]; exact hz), fun q h1 h2 => by rw [e1, hk q (Nat.lt_of_lt_of_le h1 hS.1) (fun z => h2 (hA q (Nat.lt_of_lt_of_le h1 hS.1) z))]; exact hS.2.1 q h1 h2, fun q hq => by
      rcases List.mem_append.mp hq with h | h
      · exact hS.2.2 q h
      · exact hf _ (hL q h)⟩⟩
theorem vx_calli {S SX : Type} {post : Int32 → S → Prop} {px : SX → Prop} {B : S → State → Prop} {BX : String → SX → State → Prop} {AX : Nat → Prop} (hr : vx_Run p l e R s m args below meth c H locs cells slots mc ms (F0 m pc ls st0) rest (va_Qi post B A1 a) (vx_X px BX AX) free) (hS : va_S A0 H0 H locs) (hA : ∀ q, q < H.size → A1 q → A0 q) (hf : ∀ q, free q → A0 q) (hAX : ∀ q, q < H.size → AX q → A0 q)
    (kx : ∀ (E : String) (ce : Cell) (q9 : Addr) (u : SX) (t : State) (H1 : Heap) (locs1 : List Loc), t.heap = H1 → s.vm.Alike t.vm → px u → BX E u t → H.size ≤ H1.size → (∀ q : Nat, q < H.size → ¬ AX q → H1[q]? = H[q]?) → va_S A0 H0 H1 locs1 → H1[q9]? = some ce → ce.vm = .none → s.vm.findClass E = some ce.cls → vx_W p l e R s m args below meth c H1 locs1 (cells + mc) (slots + ms) Q (F0 m pc ls rest) q9)
    (kk : ∀ (r : Int32) (u : S) (t : State) (H1 : Heap) (locs1 : List Loc), t.heap = H1 → s.vm.Alike t.vm → post r u → B u t → H.size ≤ H1.size → (∀ q : Nat, q < H.size → ¬ A1 q → H1[q]? = H[q]?) → va_S A0 H0 H1 locs1 → W p l e R s m args below meth c H1 locs1 (cells + mc) (slots + ms) Q (F0 m (pc + 3) ls (.int r :: rest))) : W p l e R s m args below meth c H locs cells slots Q (F0 m pc ls st0) := by
  intro T hT X
  rcases hr T hT X with ⟨v, st₀, t, T', L, h0, X', hL, e1, e2, ⟨⟨r, u, hv, hp, hb⟩, hF⟩, st⟩ | ⟨q, st₀, t, T', L, E, ce, h0, X', hL, e1, e2, ⟨u, hp, hb, hF⟩, hce, hcv, hcl, st⟩
  · cases hv
    obtain ⟨k1, k2, k3⟩ := vx_keep h0 e1 hS hA hf hL hF
    obtain ⟨t2, a1, b1⟩ := kk r u t T'.heap (locs ++ L) e1.symm (by rw [← e2]; exact X'.warmed.alike) hp hb k1 k2 k3 T' rfl X'
    exact ⟨t2, st t2 a1, b1⟩
  · obtain ⟨k1, k2, k3⟩ := vx_keep h0 e1 hS hAX hf hL hF
    obtain ⟨t2, a1, b1⟩ := kx E ce q u t T'.heap (locs ++ L) e1.symm (by rw [← e2]; exact X'.warmed.alike) hp hb k1 k2 k3 (by rw [e1]; exact hce) hcv hcl T' rfl X'
    exact ⟨t2, st.trans a1, b1⟩
theorem vx_calll {S SX : Type} {post : Int64 → S → Prop} {px : SX → Prop} {B : S → State → Prop} {BX : String → SX → State → Prop} {AX : Nat → Prop} (hr : vx_Run p l e R s m args below meth c H locs cells slots mc ms (F0 m pc ls st0) rest (va_Ql post B A1 a) (vx_X px BX AX) free) (hS : va_S A0 H0 H locs) (hA : ∀ q, q < H.size → A1 q → A0 q) (hf : ∀ q, free q → A0 q) (hAX : ∀ q, q < H.size → AX q → A0 q)
    (kx : ∀ (E : String) (ce : Cell) (q9 : Addr) (u : SX) (t : State) (H1 : Heap) (locs1 : List Loc), t.heap = H1 → s.vm.Alike t.vm → px u → BX E u t → H.size ≤ H1.size → (∀ q : Nat, q < H.size → ¬ AX q → H1[q]? = H[q]?) → va_S A0 H0 H1 locs1 → H1[q9]? = some ce → ce.vm = .none → s.vm.findClass E = some ce.cls → vx_W p l e R s m args below meth c H1 locs1 (cells + mc) (slots + ms) Q (F0 m pc ls rest) q9)
    (kk : ∀ (r : Int64) (u : S) (t : State) (H1 : Heap) (locs1 : List Loc), t.heap = H1 → s.vm.Alike t.vm → post r u → B u t → H.size ≤ H1.size → (∀ q : Nat, q < H.size → ¬ A1 q → H1[q]? = H[q]?) → va_S A0 H0 H1 locs1 → W p l e R s m args below meth c H1 locs1 (cells + mc) (slots + ms) Q (F0 m (pc + 3) ls (.long r :: rest))) : W p l e R s m args below meth c H locs cells slots Q (F0 m pc ls st0) := by
  intro T hT X
  rcases hr T hT X with ⟨v, st₀, t, T', L, h0, X', hL, e1, e2, ⟨⟨r, u, hv, hp, hb⟩, hF⟩, st⟩ | ⟨q, st₀, t, T', L, E, ce, h0, X', hL, e1, e2, ⟨u, hp, hb, hF⟩, hce, hcv, hcl, st⟩
  · cases hv
    obtain ⟨k1, k2, k3⟩ := vx_keep h0 e1 hS hA hf hL hF
    obtain ⟨t2, a1, b1⟩ := kk r u t T'.heap (locs ++ L) e1.symm (by rw [← e2]; exact X'.warmed.alike) hp hb k1 k2 k3 T' rfl X'
    exact ⟨t2, st t2 a1, b1⟩
  · obtain ⟨k1, k2, k3⟩ := vx_keep h0 e1 hS hAX hf hL hF
    obtain ⟨t2, a1, b1⟩ := kx E ce q u t T'.heap (locs ++ L) e1.symm (by rw [← e2]; exact X'.warmed.alike) hp hb k1 k2 k3 (by rw [e1]; exact hce) hcv hcl T' rfl X'
    exact ⟨t2, st.trans a1, b1⟩
theorem vx_callf {S SX : Type} {post : UInt32 → S → Prop} {px : SX → Prop} {B : S → State → Prop} {BX : String → SX → State → Prop} {AX : Nat → Prop} (hr : vx_Run p l e R s m args below meth c H locs cells slots mc ms (F0 m pc ls st0) rest (va_Qf post B A1 a) (vx_X px BX AX) free) (hS : va_S A0 H0 H locs) (hA : ∀ q, q < H.size → A1 q → A0 q) (hf : ∀ q, free q → A0 q) (hAX : ∀ q, q < H.size → AX q → A0 q)
    (kx : ∀ (E : String) (ce : Cell) (q9 : Addr) (u : SX) (t : State) (H1 : Heap) (locs1 : List Loc), t.heap = H1 → s.vm.Alike t.vm → px u → BX E u t → H.size ≤ H1.size → (∀ q : Nat, q < H.size → ¬ AX q → H1[q]? = H[q]?) → va_S A0 H0 H1 locs1 → H1[q9]? = some ce → ce.vm = .none → s.vm.findClass E = some ce.cls → vx_W p l e R s m args below meth c H1 locs1 (cells + mc) (slots + ms) Q (F0 m pc ls rest) q9)
    (kk : ∀ (r : UInt32) (u : S) (t : State) (H1 : Heap) (locs1 : List Loc), t.heap = H1 → s.vm.Alike t.vm → post r u → B u t → H.size ≤ H1.size → (∀ q : Nat, q < H.size → ¬ A1 q → H1[q]? = H[q]?) → va_S A0 H0 H1 locs1 → W p l e R s m args below meth c H1 locs1 (cells + mc) (slots + ms) Q (F0 m (pc + 3) ls (.float r :: rest))) : W p l e R s m args below meth c H locs cells slots Q (F0 m pc ls st0) := by
  intro T hT X
  rcases hr T hT X with ⟨v, st₀, t, T', L, h0, X', hL, e1, e2, ⟨⟨r, u, hv, hp, hb⟩, hF⟩, st⟩ | ⟨q, st₀, t, T', L, E, ce, h0, X', hL, e1, e2, ⟨u, hp, hb, hF⟩, hce, hcv, hcl, st⟩
  · cases hv
    obtain ⟨k1, k2, k3⟩ := vx_keep h0 e1 hS hA hf hL hF
    obtain ⟨t2, a1, b1⟩ := kk r u t T'.heap (locs ++ L) e1.symm (by rw [← e2]; exact X'.warmed.alike) hp hb k1 k2 k3 T' rfl X'
    exact ⟨t2, st t2 a1, b1⟩
  · obtain ⟨k1, k2, k3⟩ := vx_keep h0 e1 hS hAX hf hL hF
    obtain ⟨t2, a1, b1⟩ := kx E ce q u t T'.heap (locs ++ L) e1.symm (by rw [← e2]; exact X'.warmed.alike) hp hb k1 k2 k3 (by rw [e1]; exact hce) hcv hcl T' rfl X'
    exact ⟨t2, st.trans a1, b1⟩
theorem vx_calld {S SX : Type} {post : UInt64 → S → Prop} {px : SX → Prop} {B : S → State → Prop} {BX : String → SX → State → Prop} {AX : Nat → Prop} (hr : vx_Run p l e R s m args below meth c H locs cells slots mc ms (F0 m pc ls st0) rest (va_Qd post B A1 a) (vx_X px BX AX) free) (hS : va_S A0 H0 H locs) (hA : ∀ q, q < H.size → A1 q → A0 q) (hf : ∀ q, free q → A0 q) (hAX : ∀ q, q < H.size → AX q → A0 q)
    (kx : ∀ (E : String) (ce : Cell) (q9 : Addr) (u : SX) (t : State) (H1 : Heap) (locs1 : List Loc), t.heap = H1 → s.vm.Alike t.vm → px u → BX E u t → H.size ≤ H1.size → (∀ q : Nat, q < H.size → ¬ AX q → H1[q]? = H[q]?) → va_S A0 H0 H1 locs1 → H1[q9]? = some ce → ce.vm = .none → s.vm.findClass E = some ce.cls → vx_W p l e R s m args below meth c H1 locs1 (cells + mc) (slots + ms) Q (F0 m pc ls rest) q9)
    (kk : ∀ (r : UInt64) (u : S) (t : State) (H1 : Heap) (locs1 : List Loc), t.heap = H1 → s.vm.Alike t.vm → post r u → B u t → H.size ≤ H1.size → (∀ q : Nat, q < H.size → ¬ A1 q → H1[q]? = H[q]?) → va_S A0 H0 H1 locs1 → W p l e R s m args below meth c H1 locs1 (cells + mc) (slots + ms) Q (F0 m (pc + 3) ls (.double r :: rest))) : W p l e R s m args below meth c H locs cells slots Q (F0 m pc ls st0) := by
  intro T hT X
  rcases hr T hT X with ⟨v, st₀, t, T', L, h0, X', hL, e1, e2, ⟨⟨r, u, hv, hp, hb⟩, hF⟩, st⟩ | ⟨q, st₀, t, T', L, E, ce, h0, X', hL, e1, e2, ⟨u, hp, hb, hF⟩, hce, hcv, hcl, st⟩
  · cases hv
    obtain ⟨k1, k2, k3⟩ := vx_keep h0 e1 hS hA hf hL hF
    obtain ⟨t2, a1, b1⟩ := kk r u t T'.heap (locs ++ L) e1.symm (by rw [← e2]; exact X'.warmed.alike) hp hb k1 k2 k3 T' rfl X'
    exact ⟨t2, st t2 a1, b1⟩
  · obtain ⟨k1, k2, k3⟩ := vx_keep h0 e1 hS hAX hf hL hF
    obtain ⟨t2, a1, b1⟩ := kx E ce q u t T'.heap (locs ++ L) e1.symm (by rw [← e2]; exact X'.warmed.alike) hp hb k1 k2 k3 (by rw [e1]; exact hce) hcv hcl T' rfl X'
    exact ⟨t2, st.trans a1, b1⟩
theorem vx_callv {S SX : Type} {post : S → Prop} {px : SX → Prop} {B : S → State → Prop} {BX : String → SX → State → Prop} {AX : Nat → Prop} (hr : vx_Run p l e R s m args below meth c H locs cells slots mc ms (F0 m pc ls st0) rest (va_Qv post B A1 a) (vx_X px BX AX) free) (hS : va_S A0 H0 H locs) (hA : ∀ q, q < H.size → A1 q → A0 q) (hf : ∀ q, free q → A0 q) (hAX : ∀ q, q < H.size → AX q → A0 q)
    (kx : ∀ (E : String) (ce : Cell) (q9 : Addr) (u : SX) (t : State) (H1 : Heap) (locs1 : List Loc), t.heap = H1 → s.vm.Alike t.vm → px u → BX E u t → H.size ≤ H1.size → (∀ q : Nat, q < H.size → ¬ AX q → H1[q]? = H[q]?) → va_S A0 H0 H1 locs1 → H1[q9]? = some ce → ce.vm = .none → s.vm.findClass E = some ce.cls → vx_W p l e R s m args below meth c H1 locs1 (cells + mc) (slots + ms) Q (F0 m pc ls rest) q9)
    (kk : ∀ (u : S) (t : State) (H1 : Heap) (locs1 : List Loc), t.heap = H1 → s.vm.Alike t.vm → post u → B u t → H.size ≤ H1.size → (∀ q : Nat, q < H.size → ¬ A1 q → H1[q]? = H[q]?) → va_S A0 H0 H1 locs1 → W p l e R s m args below meth c H1 locs1 (cells + mc) (slots + ms) Q (F0 m (pc + 3) ls (rest))) : W p l e R s m args below meth c H locs cells slots Q (F0 m pc ls st0) := by
  intro T hT X
  rcases hr T hT X with ⟨v, st₀, t, T', L, h0, X', hL, e1, e2, ⟨⟨u, hv, hp, hb⟩, hF⟩, st⟩ | ⟨q, st₀, t, T', L, E, ce, h0, X', hL, e1, e2, ⟨u, hp, hb, hF⟩, hce, hcv, hcl, st⟩
  · cases hv
    obtain ⟨k1, k2, k3⟩ := vx_keep h0 e1 hS hA hf hL hF
    obtain ⟨t2, a1, b1⟩ := kk u t T'.heap (locs ++ L) e1.symm (by rw [← e2]; exact X'.warmed.alike) hp hb k1 k2 k3 T' rfl X'
    exact ⟨t2, st t2 a1, b1⟩
  · obtain ⟨k1, k2, k3⟩ := vx_keep h0 e1 hS hAX hf hL hF
    obtain ⟨t2, a1, b1⟩ := kx E ce q u t T'.heap (locs ++ L) e1.symm (by rw [← e2]; exact X'.warmed.alike) hp hb k1 k2 k3 (by rw [e1]; exact hce) hcv hcl T' rfl X'
    exact ⟨t2, st.trans a1, b1⟩
/-- caught by the row x of this method's table; the rows ahead don't take it -/
theorem vx_catch {own name : String} {E : String} {ce : Cell} {q : Addr} (hown : s.vm.findClass own = some m.cls) (pre : List ExceptionTableEntry) (x : ExceptionTableEntry) (suf : List ExceptionTableEntry) (hsplit : c.exceptionTable.toList = pre ++ x :: suf)
    (hpass : ∀ z ∈ pre, covers z pc = false ∨ (z.catchType ≠ 0 ∧ ∃ nm : String, (Cond.classLink own z.catchType nm).before args s = true ∧ va_Nc E nm s)) (hx : covers x pc = true) (h0 : x.catchType ≠ 0)
    (hlink : (Cond.classLink own x.catchType name).before args s = true) (hcast : (Cond.castable E name).before args s = true) (hcell : H[q]? = some ce) (hv : ce.vm = .none) (hcl : s.vm.findClass E = some ce.cls)
    (kk : W p l e R s m args below meth c H locs cells slots Q (F0 m x.handlerPc ls [.ref q])) : vx_W p l e R s m args below meth c H locs cells slots Q (F0 m pc ls rest) q := by
  intro T hT X
  have hpl : e.platform.magicAccessors = ({} : Platform).magicAccessors := by rw [X.admits.platform]
  obtain ⟨c3, c4, hc3, hc4, hasg⟩ := Cond.castable_spec hcast
  cases Option.some.inj (hc3.symm.trans hcl)
  obtain ⟨c5, hc5, hcl5⟩ := Cond.classLink_spec hown hlink e.platform hpl
  cases Option.some.inj (hc4.symm.trans hc5)
  obtain ⟨vm', X', st⟩ := X.thenCaughtThrough q (g := F0 m pc ls rest) rfl (Steps.refl _) (by rw [hT]; exact hcell) (by rw [hv]; rfl) (by obtain ⟨k9, h9, -⟩ := Vm.findClass_spec hcl; exact ⟨k9, h9⟩) pre x suf hsplit
    (fun z hz => by
      rcases hpass z hz with h | ⟨hz0, nm, hl1, hn1⟩
      · exact Or.inl h
      · obtain ⟨c6, hc6, hcl6⟩ := Cond.classLink_spec hown hl1 e.platform hpl
        obtain ⟨a8, b8, h1, h2, h3⟩ := hn1
        cases Option.some.inj (h1.symm.trans hcl)
        cases Option.some.inj (h2.symm.trans hc6)
        exact Or.inr ⟨hz0, _, hcl6, h3⟩) hx (Or.inr ⟨h0, c4, hcl5, hasg⟩)
  obtain ⟨t, a1, b1⟩ := kk (T.setVm vm') hT X'
  exact ⟨t, st.trans a1, b1⟩
end Rows
section Ends
variable {p : Program} {l : Launch} {e : Env} {R : Room} {s : State} {m : MethodId} {args : Array Value} {below : List Frame} {meth : Method} {c : Code} {H : Heap} {locs : List Loc} {cells slots : Nat} {Q : State → Prop}
variable {mc ms : Nat} {free : Addr → Prop} {A0 A1 : Nat → Prop} {H0 : Heap} {a : Array Value} {ls : Array Slot} {st0 rest : List Value}
variable {Qc : Array Value → State → Outcome → State → Prop} {XC : String → State → State → Prop}
/-- what a body that may throw owes at its end -/
def vx_MQ (below : List Frame) (Qc : Array Value → State → Outcome → State → Prop) (XC : String → State → State → Prop) (a : Array Value) (s : State) (mc ms : Nat) (free : Addr → Prop) : State → Prop := fun t =>
  ∃ o, t.status = .running ∧ Ended t below o ∧ vx_Q Qc XC mc ms free a s o t
theorem vx_ret {g : JFrame} {mc ms : Nat} (k : W p l e R s m args below meth c H locs cells slots (MQ below Qc args s mc ms free) g) : W p l e R s m args below meth c H locs cells slots (vx_MQ below Qc XC args s mc ms free) g := by
  intro T hT X
  obtain ⟨t, a1, o, b1, b2, b3, b4⟩ := k T hT X
  exact ⟨t, a1, o, b1, b2, Or.inl ⟨b3, b4⟩⟩
/-- not caught here: it goes on to the caller -/
theorem vx_widen {g : JFrame} {q : Addr} {k n : Nat} (h1 : cells ≤ k) (h2 : slots ≤ n) (kk : vx_W p l e R s m args below meth c H locs k n Q g q) : vx_W p l e R s m args below meth c H locs cells slots Q g q := fun T hT X => kk T hT (stand_widen X h1 h2)
theorem vx_out {pc : Nat} {E : String} {ce : Cell} {q : Addr} {mc ms : Nat} (hout : ∀ x ∈ c.exceptionTable.toList, covers x pc = false) (hlocks : meth.locks = false) (hcell : H[q]? = some ce) (hv : ce.vm = .none) (hcl : s.vm.findClass E = some ce.cls)
    (hx : ∀ t : State, t.heap = H → s.vm.Alike t.vm → XC E s t) (hf : ∀ z ∈ locs, free z.base) (hc : cells ≤ mc) (hs : slots ≤ ms) :
    vx_W p l e R s m args below meth c H locs cells slots (vx_MQ below Qc XC args s mc ms free) (F0 m pc ls rest) q := by
  intro T hT X
  obtain ⟨st1, hrun, hend, hW, hsm⟩ := X.leaveThrown q (g := F0 m pc ls rest) rfl rfl rfl hout hlocks
  have hcell9 : (T.setFrames (.throwing q :: below)).heap[q]? = some ce := by
    show T.heap[q]? = some ce
    rw [hT]; exact hcell
  exact ⟨_, st1, .threw q, hrun, hend, Or.inr ⟨q, rfl, E, ce, locs, hx _ hT hW.alike, hcell9, hv, hcl, hW, hsm.mono hc hs, hf⟩⟩
theorem vx_frame {U : State} {k n : Nat} (h : s.sameButNew ({ U with vm := s.vm } : State) locs k n) : s.heap.size ≤ U.heap.size ∧ ∀ q : Nat, q < s.heap.size → (∀ z ∈ locs, z.base ≠ q) → U.heap[q]? = s.heap[q]? := by
  obtain ⟨-, h2, -, -, -, h6⟩ := h
  refine ⟨h2, fun q hq hz => ?_⟩
  obtain ⟨c9, e1, e2, e3, e4⟩ := h6 q _ (Array.getElem?_eq_getElem hq)
  have hs : c9.slots = (s.heap[q]).slots := Array.ext_getElem? fun i => e4 i fun hm => hz _ hm rfl
  have h9 : c9 = s.heap[q] := by
    rw [hs] at e2
    exact e2
  have e5 : U.heap[q]? = some c9 := e1
  rw [e5, h9, Array.getElem?_eq_getElem hq]
/-- the words of a throw but the four that speak of the heap -/
def vx_no (w : Cond) : Bool := decide (w ≠ .isRef (.static Bundle.tN "UNASSIGNED_STACK" Bundle.steD)) && decide (w ≠ .isRef (.static Bundle.tN "SUPPRESSED_SENTINEL" Bundle.listD)) && decide (w ≠ .laysStatic Bundle.tN "UNASSIGNED_STACK" Bundle.steD) && decide (w ≠ .laysStatic Bundle.tN "SUPPRESSED_SENTINEL" Bundle.listD)
def vx_at0 (own : String) (ic : Nat) (X : String) (names : List String) : List Cond := (Bundle.ownAtoms0 own ic X names).filter vx_no
def vx_atS (own : String) (ic : Nat) (X : String) (names : List String) : List Cond := (Bundle.ownAtoms own ic X names).filter vx_no
/-- a word that the tables alone decide, or a good one -/
def vx_ot (w : Cond) : Bool := w.onTables || goodWord w
theorem vx_ot_at {args a' : Array Value} {s U : State} {w : Cond} (hW : s.WarmedH U.vm) (hvm : s.vm = U.vm) (hg : vx_ot w = true) (h : w.before args s = true) : w.before a' U = true := by
  simp only [vx_ot, Bool.or_eq_true] at hg
  rcases hg with hg | hg
  · exact va_tabs hg hvm h
  · exact word_at hW (good_of_word hg) h
/-- a list's words: the good ones out of the method's own list, the others by premises of their own -/
theorem vx_hat {args : Array Value} {s : State} {L B : List Cond} (h1 : ∀ w ∈ L.filter goodWord, w.before args s = true) (h2 : ∀ w ∈ L.filter (fun w => !goodWord w), w ∈ B) (h3 : ∀ w ∈ B, w.before args s = true) : ∀ w ∈ L, w.before args s = true := by
  intro w hw
  by_cases g : goodWord w = true
  · exact h1 w (List.mem_filter.mpr ⟨hw, g⟩)
  · refine h3 w (h2 w (List.mem_filter.mpr ⟨hw, ?_⟩))
    show (!goodWord w) = true
    cases hgw : goodWord w
    · rfl
    · exact absurd hgw g
theorem vx_c {args : Array Value} {s : State} {w : Cond} {B : List Cond} (h : w.before args s = true) (t : ∀ w ∈ B, w.before args s = true) : ∀ w' ∈ w :: B, w'.before args s = true := fun w' h' => (List.mem_cons.mp h').elim (fun e => by rw [e]; exact h) (t w')
theorem vx_n {args : Array Value} {s : State} : ∀ w ∈ ([] : List Cond), w.before args s = true := fun _ h => nomatch h
theorem vx_own {args : Array Value} {s : State} {L : List Cond} (h1 : ∀ w ∈ L.filter vx_no, w.before args s = true)
    (hU : (Cond.isRef (.static Bundle.tN "UNASSIGNED_STACK" Bundle.steD)).before args s = true) (hN : (Cond.isRef (.static Bundle.tN "SUPPRESSED_SENTINEL" Bundle.listD)).before args s = true)
    (lU : (Cond.laysStatic Bundle.tN "UNASSIGNED_STACK" Bundle.steD).before args s = true) (lN : (Cond.laysStatic Bundle.tN "SUPPRESSED_SENTINEL" Bundle.listD).before args s = true) : ∀ w ∈ L, w.before args s = true := by
  intro w hw
  by_cases e1 : w = .isRef (.static Bundle.tN "UNASSIGNED_STACK" Bundle.steD)
  · rw [e1]; exact hU
  · by_cases e2 : w = .isRef (.static Bundle.tN "SUPPRESSED_SENTINEL" Bundle.listD)
    · rw [e2]; exact hN
    · by_cases e3 : w = .laysStatic Bundle.tN "UNASSIGNED_STACK" Bundle.steD
      · rw [e3]; exact lU
      · by_cases e4 : w = .laysStatic Bundle.tN "SUPPRESSED_SENTINEL" Bundle.listD
        · rw [e4]; exact lN
        · exact h1 w (List.mem_filter.mpr ⟨hw, by unfold vx_no; rw [decide_eq_true e1, decide_eq_true e2, decide_eq_true e3, decide_eq_true e4]; rfl⟩)
/-- where a static field lies, its class's statics cell in H -/
def vx_L (C n d : String) (A : Nat → Prop) (U : State) (H : Heap) : Prop := ∃ (c : ClassId) (k : Class) (i : Nat) (f : Field) (a : Nat) (cell : Cell), U.vm.findClass C = some c ∧ U.fieldFound? C n d = some (c, k, i, f) ∧ f.isStatic = true ∧ k.statics = some a ∧ H[a]? = some cell ∧ cell.vm.isStatics = true ∧ cell.cls = c ∧ f.slot < cell.slots.size ∧ k.staticTypes[f.slot]? = some f.type ∧ ¬ A a
theorem vx_L.moved {C n d : String} {A : Nat → Prop} {u U : State} {H : Heap} (hvm : u.vm.Alike U.vm) (h : vx_L C n d A u H) : vx_L C n d A U H := by
  obtain ⟨c, k, i, f, a, cell, h1, h2, h3, h4, h5, h6, h7, h8, h9, h10⟩ := h
  obtain ⟨k', hi', he⟩ := State.fieldFound?_setVm hvm h2
  exact ⟨c, k', i, f, a, cell, by rw [hvm.findClass]; exact h1, hi', h3, by rw [he]; exact h4, h5, h6, h7, h8, by rw [he]; exact h9, h10⟩
theorem vx_L.kept {C n d : String} {A : Nat → Prop} {U : State} {H H1 : Heap} (h : vx_L C n d A U H) (hq : ∀ a : Nat, a < H.size → ¬ A a → H1[a]? = H[a]?) : vx_L C n d A U H1 := by
  obtain ⟨c, k, i, f, a, cell, h1, h2, h3, h4, h5, h6, h7, h8, h9, h10⟩ := h
  exact ⟨c, k, i, f, a, cell, h1, h2, h3, h4, by rw [hq a (Array.getElem?_eq_some_iff.mp h5).1 h10]; exact h5, h6, h7, h8, h9, h10⟩
theorem vx_L.narrow {C n d : String} {A B : Nat → Prop} {U : State} {H : Heap} (h : vx_L C n d A U H) (hAB : ∀ q, B q → A q) : vx_L C n d B U H := by
  obtain ⟨c, k, i, f, a, cell, h1, h2, h3, h4, h5, h6, h7, h8, h9, h10⟩ := h
  exact ⟨c, k, i, f, a, cell, h1, h2, h3, h4, h5, h6, h7, h8, h9, fun z => h10 (hAB _ z)⟩
theorem vx_L.word {C n d : String} {A : Nat → Prop} {s : State} {args : Array Value} (h : vx_L C n d A s s.heap) : (Cond.laysStatic C n d).before args s = true := by
  obtain ⟨c, k, i, f, a, cell, h1, h2, h3, h4, h5, h6, h7, h8, h9, -⟩ := h
  show (Cond.laysStatic C n d).holds args s none s [] = true
  exact Cond.laysStatic_of h1 h2 h3 h4 h5 h6 h7 h8 h9
/-- .. and what it holds: null or some reference -/
def vx_Zq (C n d : String) (A : Nat → Prop) (U : State) (H : Heap) : Prop := va_Zq C n d A U H ∧ vx_L C n d A U H
theorem vx_Zq.moved {C n d : String} {A : Nat → Prop} {u U : State} {H : Heap} (hvm : u.vm.Alike U.vm) (h : vx_Zq C n d A u H) : vx_Zq C n d A U H := ⟨va_Zq.moved hvm h.1, vx_L.moved hvm h.2⟩
theorem vx_Zq.kept {C n d : String} {A : Nat → Prop} {U : State} {H H1 : Heap} (h : vx_Zq C n d A U H) (hq : ∀ a : Nat, a < H.size → ¬ A a → H1[a]? = H[a]?) : vx_Zq C n d A U H1 := ⟨va_Zq.kept h.1 hq, vx_L.kept h.2 hq⟩
theorem vx_Zq.narrow {C n d : String} {A B : Nat → Prop} {U : State} {H : Heap} (h : vx_Zq C n d A U H) (hAB : ∀ q, B q → A q) : vx_Zq C n d B U H := ⟨va_Zq.narrow h.1 hAB, vx_L.narrow h.2 hAB⟩
theorem vx_Zqof {args : Array Value} {s : State} {C n d : String} {A : Nat → Prop} (hl : (Cond.laysStatic C n d).before args s = true) (hini : (Cond.initialized C).before args s = true) (h : (Cond.isRef (.static C n d)).before args s = true) (hA : ∀ a : Nat, a < s.heap.size → ¬ A a) : vx_Zq C n d A s s.heap := by
  refine ⟨va_Zqof hl hini h hA, ?_⟩
  obtain ⟨c, k, i, f, a, cell, h1, h2, h3, h4, h5, h6, h7, h8, h9⟩ := Cond.laysStatic_spec hl
  exact ⟨c, k, i, f, a, cell, h1, h2, h3, h4, h5, h6, h7, h8, h9, hA a (Array.getElem?_eq_some_iff.mp h5).1⟩
theorem vx_isRef {C n d : String} {v : Value} {A : Nat → Prop} {s : State} {args : Array Value} (h : va_Z C n d v A s s.heap) (hv : v.isRef = true) : (Cond.isRef (.static C n d)).before args s = true := by
  obtain ⟨cf, kf, fi, f, a, cell, h1, h2, h3, h4, h5, h6, h7, -⟩ := h
  have he : (Term.static C n d).eval args s none [] s = some v := by
    simp [Term.eval, State.fieldNamed?, h1, h2, h4, h5, h6, h7]
  simp only [Cond.before, Cond.holds, Cond.value, he]
  cases v <;> simp_all [Value.isRef]
theorem vx_isRefq {C n d : String} {A : Nat → Prop} {s : State} {args : Array Value} (h : va_Zq C n d A s s.heap) : (Cond.isRef (.static C n d)).before args s = true := by
  rcases h with h | ⟨t, h⟩
  · exact vx_isRef h rfl
  · exact vx_isRef h rfl
/-- the same frame, seen from here: as if the method were called anew in this heap -/
theorem vx_rebase {T : State} (X : Stand p l e R s m args below meth c T locs cells slots) {R' : Room} (hf : R'.frames ≤ R.frames) (hl : R'.locals ≤ R.locals) (hc : cells + R'.cells ≤ R.cells) (hs : slots + R'.slots ≤ R.slots) :
    Stand p l e R' ((T.setVm s.vm).setFrames (.invoking m args :: below)) m args below meth c T [] 0 0 := by
  have htop : (T.setVm s.vm).topJava?.isSome := X.here.top
  have hF : ((T.setVm s.vm).setFrames (.invoking m args :: below)).frames = .invoking m args :: below := State.frames_setFrames _ (State.cur_lt_of_top htop)
  obtain ⟨g₀, hg0⟩ := Option.isSome_iff_exists.mp htop
  obtain ⟨r, hr⟩ := State.topJava?_eq_some.mp hg0
  have hl9 : e.platform.stackLimits (T.setVm s.vm).me = e.platform.stackLimits s.me := X.limits
  have hb9 : (T.setVm s.vm).me.stackBytes = s.me.stackBytes := X.bytes
  refine ⟨X.admits, X.cas, X.clock, hF, ?_, X.hears, X.method, X.code, X.here, X.tail, X.warmed, ?_, ?_, ?_⟩
  · have h := X.room
    have hU : ((T.setVm s.vm).setFrames (.invoking m args :: below)).localsInUse = s.localsInUse := by
      rw [State.localsInUse_invoking hF (meth := meth) (c := c) X.method X.code, State.localsInUse_invoking X.frames X.method X.code]
    simp only [State.hasRoom, Bool.and_eq_true, decide_eq_true_eq] at h ⊢
    obtain ⟨⟨⟨⟨h1, h2, h3, h4, h5, h6⟩, h7⟩, h8⟩, h9⟩ := h
    rw [X.frames, List.length_cons] at h2 h3
    have q1 := X.heapSize
    have q2 := X.used
    simp only [hF, hU, List.length_cons, State.stackLimits_setFrames, State.stackBytes_setFrames, hl9, hb9]
    refine ⟨⟨⟨⟨by omega, by omega, by omega, by omega, by omega, h6⟩, ?_⟩, ?_⟩, X.book⟩
    · show T.heap.size + R'.cells ≤ e.platform.maxCells
      omega
    · show T.slotsUsed + R'.slots ≤ e.platform.maxSlots
      omega
  · rw [State.stackLimits_setFrames]; rfl
  · rw [State.stackBytes_setFrames]; rfl
  · refine ⟨?_, Nat.le_refl _, Nat.le_refl _, ?_, ?_, fun a c9 h9 => ⟨c9, h9, rfl, rfl, fun _ _ => rfl⟩⟩
    · obtain ⟨t, ht, -⟩ := State.frames_cons hr
      show T.setVm s.vm = { ((T.setVm s.vm).setFrames (.invoking m args :: below)).setFrames (T.setVm s.vm).frames with heap := T.heap, slotsUsed := T.slotsUsed }
      rw [State.setFrames_setFrames, State.setFrames_self ht]
      rfl
    · show T.slotsUsed = T.slotsUsed + ((T.heap.toList.drop T.heap.size).map (·.slots.size)).sum
      rw [List.drop_eq_nil_of_le (Nat.le_of_eq Array.length_toList)]
      rfl
    · show ((T.heap.toList.drop T.heap.size).map (·.slots.size)).sum ≤ 0
      rw [List.drop_eq_nil_of_le (Nat.le_of_eq Array.length_toList)]
      exact Nat.le_refl _
/-- 'throw new E()': new; dup; invokespecial; athrow -/
theorem vx_throw0 {cc : ByteArray} {pc : Nat} (hexec : p.tables.exec = Jvm.exec) (hb : c.code = cc) (hl : l.stackTraces = false) {own cls : String} {names : List String} {ik ic mc ms : Nat} {A : Nat → Prop}
    (hown : s.vm.findClass own = some m.cls) (hcls : Bundle.fit cls = true) (hnames : ∀ n ∈ names, Bundle.fit n = true)
    (hk : (Cond.classLink own ik cls).before args s = true) (hini : (Cond.initialized cls).before args s = true) (hat : ∀ w ∈ vx_at0 own ic cls names, w.before args s = true)
    (hgood : ∀ w ∈ Cond.classLink own ik cls :: Cond.initialized cls :: vx_at0 own ic cls names, vx_ot w = true)
    (hU : vx_Zq Bundle.tN "UNASSIGNED_STACK" Bundle.steD A s s.heap) (hN : vx_Zq Bundle.tN "SUPPRESSED_SENTINEL" Bundle.listD A s s.heap) (hS : va_S A s.heap H locs) (hsize : ls.size = c.maxLocals)
    (d0 : decode cc pc = .ok (.new ik, 3)) (d3 : decode cc (pc + 3) = .ok (.dup, 1)) (d4 : decode cc (pc + 4) = .ok (.invokespecial ic, 3)) (d7 : decode cc (pc + 7) = .ok (.athrow, 1))
    (hout : ∀ x ∈ c.exceptionTable.toList, covers x (pc + 7) = false)
    (hRframes : names.length + 3 < R.frames) (hRlocals : (rest.map fun v => v.category).sum + (13 * (names.length + 1) + 42) ≤ R.locals) (hRcells : cells + 1 ≤ R.cells) (hRslots : slots + 6 ≤ R.slots) (hlocks : meth.locks = false)
    (hx : ∀ t : State, s.vm.Alike t.vm → H.size ≤ t.heap.size → (∀ q : Nat, q < H.size → t.heap[q]? = H[q]?) → XC cls s t)
    (hf : ∀ z ∈ locs, free z.base) (hc : cells + 1 ≤ mc) (hs : slots + 6 ≤ ms) :
    W p l e R s m args below meth c H locs cells slots (vx_MQ below Qc XC args s mc ms free) (F0 m pc ls rest) := by
  intro T hT X
  have htr : e.platform.stackTraces = false := (show e.platform.stackTraces = l.stackTraces by rw [X.admits.platform]).trans hl
  have Y := vx_rebase X (R' := { frames := R.frames, locals := R.locals, cells := 1, slots := 6 }) (Nat.le_refl _) (Nat.le_refl _) hRcells hRslots
  obtain ⟨s', hA⟩ : ∃ z, z = (T.setVm s.vm).setFrames (.invoking m args :: below) := ⟨_, rfl⟩
  rw [← hA] at Y
  have hvm : s'.vm = s.vm := by rw [hA]; rfl
  have hhp : s'.heap = H := by rw [hA]; exact hT
  have hW0 : s.WarmedH s'.vm := by rw [hvm]; exact State.WarmedH.refl s
  have hat' : ∀ w ∈ vx_at0 own ic cls names, w.before args s' = true := fun w hw => vx_ot_at hW0 hvm.symm (hgood w (List.mem_cons_of_mem _ (List.mem_cons_of_mem _ hw))) (hat w hw)
  have hk' : (Cond.classLink own ik cls).before args s' = true := vx_ot_at hW0 hvm.symm (hgood _ List.mem_cons_self) hk
  have hini' : (Cond.initialized cls).before args s' = true := vx_ot_at hW0 hvm.symm (hgood _ (List.mem_cons_of_mem _ List.mem_cons_self)) hini
  have hU' : vx_Zq Bundle.tN "UNASSIGNED_STACK" Bundle.steD A s' s'.heap := by rw [hhp]; exact vx_Zq.moved hW0.alike (hU.kept hS.2.1)
  have hN' : vx_Zq Bundle.tN "SUPPRESSED_SENTINEL" Bundle.listD A s' s'.heap := by rw [hhp]; exact vx_Zq.moved hW0.alike (hN.kept hS.2.1)
  have h : ∀ w ∈ Bundle.ownAtoms0 own ic cls names, w.before args s' = true := vx_own hat' (vx_isRefq hU'.1) (vx_isRefq hN'.1) hU'.2.word hN'.2.word
  have hown' : s'.vm.findClass own = some m.cls := by rw [hvm]; exact hown
  have hins : (Cond.instantiable cls 6).before args s' = true := h _ (by simp [Bundle.ownAtoms0])
  obtain ⟨vm₁, cX, kX, hfX, hkX, -, -, X₁, st1⟩ := Y.newCold hexec (own := own) (C := cls) (index := ik) (n := 6) hown' hk' hins hini'
    (g := F0 m pc ls rest) rfl (by rw [hb]; exact d0) (Nat.le_refl _) (Nat.le_refl _)
  generalize hT1 : (T.setVm vm₁).pushCell { cls := cX, slots := kX.instanceTypes.map defaultValue, vm := .none } = T1 at X₁ st1
  have hcat : (Value.ref T.heap.size).category = 1 := rfl
  have hcellA : T1.heap[T.heap.size]? = some (freshCell cX kX) := by rw [← hT1]; exact State.heap_pushCell_size _ _
  have d3' : decode c.code (pc + 3) = .ok (.dup, 1) := by rw [hb]; exact d3
  obtain ⟨U, hsteps, hrun, hend, hW, hsame, ce, hce, hO⟩ := X₁.ctorThrow0 hexec htr (own := own) (cls := cls) (names := names) (ic := ic) hown' hcls hnames h (fun x hx => nomatch hx) hfX hkX hcellA (by rw [hhp, hT]; exact Nat.le_refl _)
    (g := { method := m, pc := pc + 4, locals := ls, stack := .ref T.heap.size :: .ref T.heap.size :: rest, locked := none }) rfl hsize rfl rfl (rest := rest) rfl
    (by rw [hb]; exact d4) (by rw [hb]; exact d7) hout hRframes (by simp only [List.map_cons, List.sum_cons, hcat]; omega) hlocks
  obtain ⟨f1, f2⟩ := vx_frame hsame
  rw [hhp] at f1 f2
  have hWs : s.WarmedH U.vm := State.WarmedH.trans hW0 hW
  have hcl : s.vm.findClass cls = some ce.cls := by
    have h9 := hO.cls
    rw [hvm] at h9
    exact h9
  have hall : s.sameButNew ({ U with vm := s.vm } : State) locs mc ms := by
    subst hA
    obtain ⟨e1, e2⟩ := hsame
    rw [State.setFrames_setFrames] at e1
    have h2 : (T.setVm s.vm).sameButNew ({ U with vm := s.vm } : State) [] (0 + 1) (0 + 6) := ⟨e1, e2⟩
    have h3 := X.same.trans h2
    rw [List.append_nil] at h3
    exact h3.mono hc hs
  refine ⟨U, ?_, .threw T.heap.size, hrun, hend, Or.inr ⟨T.heap.size, rfl, cls, ce, locs, hx U hWs.alike f1 (fun q hq => f2 q hq (fun z hz => nomatch hz)), hce, hO.vm, hcl, hWs, hall, hf⟩⟩
  refine st1 _ ?_
  show Steps p.tables e below (T1.setTop { method := m, pc := pc + 3, locals := ls, stack := .ref T.heap.size :: rest, locked := none }) _
  jvm_step X₁.here [X₁.here.top, hexec, d3', Value.category]
  exact hsteps
/-- 'throw new E("text")': new; dup; ldc; invokespecial; athrow -/
theorem vx_throwS {cc : ByteArray} {pc : Nat} (hexec : p.tables.exec = Jvm.exec) (hb : c.code = cc) (hl : l.stackTraces = false) {own cls text : String} {names : List String} {ik is ic mc ms sa : Nat} {A : Nat → Prop}
    (hown : s.vm.findClass own = some m.cls) (hcls : Bundle.fit cls = true) (hnames : ∀ n ∈ names, Bundle.fit n = true)
    (hk : (Cond.classLink own ik cls).before args s = true) (hini : (Cond.initialized cls).before args s = true) (hstr : vk_R own is text sa s) (hat : ∀ w ∈ vx_atS own ic cls names, w.before args s = true)
    (hgood : ∀ w ∈ Cond.classLink own ik cls :: Cond.initialized cls :: vx_atS own ic cls names, vx_ot w = true)
    (hU : vx_Zq Bundle.tN "UNASSIGNED_STACK" Bundle.steD A s s.heap) (hN : vx_Zq Bundle.tN "SUPPRESSED_SENTINEL" Bundle.listD A s s.heap) (hS : va_S A s.heap H locs) (hsize : ls.size = c.maxLocals)
    (d0 : decode cc pc = .ok (.new ik, 3)) (d3 : decode cc (pc + 3) = .ok (.dup, 1)) (d4 : decode cc (pc + 4) = .ok (.ldc is, 2)) (d6 : decode cc (pc + 6) = .ok (.invokespecial ic, 3)) (d9 : decode cc (pc + 9) = .ok (.athrow, 1))
    (hout : ∀ x ∈ c.exceptionTable.toList, covers x (pc + 9) = false)
    (hRframes : names.length + 3 < R.frames) (hRlocals : (rest.map fun v => v.category).sum + (13 * (names.length + 1) + 43) ≤ R.locals) (hRcells : cells + 1 ≤ R.cells) (hRslots : slots + 6 ≤ R.slots) (hlocks : meth.locks = false)
    (hx : ∀ t : State, s.vm.Alike t.vm → H.size ≤ t.heap.size → (∀ q : Nat, q < H.size → t.heap[q]? = H[q]?) → XC cls s t)
    (hf : ∀ z ∈ locs, free z.base) (hc : cells + 1 ≤ mc) (hs : slots + 6 ≤ ms) :
    W p l e R s m args below meth c H locs cells slots (vx_MQ below Qc XC args s mc ms free) (F0 m pc ls rest) := by
  intro T hT X
  have htr : e.platform.stackTraces = false := (show e.platform.stackTraces = l.stackTraces by rw [X.admits.platform]).trans hl
  have Y := vx_rebase X (R' := { frames := R.frames, locals := R.locals, cells := 1, slots := 6 }) (Nat.le_refl _) (Nat.le_refl _) hRcells hRslots
  obtain ⟨s', hA⟩ : ∃ z, z = (T.setVm s.vm).setFrames (.invoking m args :: below) := ⟨_, rfl⟩
  rw [← hA] at Y
  have hvm : s'.vm = s.vm := by rw [hA]; rfl
  have hhp : s'.heap = H := by rw [hA]; exact hT
  have hW0 : s.WarmedH s'.vm := by rw [hvm]; exact State.WarmedH.refl s
  have hat' : ∀ w ∈ vx_atS own ic cls names, w.before args s' = true := fun w hw => vx_ot_at hW0 hvm.symm (hgood w (List.mem_cons_of_mem _ (List.mem_cons_of_mem _ hw))) (hat w hw)
  have hk' : (Cond.classLink own ik cls).before args s' = true := vx_ot_at hW0 hvm.symm (hgood _ List.mem_cons_self) hk
  have hini' : (Cond.initialized cls).before args s' = true := vx_ot_at hW0 hvm.symm (hgood _ (List.mem_cons_of_mem _ List.mem_cons_self)) hini
  have hU' : vx_Zq Bundle.tN "UNASSIGNED_STACK" Bundle.steD A s' s'.heap := by rw [hhp]; exact vx_Zq.moved hW0.alike (hU.kept hS.2.1)
  have hN' : vx_Zq Bundle.tN "SUPPRESSED_SENTINEL" Bundle.listD A s' s'.heap := by rw [hhp]; exact vx_Zq.moved hW0.alike (hN.kept hS.2.1)
  have h : ∀ w ∈ Bundle.ownAtoms own ic cls names, w.before args s' = true := vx_own hat' (vx_isRefq hU'.1) (vx_isRefq hN'.1) hU'.2.word hN'.2.word
  have hown' : s'.vm.findClass own = some m.cls := by rw [hvm]; exact hown
  have hins : (Cond.instantiable cls 6).before args s' = true := h _ (by simp [Bundle.ownAtoms])
  obtain ⟨vm₁, cX, kX, hfX, hkX, -, -, X₁, st1⟩ := Y.newCold hexec (own := own) (C := cls) (index := ik) (n := 6) hown' hk' hins hini'
    (g := F0 m pc ls rest) rfl (by rw [hb]; exact d0) (Nat.le_refl _) (Nat.le_refl _)
  generalize hT1 : (T.setVm vm₁).pushCell { cls := cX, slots := kX.instanceTypes.map defaultValue, vm := .none } = T1 at X₁ st1
  have hcat : (Value.ref T.heap.size).category = 1 := rfl
  have hcellA : T1.heap[T.heap.size]? = some (freshCell cX kX) := by rw [← hT1]; exact State.heap_pushCell_size _ _
  have d3' : decode c.code (pc + 3) = .ok (.dup, 1) := by rw [hb]; exact d3
  have d4' : decode c.code (pc + 4) = .ok (.ldc is, 2) := by rw [hb]; exact d4
  have hstr' : vk_R own is text sa s' := vk_R.warm hW0 hstr
  obtain ⟨U, hsteps, hrun, hend, hW, hsame, ce, hce, hO⟩ := X₁.ctorThrowS hexec htr (own := own) (cls := cls) (names := names) (ic := ic) hown' hcls hnames h (fun x hx => nomatch hx) hfX hkX hcellA (by rw [hhp, hT]; exact Nat.le_refl _) (msg := .ref sa) rfl
    (g := { method := m, pc := pc + 6, locals := ls, stack := .ref sa :: .ref T.heap.size :: .ref T.heap.size :: rest, locked := none }) rfl hsize rfl rfl (rest := rest) rfl
    (by rw [hb]; exact d6) (by rw [hb]; exact d9) hout hRframes (by simp only [List.map_cons, List.sum_cons, hcat]; omega) hlocks
  obtain ⟨f1, f2⟩ := vx_frame hsame
  rw [hhp] at f1 f2
  have hWs : s.WarmedH U.vm := State.WarmedH.trans hW0 hW
  have hcl : s.vm.findClass cls = some ce.cls := by
    have h9 := hO.cls
    rw [hvm] at h9
    exact h9
  have hall : s.sameButNew ({ U with vm := s.vm } : State) locs mc ms := by
    subst hA
    obtain ⟨e1, e2⟩ := hsame
    rw [State.setFrames_setFrames] at e1
    have h2 : (T.setVm s.vm).sameButNew ({ U with vm := s.vm } : State) [] (0 + 1) (0 + 6) := ⟨e1, e2⟩
    have h3 := X.same.trans h2
    rw [List.append_nil] at h3
    exact h3.mono hc hs
  refine ⟨U, ?_, .threw T.heap.size, hrun, hend, Or.inr ⟨T.heap.size, rfl, cls, ce, locs, hx U hWs.alike f1 (fun q hq => f2 q hq (fun z hz => nomatch hz)), hce, hO.vm, hcl, hWs, hall, hf⟩⟩
  refine st1 _ ?_
  show Steps p.tables e below (T1.setTop { method := m, pc := pc + 3, locals := ls, stack := .ref T.heap.size :: rest, locked := none }) _
  jvm_step X₁.here [X₁.here.top, hexec, d3', Value.category]
  exact X₁.ldcString hexec (own := own) (text := text) (index := is) (a := sa) hown' hstr'.1 hstr'.2
    (g := { method := m, pc := pc + 4, locals := ls, stack := .ref T.heap.size :: .ref T.heap.size :: rest, locked := none }) rfl d4' _ hsteps
/-- 'throw new E("text")', the text by a wide index -/
theorem vx_throwSW {cc : ByteArray} {pc : Nat} (hexec : p.tables.exec = Jvm.exec) (hb : c.code = cc) (hl : l.stackTraces = false) {own cls text : String} {names : List String} {ik is ic mc ms sa : Nat} {A : Nat → Prop}
    (hown : s.vm.findClass own = some m.cls) (hcls : Bundle.fit cls = true) (hnames : ∀ n ∈ names, Bundle.fit n = true)
    (hk : (Cond.classLink own ik cls).before args s = true) (hini : (Cond.initialized cls).before args s = true) (hstr : vk_R own is text sa s) (hat : ∀ w ∈ vx_atS own ic cls names, w.before args s = true)
    (hgood : ∀ w ∈ Cond.classLink own ik cls :: Cond.initialized cls :: vx_atS own ic cls names, vx_ot w = true)
    (hU : vx_Zq Bundle.tN "UNASSIGNED_STACK" Bundle.steD A s s.heap) (hN : vx_Zq Bundle.tN "SUPPRESSED_SENTINEL" Bundle.listD A s s.heap) (hS : va_S A s.heap H locs) (hsize : ls.size = c.maxLocals)
    (d0 : decode cc pc = .ok (.new ik, 3)) (d3 : decode cc (pc + 3) = .ok (.dup, 1)) (d4 : decode cc (pc + 4) = .ok (.ldc_w is, 3)) (d7 : decode cc (pc + 7) = .ok (.invokespecial ic, 3)) (d10 : decode cc (pc + 10) = .ok (.athrow, 1))
    (hout : ∀ x ∈ c.exceptionTable.toList, covers x (pc + 10) = false)
    (hRframes : names.length + 3 < R.frames) (hRlocals : (rest.map fun v => v.category).sum + (13 * (names.length + 1) + 43) ≤ R.locals) (hRcells : cells + 1 ≤ R.cells) (hRslots : slots + 6 ≤ R.slots) (hlocks : meth.locks = false)
    (hx : ∀ t : State, s.vm.Alike t.vm → H.size ≤ t.heap.size → (∀ q : Nat, q < H.size → t.heap[q]? = H[q]?) → XC cls s t)
    (hf : ∀ z ∈ locs, free z.base) (hc : cells + 1 ≤ mc) (hs : slots + 6 ≤ ms) :
    W p l e R s m args below meth c H locs cells slots (vx_MQ below Qc XC args s mc ms free) (F0 m pc ls rest) := by
  intro T hT X
  have htr : e.platform.stackTraces = false := (show e.platform.stackTraces = l.stackTraces by rw [X.admits.platform]).trans hl
  have Y := vx_rebase X (R' := { frames := R.frames, locals := R.locals, cells := 1, slots := 6 }) (Nat.le_refl _) (Nat.le_refl _) hRcells hRslots
  obtain ⟨s', hA⟩ : ∃ z, z = (T.setVm s.vm).setFrames (.invoking m args :: below) := ⟨_, rfl⟩
  rw [← hA] at Y
  have hvm : s'.vm = s.vm := by rw [hA]; rfl
  have hhp : s'.heap = H := by rw [hA]; exact hT
  have hW0 : s.WarmedH s'.vm := by rw [hvm]; exact State.WarmedH.refl s
  have hat' : ∀ w ∈ vx_atS own ic cls names, w.before args s' = true := fun w hw => vx_ot_at hW0 hvm.symm (hgood w (List.mem_cons_of_mem _ (List.mem_cons_of_mem _ hw))) (hat w hw)
  have hk' : (Cond.classLink own ik cls).before args s' = true := vx_ot_at hW0 hvm.symm (hgood _ List.mem_cons_self) hk
  have hini' : (Cond.initialized cls).before args s' = true := vx_ot_at hW0 hvm.symm (hgood _ (List.mem_cons_of_mem _ List.mem_cons_self)) hini
  have hU' : vx_Zq Bundle.tN "UNASSIGNED_STACK" Bundle.steD A s' s'.heap := by rw [hhp]; exact vx_Zq.moved hW0.alike (hU.kept hS.2.1)
  have hN' : vx_Zq Bundle.tN "SUPPRESSED_SENTINEL" Bundle.listD A s' s'.heap := by rw [hhp]; exact vx_Zq.moved hW0.alike (hN.kept hS.2.1)
  have h : ∀ w ∈ Bundle.ownAtoms own ic cls names, w.before args s' = true := vx_own hat' (vx_isRefq hU'.1) (vx_isRefq hN'.1) hU'.2.word hN'.2.word
  have hown' : s'.vm.findClass own = some m.cls := by rw [hvm]; exact hown
  have hins : (Cond.instantiable cls 6).before args s' = true := h _ (by simp [Bundle.ownAtoms])
  obtain ⟨vm₁, cX, kX, hfX, hkX, -, -, X₁, st1⟩ := Y.newCold hexec (own := own) (C := cls) (index := ik) (n := 6) hown' hk' hins hini'
    (g := F0 m pc ls rest) rfl (by rw [hb]; exact d0) (Nat.le_refl _) (Nat.le_refl _)
  generalize hT1 : (T.setVm vm₁).pushCell { cls := cX, slots := kX.instanceTypes.map defaultValue, vm := .none } = T1 at X₁ st1
  have hcat : (Value.ref T.heap.size).category = 1 := rfl
  have hcellA : T1.heap[T.heap.size]? = some (freshCell cX kX) := by rw [← hT1]; exact State.heap_pushCell_size _ _
  have d3' : decode c.code (pc + 3) = .ok (.dup, 1) := by rw [hb]; exact d3
  have d4' : decode c.code (pc + 4) = .ok (.ldc_w is, 3) := by rw [hb]; exact d4
  have hstr' : vk_R own is text sa s' := vk_R.warm hW0 hstr
  obtain ⟨U, hsteps, hrun, hend, hW, hsame, ce, hce, hO⟩ := X₁.ctorThrowS hexec htr (own := own) (cls := cls) (names := names) (ic := ic) hown' hcls hnames h (fun x hx => nomatch hx) hfX hkX hcellA (by rw [hhp, hT]; exact Nat.le_refl _) (msg := .ref sa) rfl
    (g := { method := m, pc := pc + 7, locals := ls, stack := .ref sa :: .ref T.heap.size :: .ref T.heap.size :: rest, locked := none }) rfl hsize rfl rfl (rest := rest) rfl
    (by rw [hb]; exact d7) (by rw [hb]; exact d10) hout hRframes (by simp only [List.map_cons, List.sum_cons, hcat]; omega) hlocks
  obtain ⟨f1, f2⟩ := vx_frame hsame
  rw [hhp] at f1 f2
  have hWs : s.WarmedH U.vm := State.WarmedH.trans hW0 hW
  have hcl : s.vm.findClass cls = some ce.cls := by
    have h9 := hO.cls
    rw [hvm] at h9
    exact h9
  have hall : s.sameButNew ({ U with vm := s.vm } : State) locs mc ms := by
    subst hA
    obtain ⟨e1, e2⟩ := hsame
    rw [State.setFrames_setFrames] at e1
    have h2 : (T.setVm s.vm).sameButNew ({ U with vm := s.vm } : State) [] (0 + 1) (0 + 6) := ⟨e1, e2⟩
    have h3 := X.same.trans h2
    rw [List.append_nil] at h3
    exact h3.mono hc hs
  refine ⟨U, ?_, .threw T.heap.size, hrun, hend, Or.inr ⟨T.heap.size, rfl, cls, ce, locs, hx U hWs.alike f1 (fun q hq => f2 q hq (fun z hz => nomatch hz)), hce, hO.vm, hcl, hWs, hall, hf⟩⟩
  refine st1 _ ?_
  show Steps p.tables e below (T1.setTop { method := m, pc := pc + 3, locals := ls, stack := .ref T.heap.size :: rest, locked := none }) _
  jvm_step X₁.here [X₁.here.top, hexec, d3', Value.category]
  exact X₁.ldcStringW hexec (own := own) (text := text) (index := is) (a := sa) hown' hstr'.1 hstr'.2
    (g := { method := m, pc := pc + 4, locals := ls, stack := .ref T.heap.size :: .ref T.heap.size :: rest, locked := none }) rfl d4' _ hsteps
end Ends
section Bodies
variable {l : Launch}
theorem vx_ofW {y : MethodName} {ws ws' : List Cond} {rm : Room} {Pc : Array Value → State → Prop} {Qc : Array Value → State → Outcome → State → Prop} {XC : String → State → State → Prop} {mc ms : Nat} {free : Addr → Prop} {cc : ByteArray} {maxL : Nat} {ret : Option FieldType}
    (hy : plainName y.cls = true) (hw : ws = Cond.code y cc maxL ret :: ws')
    (body : ∀ p e s m args below meth c s₁, BodyLoose p l y (headSpec ws rm) cc maxL ret e s m args below meth c s₁ → c.maxLocals = maxL → (∀ x ∈ c.exceptionTable.toList, False) → Pc args s →
      W p l e (headSpec ws rm).room s m args below meth c s.heap [] 0 0 (vx_MQ below Qc XC args s mc ms free) (entryFrame m args maxL)) : vx_Met l y ws rm Pc Qc XC mc ms free := by
  refine MetFree.of_bodyS (code := cc) (maxLocals := maxL) (ret := ret) hy ?_ ?_
  · intro args s m h hn
    obtain ⟨meth, c, h1, h2, h3, h4, h5, h6, -, -⟩ := Cond.code_spec hn (atoms_spec (ws := ws) h _ (by rw [hw]; exact List.mem_cons_self))
    exact ⟨meth, c, h1, h2, h3, h4, h5, h6⟩
  · intro p e s m args below meth c s₁ B hml hP _
    have hh0 : s₁.heap = s.heap := by rw [B.state]; rfl
    have ht : ∀ x ∈ c.exceptionTable.toList, False := by
      obtain ⟨meth9, c9, h1, h2, -, -, -, -, h7, -⟩ := Cond.code_spec B.named (atoms_spec (ws := ws) B.pre _ (by rw [hw]; exact List.mem_cons_self))
      cases Option.some.inj (h1.symm.trans B.method)
      cases Option.some.inj (h2.symm.trans (Stand.of_body B).code)
      intro x hx
      rw [Array.isEmpty_iff.mp h7] at hx
      cases hx
    obtain ⟨t, a1, o, b1, b2, b3⟩ := body p e s m args below meth c s₁ B hml ht hP s₁ hh0 (Stand.of_body B)
    exact ⟨t, o, a1, b1, b2, b3⟩
/-- the table of a body with handlers -/
theorem vx_table {p : Program} {x y : MethodName} {S : Spec} {cc bytes : ByteArray} {maxL maxL' : Nat} {ret ret' : Option FieldType} {e : Env} {s s₁ : State} {m : MethodId} {args : Array Value} {below : List Frame} {meth : Method} {c : Code} {hh : List (Nat × Nat × Nat × Nat)}
    (B : BodyLoose p l y S cc maxL ret e s m args below meth c s₁) (h : (Cond.codeWith y bytes maxL' ret' hh).before args s = true) : c.exceptionTable.toList = tableOf hh := by
  obtain ⟨m9, meth9, c9, hn9, h1, h2, -, -, h6, -⟩ := Cond.codeWith_spec h
  cases Option.some.inj (hn9.symm.trans B.named)
  cases Option.some.inj (h1.symm.trans B.method)
  cases Option.some.inj (h2.symm.trans (Stand.of_body B).code)
  rw [← h6, table_eq]
end Bodies
end VXA
/-! ===== END ===== -/
/-! ===== BEGIN a static call of a method with an exception table ===== -/
section VXS
variable {p : Program} {l : Launch} {e : Env} {R : Room} {s : State} {m : MethodId} {args : Array Value} {below : List Frame} {meth : Method} {c : Code} {T : State} {H : Heap} {locs : List Loc} {cells slots : Nat}
abbrev vx_CSW (R : Room) (s : State) (args : Array Value) (own : String) (index : Nat) (y : MethodName) (bytes : ByteArray) (maxL : Nat) (ret : Option FieldType) (hh : List (Nat × Nat × Nat × Nat)) (ws : List Cond) (rm : Room) (mc ms n : Nat) : Prop :=
  (rm.cells = mc ∧ rm.slots = ms ∧ rm.frames + 1 ≤ R.frames ∧ 8 + (maxL + 11) + rm.locals ≤ R.locals ∧ (∀ w ∈ ws, ∀ (a' : Array Value) (U : State), s.WarmedH U.vm → w.before a' U = true) ∧ Cond.codeWith y bytes maxL ret hh ∈ ws) ∧
  (Cond.codeWith y bytes maxL ret hh).before args s = true ∧ (Cond.initialized y.cls).before args s = true ∧ (y.cls ≠ "java/lang/invoke/MethodHandle" ∧ y.cls ≠ "java/lang/invoke/VarHandle") ∧
  (∀ sig, parseMethodDescriptor y.desc = some sig → n = sig.parameters.length) ∧ (Cond.methodLink own index y).before args s = true ∧ (Cond.static y).before args s = true
theorem vx_cwSW {own : String} {index maxL mc ms : Nat} {y : MethodName} {bytes : ByteArray} {ret : Option FieldType} {hh : List (Nat × Nat × Nat × Nat)} {Ts ws ws' : List Cond} {rm : Room} (n : Nat) (ht : ∀ w ∈ Ts, w.before args s = true) (hT : GoodIn Ts (va_wsS own index y ws)) (hw : ws = Cond.codeWith y bytes maxL ret hh :: ws') (hrc : rm.cells = mc) (hrs : rm.slots = ms)
    (hd : y.cls ≠ "java/lang/invoke/MethodHandle" ∧ y.cls ≠ "java/lang/invoke/VarHandle" ∧ (parseMethodDescriptor y.desc).map (fun d => d.parameters.length) = some n) (hR : rm.frames + 1 ≤ R.frames ∧ 8 + (maxL + 11) + rm.locals ≤ R.locals) :
    vx_CSW R s args own index y bytes maxL ret hh ws rm mc ms n := by
  have ok : ∀ w ∈ va_wsS own index y ws, w.before args s = true := fun w h => ht w (hT w h).1
  have hG : GoodIn Ts ws := fun w h => hT w (by unfold va_wsS; exact List.mem_append_right _ h)
  have hc : Cond.codeWith y bytes maxL ret hh ∈ ws := by rw [hw]; exact List.mem_cons_self
  refine ⟨⟨hrc, hrs, hR.1, hR.2, pay_in ht hG, hc⟩, ht _ (hG _ hc).1, ok _ (by simp [va_wsS]), ⟨hd.1, hd.2.1⟩, fun sig h => ?_, ok _ (by simp [va_wsS]), ok _ (by simp [va_wsS])⟩
  have h2 := hd.2.2
  rw [h] at h2
  exact (Option.some.inj h2).symm
theorem vx_callSW (X : Stand p l e R s m args below meth c T locs cells slots) (hexec : p.tables.exec = Jvm.exec) {own : String} {index : Nat} {y : MethodName} {bytes : ByteArray} {maxL : Nat} {ret : Option FieldType} {hh : List (Nat × Nat × Nat × Nat)}
    (hown : s.vm.findClass own = some m.cls) (hlink : (Cond.methodLink own index y).before args s = true) (hstat : (Cond.static y).before args s = true) (hinit : (Cond.initialized y.cls).before args s = true)
    (hcode : (Cond.codeWith y bytes maxL ret hh).before args s = true) (hy : y.cls ≠ "java/lang/invoke/MethodHandle" ∧ y.cls ≠ "java/lang/invoke/VarHandle")
    {W9 : Nat} {Pre : Pt → Array Value → Prop} {Post : Pt → Array Value → Option Value → Pt → Prop} (hK : Back l R p e below s args y 3 W9 Pre Post)
    {g : JFrame} (hg : g.method = m) (hsize : g.locals.size = c.maxLocals) {argsL rest : List Value} (hlen : ∀ sig, parseMethodDescriptor y.desc = some sig → argsL.length = sig.parameters.length)
    (hstack : g.stack = argsL.reverse ++ rest) (hW : 2 * g.monitorRoom + (rest.map fun v => v.category).sum ≤ W9) (hdg : decode c.code g.pc = .ok (.invokestatic index, 3))
    (hpre : ∀ vm₁, s.WarmedH vm₁ → Pre ⟨T.setVm vm₁, locs, cells, slots⟩ argsL.toArray) :
    ∃ (v : Option Value) (vm₁ : Vm) (B : Pt), s.WarmedH vm₁ ∧ Stand p l e R s m args below meth c B.U B.locs B.cells B.slots ∧ Post ⟨T.setVm vm₁, locs, cells, slots⟩ argsL.toArray v B ∧
      ∀ target, Steps p.tables e below (B.U.setTop { g with pc := g.pc + 3, stack := v.toList ++ rest }) target → Steps p.tables e below (T.setTop g) target := by
  obtain ⟨mk, methM, cM, hnamed, hmethM, -, -, -, -, -, -, hsigM⟩ := Cond.codeWith_spec hcode
  have hstatic : methM.isStatic = true := Cond.static_spec hnamed hmethM hstat
  obtain ⟨kP, hkP, -⟩ := className_of_methodNamed hnamed
  have hinitP : kP.init = .initialized := Cond.initialized_spec (findClass_of_methodNamed hnamed) hkP hinit
  obtain ⟨vm₁, X₁, hstep₁⟩ := X.invokestatic hexec hown hlink hnamed hmethM hstatic hkP hinitP hy (g := g) hg (argsL := argsL) (rest := rest) (hlen _ hsigM) hstack hdg
  obtain ⟨v, B, X', hpost, hsteps⟩ := hK m meth c ⟨T.setVm vm₁, locs, cells, slots⟩ { g with stack := rest } (.invokestatic index) mk argsL.toArray X₁ hg hsize hdg hW (X₁.named hnamed) (hpre vm₁ X₁.warmed)
  exact ⟨v, vm₁, B, X₁.warmed, X', hpost, fun target h => hstep₁ _ fun acts => by rw [doInvoke_state]; exact hsteps.trans h⟩
theorem vx_runSW {y : MethodName} {bytes cc : ByteArray} {maxL nL mc ms n index : Nat} {ret : Option FieldType} {hh : List (Nat × Nat × Nat × Nat)} {ws : List Cond} {rm : Room} {Pc : Array Value → State → Prop} {Qc : Array Value → State → Outcome → State → Prop} {free : Addr → Prop} {Ts : List Cond} {own : String} {As rest : List Value} {g : JFrame}
    (S : CallFix p m c cc nL s args Ts own) (hM : Met l y ws rm Pc Qc mc ms free) (cw : vx_CSW R s args own index y bytes maxL ret hh ws rm mc ms n) (hp : PreS s H Pc As)
    (hg : g.method = m) (hn : As.length = n) (hsize : g.locals.size = nL) (hstack : g.stack = As.reverse ++ rest) (hW : 2 * g.monitorRoom + (rest.map fun v => v.category).sum ≤ 8) (hdg : decode cc g.pc = .ok (.invokestatic index, 3)) (hf : cells + mc ≤ R.cells ∧ slots + ms ≤ R.slots) :
    va_Run p l e R s m args below meth c H locs cells slots mc ms g rest (Qc As.toArray) (free) := by
  obtain ⟨⟨hrc, hrs, hfr, hlo, hws, hcw⟩, hcode, hini, hy, hlen, hl, hstt⟩ := cw
  have hK : Back l R p e below s args y 3 8 (PreOf R mc ms Pc) (PostOf Qc mc ms free) := va_backW (hh := hh) (bytes := bytes) (maxL := maxL) (ret := ret) hM hp.1 hrc hrs hfr hlo hws hcw (fun a' U hW => word_at hW (Or.inl (by first | rfl | simp [Cond.onTables, Cond.keeps, Cond.steady])) hini)
  obtain ⟨hx, hb, hml, ho, -⟩ := S
  intro T hT X
  obtain ⟨v, vm₁, ⟨U', l2, c2, s2⟩, hW₁, X', ⟨g', mk, t, L, e1, e2, hq, h1, hL, h2, h3⟩, st⟩ := vx_callSW X hx (hh := hh) (bytes := bytes) (maxL := maxL) (ret := ret) ho hl hstt hini hcode hy hK hg (hsize.trans hml.symm) (argsL := As) (rest := rest) (fun sig h => hn.trans (hlen sig h)) hstack hW (by rw [hb]; exact hdg)
    (fun vm₁ hW₁ => ⟨hf.1, hf.2, hp.2 (T.setVm vm₁) hT hW₁⟩)
  dsimp only [Pt.U, Pt.locs, Pt.cells, Pt.slots] at X' e1 e2 h1 h2 h3 st
  subst h1; subst h2; subst h3
  exact ⟨v, (T.setVm vm₁).calling g' mk As.toArray, t, U', L, hT, X', hL, e1, e2, hq, st⟩
/-- not caught here, past rows that name other classes: it goes on to the caller -/
theorem vx_outP {p : Program} {l : Launch} {e : Env} {R : Room} {s : State} {m : MethodId} {args : Array Value} {below : List Frame} {meth : Method} {c : Code} {H : Heap} {locs : List Loc} {cells slots : Nat} {free : Addr → Prop} {ls : Array Slot} {rest : List Value} {Qc : Array Value → State → Outcome → State → Prop} {XC : String → State → State → Prop}
    {pc : Nat} {own E : String} {ce : Cell} {q : Addr} {mc ms : Nat} (hown : s.vm.findClass own = some m.cls) (hlocks : meth.locks = false)
    (hpass : ∀ z ∈ c.exceptionTable.toList, covers z pc = false ∨ (z.catchType ≠ 0 ∧ ∃ nm : String, (Cond.classLink own z.catchType nm).before args s = true ∧ va_Nc E nm s)) (hcell : H[q]? = some ce) (hv : ce.vm = .none) (hcl : s.vm.findClass E = some ce.cls)
    (hx : ∀ t : State, t.heap = H → s.vm.Alike t.vm → XC E s t) (hf : ∀ z ∈ locs, free z.base) (hc : cells ≤ mc) (hs : slots ≤ ms) :
    vx_W p l e R s m args below meth c H locs cells slots (vx_MQ below Qc XC args s mc ms free) (F0 m pc ls rest) q := by
  intro T hT X
  have hpl : e.platform.magicAccessors = ({} : Platform).magicAccessors := by rw [X.admits.platform]
  obtain ⟨vm', hW', X', st⟩ := X.outThrough hlocks q (g := F0 m pc ls rest) rfl rfl rfl (cell := ce) (by rw [hT]; exact hcell) (by rw [hv]; rfl)
    (by obtain ⟨k9, h9, -⟩ := Vm.findClass_spec hcl; exact ⟨k9, h9⟩) (fun z hz => by
      rcases hpass z hz with h | ⟨hz0, nm, hl1, hn1⟩
      · exact Or.inl h
      · obtain ⟨c6, hc6, hcl6⟩ := Cond.classLink_spec hown hl1 e.platform hpl
        obtain ⟨a8, b8, h1, h2, h3⟩ := hn1
        cases Option.some.inj (h1.symm.trans hcl)
        cases Option.some.inj (h2.symm.trans hc6)
        exact Or.inr ⟨hz0, _, hcl6, h3⟩)
  obtain ⟨g₀, hfr⟩ := X'.frames_eq
  have hcell9 : ((T.setVm vm').setFrames (.throwing q :: below)).heap[q]? = some ce := by
    show T.heap[q]? = some ce
    rw [hT]; exact hcell
  have hend : Ended ((T.setVm vm').setFrames (.throwing q :: below)) below (.threw q) := State.frames_setFrames _ (State.cur_lt_of_frames hfr)
  refine ⟨(T.setVm vm').setFrames (.throwing q :: below), ?_, .threw q, X'.here.running, hend, Or.inr ⟨q, rfl, E, ce, locs, hx _ hT (X'.ends _).1.alike, hcell9, hv, hcl, (X'.ends _).1, (X'.ends _).2.mono hc hs, hf⟩⟩
  rw [X.pushThrowing_eq]
  exact st
/-- a thing of a world lies in the heap -/
theorem vx_lt {D : va_G} {cl : List vw_C} {ws : va_W} {H1 : Heap} (h : va_P D cl ws H1) {k : Nat} {q : Nat × va_E} (hk : ws[k]? = some q) : q.1 < H1.size := (h k q hk).lt
end VXS
/-! ===== END ===== -/
/-! ===== BEGIN methods with a table of their own: called by a name, returning or throwing ===== -/
section VXH
/-! vx_backW, vx_callVX, vx_callSX, vx_callVW, vx_runVW, vx_runVX, vx_runSX, vx_ofWH follow the same proofs as their sisters above (Free/Laws.lean, Shelf42/LK1.lean); vx_outP calls Shelf42/NT130.lean (outThrough). -/
section
variable {l : Launch} {R : Room} {p : Program} {e : Env} {below : List Frame} {s : State} {sargs : Array Value} {y : MethodName} {len W9 : Nat}
theorem vx_backW {ws : List Cond} {rm : Room} {Pc : Array Value → State → Prop} {Qc : Array Value → State → Outcome → State → Prop} {XC : String → State → State → Prop} {mc ms : Nat} {free : Addr → Prop} {bytes : ByteArray} {maxL : Nat} {ret : Option FieldType} {hh : List (Nat × Nat × Nat × Nat)}
    (hM : vx_Met l y ws rm Pc Qc XC mc ms free) (hblind : FrameBlind Pc) (hrc : rm.cells = mc) (hrs : rm.slots = ms)
    (hframes : rm.frames + 1 ≤ R.frames) (hlocals : W9 + (maxL + 11) + rm.locals ≤ R.locals)
    (hws : ∀ w ∈ ws, ∀ a' U, s.WarmedH U.vm → w.before a' U = true) (hcode : Cond.codeWith y bytes maxL ret hh ∈ ws) (hinit : ∀ a' U, s.WarmedH U.vm → (Cond.initialized y.cls).before a' U = true) :
    vx_Back l R p e below s sargs y len W9 (PreOf R mc ms Pc) (PostOf Qc mc ms free) (vx_Post XC mc ms free) := by
  intro m meth c A g ig mk a X hg hsize hdg hW hn hp
  have h1 : (headSpec ws rm).pre.before a A.U = true := atoms_intro fun w hw => hws w hw _ _ X.warmed
  have h2 : (Cond.codeWith y bytes maxL ret hh).before a A.U = true := hws _ hcode _ _ X.warmed
  have h3 : (Cond.initialized y.cls).before a A.U = true := hinit _ _ X.warmed
  have h4 : A.cells + (headSpec ws rm).room.cells ≤ R.cells := by rw [show (headSpec ws rm).room.cells = mc from hrc]; exact hp.1
  have h5 : A.slots + (headSpec ws rm).room.slots ≤ R.slots := by rw [show (headSpec ws rm).room.slots = ms from hrs]; exact hp.2.1
  have hPc : Pc a (A.U.calling g mk a) := hblind _ _ _ _ hp.2.2
  obtain ⟨U, Ls, c0, s0⟩ := A
  dsimp only [Pt.U, Pt.locs, Pt.cells, Pt.slots] at h1 h2 h3 h4 h5 X hn hPc ⊢
  obtain ⟨m9, methY, cY, hn9, hmY, hcY, -, hlY, -⟩ := Cond.codeWith_spec h2
  cases Option.some.inj (hn9.symm.trans hn)
  obtain ⟨kY, hkY, -⟩ := className_of_methodNamed hn
  have hinitY : kY.init = .initialized := Cond.initialized_spec (findClass_of_methodNamed hn) hkY h3
  have h : At U g.method c below := by rw [hg]; exact X.here
  have hlocals9 : W9 + (maxL + 11) + (headSpec ws rm).room.locals ≤ R.locals := hlocals
  have happ : (headSpec ws rm).appliesLoose y e.platform (U.calling g mk a) = true :=
    Spec.appliesLoose_calling (g := g) h hdg hn hkY hinitY
      (X.room_calling (g := g) (R' := (headSpec ws rm).room) hsize hmY hcY hframes (by rw [hlY]; omega) h4 h5) h1
  obtain ⟨mid, hmid⟩ := h.above
  have hfr : (U.setTop g).frames = (.java g :: mid) ++ below := by rw [State.frames_setTop' g h.top, hmid]; rfl
  obtain ⟨o, s₂, hsteps, -, hend, hq⟩ := Steps.callFree hM p X.admits X.cas X.clock (acts := []) hfr happ hPc trivial
  have hq' : vx_Q Qc XC mc ms free a (U.calling g mk a) o s₂ := hq
  rw [State.frames_setTop' g h.top] at hend
  obtain ⟨g₀, hg0⟩ := Option.isSome_iff_exists.mp h.top
  obtain ⟨r, hr⟩ := State.topJava?_eq_some.mp hg0
  have hr' : (({ U with heap := s₂.heap, slotsUsed := s₂.slotsUsed } : State).setVm s₂.vm).frames = .java g₀ :: r := hr
  rcases hq' with ⟨hqc, L, hfe, hL⟩ | ⟨q, rfl, E, ce, L, hx, hce, hcv, hcl, hW₂, hsm, hL⟩
  · obtain ⟨⟨v, rfl⟩, hW₂, e2, q2, q3, q4, q5, q6⟩ := id hfe
    have e3 : s₂ = ({ (U.calling g mk a).setFrames s₂.frames with heap := s₂.heap, slotsUsed := s₂.slotsUsed } : State).setVm s₂.vm := by
      have : s₂ = ({ s₂ with vm := (U.calling g mk a).vm } : State).setVm s₂.vm := rfl
      rw [e2] at this
      exact this
    obtain ⟨c₂, i₂, len₂, hc₂, hd₂, hf₂⟩ := hend
    have hW' : U.WarmedH s₂.vm := hW₂
    have hcc : c₂ = c := by
      have h1 : s₂.code? g.method = U.code? g.method := by
        rw [State.code?_eq, State.code?_eq, hW'.alike.method?]
      exact Option.some.inj (hc₂.symm.trans (h1.trans h.code))
    subst hcc
    have hlen : len₂ = len := by rw [hdg] at hd₂; cases hd₂; rfl
    subst hlen
    have hs₂ : s₂ = (({ U with heap := s₂.heap, slotsUsed := s₂.slotsUsed } : State).setVm s₂.vm).setTop { g with pc := g.pc + len₂, stack := v.toList ++ g.stack } := by
      refine e3.trans ?_
      rw [hf₂, State.calling_eq h.top, State.setFrames_setFrames, State.setTop_of_frames _ hr', hr]
      rfl
    have hsame : U.sameButNew ({ U with heap := s₂.heap, slotsUsed := s₂.slotsUsed } : State) L mc ms := by
      refine ⟨?_, q2, q3, q4, q5, q6⟩
      obtain ⟨t, ht, -⟩ := State.frames_cons hr
      show ({ U with heap := s₂.heap, slotsUsed := s₂.slotsUsed } : State) = { U.setFrames U.frames with heap := s₂.heap, slotsUsed := s₂.slotsUsed }
      rw [State.setFrames_self ht]
    subst hg
    refine Or.inl ⟨v, ⟨(({ U with heap := s₂.heap, slotsUsed := s₂.slotsUsed } : State).setVm s₂.vm), Ls ++ L, c0 + mc, s0 + ms⟩,
      ⟨X.admits, X.cas, X.clock, X.frames, X.room, X.hears, X.method, X.code, (X.here.setHeapUsed s₂.heap s₂.slotsUsed).setVm hW'.alike, X.tail, State.WarmedH.trans X.warmed hW', X.limits, X.bytes, X.same.trans (hsame.setVm s.vm)⟩,
      ⟨g, mk, s₂, L, rfl, rfl, hqc, rfl, hL, rfl, rfl⟩, ?_⟩
    show Steps p.tables e below _ ((({ U with heap := s₂.heap, slotsUsed := s₂.slotsUsed } : State).setVm s₂.vm).setTop { g with pc := g.pc + len₂, stack := v.toList ++ g.stack })
    rw [← hs₂]
    exact hsteps
  · obtain ⟨e2, q2, q3, q4, q5, q6⟩ := id hsm
    have e3 : s₂ = ({ (U.calling g mk a).setFrames s₂.frames with heap := s₂.heap, slotsUsed := s₂.slotsUsed } : State).setVm s₂.vm := by
      have : s₂ = ({ s₂ with vm := (U.calling g mk a).vm } : State).setVm s₂.vm := rfl
      rw [e2] at this
      exact this
    have hf₂ : s₂.frames = .throwing q :: .java g :: U.frames.tail := hend
    have hW' : U.WarmedH s₂.vm := hW₂
    have hs₂ : s₂ = ((({ U with heap := s₂.heap, slotsUsed := s₂.slotsUsed } : State).setVm s₂.vm).setTop g).pushFrame (.throwing q) := by
      refine e3.trans ?_
      rw [hf₂, State.calling_eq h.top, State.setFrames_setFrames, State.pushFrame, State.frames_setTop _ hr', State.setTop_of_frames _ hr', State.setFrames_setFrames, hr]
      rfl
    have hsame : U.sameButNew ({ U with heap := s₂.heap, slotsUsed := s₂.slotsUsed } : State) L mc ms := by
      refine ⟨?_, q2, q3, q4, q5, q6⟩
      obtain ⟨t, ht, -⟩ := State.frames_cons hr
      show ({ U with heap := s₂.heap, slotsUsed := s₂.slotsUsed } : State) = { U.setFrames U.frames with heap := s₂.heap, slotsUsed := s₂.slotsUsed }
      rw [State.setFrames_self ht]
    subst hg
    refine Or.inr ⟨q, ⟨(({ U with heap := s₂.heap, slotsUsed := s₂.slotsUsed } : State).setVm s₂.vm), Ls ++ L, c0 + mc, s0 + ms⟩,
      ⟨X.admits, X.cas, X.clock, X.frames, X.room, X.hears, X.method, X.code, (X.here.setHeapUsed s₂.heap s₂.slotsUsed).setVm hW'.alike, X.tail, State.WarmedH.trans X.warmed hW', X.limits, X.bytes, X.same.trans (hsame.setVm s.vm)⟩,
      ⟨g, mk, s₂, L, E, ce, rfl, rfl, hx, hce, hcv, hcl, rfl, hL, rfl, rfl⟩, ?_⟩
    show Steps p.tables e below _ (((({ U with heap := s₂.heap, slotsUsed := s₂.slotsUsed } : State).setVm s₂.vm).setTop g).pushFrame (.throwing q))
    rw [← hs₂]
    exact hsteps
end
variable {p : Program} {l : Launch} {e : Env} {R : Room} {s : State} {m : MethodId} {args : Array Value} {below : List Frame} {meth : Method} {c : Code} {T : State} {H : Heap} {locs : List Loc} {cells slots : Nat}
theorem vx_callVX (X : Stand p l e R s m args below meth c T locs cells slots) (hexec : p.tables.exec = Jvm.exec) {own C : String} {index : Nat} {y : MethodName} {bytes : ByteArray} {maxL : Nat} {ret : Option FieldType} {hh : List (Nat × Nat × Nat × Nat)}
    (hown : s.vm.findClass own = some m.cls) (hlink : (Cond.methodLink own index y).before args s = true) (hinst : (Cond.instanceMethod y).before args s = true) (hsel : (Cond.selects C y y).before args s = true)
    (hcode : (Cond.codeWith y bytes maxL ret hh).before args s = true) (hy : y.cls ≠ "java/lang/invoke/MethodHandle" ∧ y.cls ≠ "java/lang/invoke/VarHandle")
    {W9 : Nat} {Pre : Pt → Array Value → Prop} {Post : Pt → Array Value → Option Value → Pt → Prop} {PostX : Pt → Array Value → Addr → Pt → Prop} (hK : vx_Back l R p e below s args y 3 W9 Pre Post PostX)
    {b : Addr} {cellB : Cell} (hcell : T.heap[b]? = some cellB) (hobj : cellB.vm.isStatics = false) (hcls : s.vm.findClass C = some cellB.cls)
    {g : JFrame} (hg : g.method = m) (hsize : g.locals.size = c.maxLocals) {argsL rest : List Value} (hlen : ∀ sig, parseMethodDescriptor y.desc = some sig → argsL.length = sig.parameters.length)
    (hstack : g.stack = argsL.reverse ++ .ref b :: rest) (hW : 2 * g.monitorRoom + (rest.map fun v => v.category).sum ≤ W9) (hdg : decode c.code g.pc = .ok (.invokevirtual index, 3))
    (hpre : ∀ vm₁, s.WarmedH vm₁ → Pre ⟨T.setVm vm₁, locs, cells, slots⟩ (Value.ref b :: argsL).toArray) :
    (∃ (v : Option Value) (vm₁ : Vm) (B : Pt), s.WarmedH vm₁ ∧ Stand p l e R s m args below meth c B.U B.locs B.cells B.slots ∧ Post ⟨T.setVm vm₁, locs, cells, slots⟩ (Value.ref b :: argsL).toArray v B ∧
      ∀ target, Steps p.tables e below (B.U.setTop { g with pc := g.pc + 3, stack := v.toList ++ rest }) target → Steps p.tables e below (T.setTop g) target) ∨
    (∃ (q : Addr) (vm₁ : Vm) (B : Pt), s.WarmedH vm₁ ∧ Stand p l e R s m args below meth c B.U B.locs B.cells B.slots ∧ PostX ⟨T.setVm vm₁, locs, cells, slots⟩ (Value.ref b :: argsL).toArray q B ∧
      Steps p.tables e below (T.setTop g) ((B.U.setTop { g with stack := rest }).pushFrame (.throwing q))) := by
  obtain ⟨mk, methM, hnamed, hmethM, hstM, habM⟩ := Cond.instanceMethod_spec hinst
  obtain ⟨m8, methM', cM, hn8, hmethM', -, -, -, -, -, -, hsigM⟩ := Cond.codeWith_spec hcode
  cases Option.some.inj (hn8.symm.trans hnamed)
  cases hmethM.symm.trans hmethM'
  obtain ⟨c2, r2, m2, q1, q2, q3, q4, kP, hkP, hkPi⟩ := Cond.selects_spec hsel
  cases hcls.symm.trans q1
  cases (State.methodFound?_of_named hnamed hy).symm.trans q2
  cases hnamed.symm.trans q3
  have hselP : selectMethod e.platform s.vm cellB.cls mk = .method mk := by rw [Launch.admits_selectMethod X.admits]; exact q4
  obtain ⟨vm₁, X₁, hstep₁⟩ := X.invokevirtual hexec hown hlink hnamed hmethM hstM hkP hkPi hy (a := b) (cell := cellB) hcell
    (fun z h => by rw [h] at hobj; cases hobj) hselP hmethM habM hkP hkPi (g := g) hg (argsL := argsL) (rest := rest) (hlen _ hsigM) hstack hdg
  rcases hK m meth c ⟨T.setVm vm₁, locs, cells, slots⟩ { g with stack := rest } (.invokevirtual index) mk (Value.ref b :: argsL).toArray X₁ hg hsize hdg hW (X₁.named hnamed) (hpre vm₁ X₁.warmed) with ⟨v, B, X', hpost, hsteps⟩ | ⟨q, B, X', hpost, hsteps⟩
  · exact Or.inl ⟨v, vm₁, B, X₁.warmed, X', hpost, fun target h => hstep₁ _ fun acts => by rw [doInvoke_state]; exact hsteps.trans h⟩
  · exact Or.inr ⟨q, vm₁, B, X₁.warmed, X', hpost, hstep₁ _ fun acts => by rw [doInvoke_state]; exact hsteps⟩
theorem vx_callSX (X : Stand p l e R s m args below meth c T locs cells slots) (hexec : p.tables.exec = Jvm.exec) {own : String} {index : Nat} {y : MethodName} {bytes : ByteArray} {maxL : Nat} {ret : Option FieldType} {hh : List (Nat × Nat × Nat × Nat)}
    (hown : s.vm.findClass own = some m.cls) (hlink : (Cond.methodLink own index y).before args s = true) (hstat : (Cond.static y).before args s = true) (hinit : (Cond.initialized y.cls).before args s = true)
    (hcode : (Cond.codeWith y bytes maxL ret hh).before args s = true) (hy : y.cls ≠ "java/lang/invoke/MethodHandle" ∧ y.cls ≠ "java/lang/invoke/VarHandle")
    {W9 : Nat} {Pre : Pt → Array Value → Prop} {Post : Pt → Array Value → Option Value → Pt → Prop} {PostX : Pt → Array Value → Addr → Pt → Prop} (hK : vx_Back l R p e below s args y 3 W9 Pre Post PostX)
    {g : JFrame} (hg : g.method = m) (hsize : g.locals.size = c.maxLocals) {argsL rest : List Value} (hlen : ∀ sig, parseMethodDescriptor y.desc = some sig → argsL.length = sig.parameters.length)
    (hstack : g.stack = argsL.reverse ++ rest) (hW : 2 * g.monitorRoom + (rest.map fun v => v.category).sum ≤ W9) (hdg : decode c.code g.pc = .ok (.invokestatic index, 3))
    (hpre : ∀ vm₁, s.WarmedH vm₁ → Pre ⟨T.setVm vm₁, locs, cells, slots⟩ argsL.toArray) :
    (∃ (v : Option Value) (vm₁ : Vm) (B : Pt), s.WarmedH vm₁ ∧ Stand p l e R s m args below meth c B.U B.locs B.cells B.slots ∧ Post ⟨T.setVm vm₁, locs, cells, slots⟩ argsL.toArray v B ∧
      ∀ target, Steps p.tables e below (B.U.setTop { g with pc := g.pc + 3, stack := v.toList ++ rest }) target → Steps p.tables e below (T.setTop g) target) ∨
    (∃ (q : Addr) (vm₁ : Vm) (B : Pt), s.WarmedH vm₁ ∧ Stand p l e R s m args below meth c B.U B.locs B.cells B.slots ∧ PostX ⟨T.setVm vm₁, locs, cells, slots⟩ argsL.toArray q B ∧
      Steps p.tables e below (T.setTop g) ((B.U.setTop { g with stack := rest }).pushFrame (.throwing q))) := by
  obtain ⟨mk, methM, cM, hnamed, hmethM, -, -, -, -, -, -, hsigM⟩ := Cond.codeWith_spec hcode
  have hstatic : methM.isStatic = true := Cond.static_spec hnamed hmethM hstat
  obtain ⟨kP, hkP, -⟩ := className_of_methodNamed hnamed
  have hinitP : kP.init = .initialized := Cond.initialized_spec (findClass_of_methodNamed hnamed) hkP hinit
  obtain ⟨vm₁, X₁, hstep₁⟩ := X.invokestatic hexec hown hlink hnamed hmethM hstatic hkP hinitP hy (g := g) hg (argsL := argsL) (rest := rest) (hlen _ hsigM) hstack hdg
  rcases hK m meth c ⟨T.setVm vm₁, locs, cells, slots⟩ { g with stack := rest } (.invokestatic index) mk argsL.toArray X₁ hg hsize hdg hW (X₁.named hnamed) (hpre vm₁ X₁.warmed) with ⟨v, B, X', hpost, hsteps⟩ | ⟨q, B, X', hpost, hsteps⟩
  · exact Or.inl ⟨v, vm₁, B, X₁.warmed, X', hpost, fun target h => hstep₁ _ fun acts => by rw [doInvoke_state]; exact hsteps.trans h⟩
  · exact Or.inr ⟨q, vm₁, B, X₁.warmed, X', hpost, hstep₁ _ fun acts => by rw [doInvoke_state]; exact hsteps⟩
theorem vx_callVW (X : Stand p l e R s m args below meth c T locs cells slots) (hexec : p.tables.exec = Jvm.exec) {own C : String} {index : Nat} {y : MethodName} {bytes : ByteArray} {maxL : Nat} {ret : Option FieldType} {hh : List (Nat × Nat × Nat × Nat)}
    (hown : s.vm.findClass own = some m.cls) (hlink : (Cond.methodLink own index y).before args s = true) (hinst : (Cond.instanceMethod y).before args s = true) (hsel : (Cond.selects C y y).before args s = true)
    (hcode : (Cond.codeWith y bytes maxL ret hh).before args s = true) (hy : y.cls ≠ "java/lang/invoke/MethodHandle" ∧ y.cls ≠ "java/lang/invoke/VarHandle")
    {W9 : Nat} {Pre : Pt → Array Value → Prop} {Post : Pt → Array Value → Option Value → Pt → Prop} (hK : Back l R p e below s args y 3 W9 Pre Post)
    {b : Addr} {cellB : Cell} (hcell : T.heap[b]? = some cellB) (hobj : cellB.vm.isStatics = false) (hcls : s.vm.findClass C = some cellB.cls)
    {g : JFrame} (hg : g.method = m) (hsize : g.locals.size = c.maxLocals) {argsL rest : List Value} (hlen : ∀ sig, parseMethodDescriptor y.desc = some sig → argsL.length = sig.parameters.length)
    (hstack : g.stack = argsL.reverse ++ .ref b :: rest) (hW : 2 * g.monitorRoom + (rest.map fun v => v.category).sum ≤ W9) (hdg : decode c.code g.pc = .ok (.invokevirtual index, 3))
    (hpre : ∀ vm₁, s.WarmedH vm₁ → Pre ⟨T.setVm vm₁, locs, cells, slots⟩ (Value.ref b :: argsL).toArray) :
    ∃ (v : Option Value) (vm₁ : Vm) (B : Pt), s.WarmedH vm₁ ∧ Stand p l e R s m args below meth c B.U B.locs B.cells B.slots ∧ Post ⟨T.setVm vm₁, locs, cells, slots⟩ (Value.ref b :: argsL).toArray v B ∧
      ∀ target, Steps p.tables e below (B.U.setTop { g with pc := g.pc + 3, stack := v.toList ++ rest }) target → Steps p.tables e below (T.setTop g) target := by
  obtain ⟨mk, methM, hnamed, hmethM, hstM, habM⟩ := Cond.instanceMethod_spec hinst
  obtain ⟨m8, methM', cM, hn8, hmethM', -, -, -, -, -, -, hsigM⟩ := Cond.codeWith_spec hcode
  cases Option.some.inj (hn8.symm.trans hnamed)
  cases hmethM.symm.trans hmethM'
  obtain ⟨c2, r2, m2, q1, q2, q3, q4, kP, hkP, hkPi⟩ := Cond.selects_spec hsel
  cases hcls.symm.trans q1
  cases (State.methodFound?_of_named hnamed hy).symm.trans q2
  cases hnamed.symm.trans q3
  have hselP : selectMethod e.platform s.vm cellB.cls mk = .method mk := by rw [Launch.admits_selectMethod X.admits]; exact q4
  obtain ⟨vm₁, X₁, hstep₁⟩ := X.invokevirtual hexec hown hlink hnamed hmethM hstM hkP hkPi hy (a := b) (cell := cellB) hcell
    (fun z h => by rw [h] at hobj; cases hobj) hselP hmethM habM hkP hkPi (g := g) hg (argsL := argsL) (rest := rest) (hlen _ hsigM) hstack hdg
  obtain ⟨v, B, X', hpost, hsteps⟩ := hK m meth c ⟨T.setVm vm₁, locs, cells, slots⟩ { g with stack := rest } (.invokevirtual index) mk (Value.ref b :: argsL).toArray X₁ hg hsize hdg hW (X₁.named hnamed) (hpre vm₁ X₁.warmed)
  exact ⟨v, vm₁, B, X₁.warmed, X', hpost, fun target h => hstep₁ _ fun acts => by rw [doInvoke_state]; exact hsteps.trans h⟩
abbrev vx_CVW (R : Room) (s : State) (args : Array Value) (own C : String) (index : Nat) (y : MethodName) (bytes : ByteArray) (maxL : Nat) (ret : Option FieldType) (hh : List (Nat × Nat × Nat × Nat)) (ws : List Cond) (rm : Room) (mc ms n : Nat) : Prop :=
  (rm.cells = mc ∧ rm.slots = ms ∧ rm.frames + 1 ≤ R.frames ∧ 8 + (maxL + 11) + rm.locals ≤ R.locals ∧ (∀ w ∈ ws, ∀ (a' : Array Value) (U : State), s.WarmedH U.vm → w.before a' U = true) ∧ Cond.codeWith y bytes maxL ret hh ∈ ws) ∧
  (Cond.codeWith y bytes maxL ret hh).before args s = true ∧ (Cond.initialized y.cls).before args s = true ∧ (y.cls ≠ "java/lang/invoke/MethodHandle" ∧ y.cls ≠ "java/lang/invoke/VarHandle") ∧
  (∀ sig, parseMethodDescriptor y.desc = some sig → n = sig.parameters.length) ∧ (Cond.methodLink own index y).before args s = true ∧ (Cond.instanceMethod y).before args s = true ∧ (Cond.selects C y y).before args s = true
theorem vx_cwVW {own C : String} {index maxL mc ms : Nat} {y : MethodName} {bytes : ByteArray} {ret : Option FieldType} {hh : List (Nat × Nat × Nat × Nat)} {Ts ws ws' : List Cond} {rm : Room} (n : Nat) (ht : ∀ w ∈ Ts, w.before args s = true) (hT : GoodIn Ts (wsV own index C y ws)) (hw : ws = Cond.codeWith y bytes maxL ret hh :: ws') (hrc : rm.cells = mc) (hrs : rm.slots = ms)
    (hd : y.cls = C ∧ y.cls ≠ "java/lang/invoke/MethodHandle" ∧ y.cls ≠ "java/lang/invoke/VarHandle" ∧ (parseMethodDescriptor y.desc).map (fun d => d.parameters.length) = some n) (hR : rm.frames + 1 ≤ R.frames ∧ 8 + (maxL + 11) + rm.locals ≤ R.locals) :
    vx_CVW R s args own C index y bytes maxL ret hh ws rm mc ms n := by
  obtain ⟨hC, hd⟩ := hd
  subst hC
  have ok : ∀ w ∈ wsV own index y.cls y ws, w.before args s = true := fun w h => ht w (hT w h).1
  have hG : GoodIn Ts ws := fun w h => hT w (by unfold wsV; exact List.mem_append_right _ h)
  have hc : Cond.codeWith y bytes maxL ret hh ∈ ws := by rw [hw]; exact List.mem_cons_self
  refine ⟨⟨hrc, hrs, hR.1, hR.2, pay_in ht hG, hc⟩, ht _ (hG _ hc).1, ok _ (by simp [wsV]), ⟨hd.1, hd.2.1⟩, fun sig h => ?_, ok _ (by simp [wsV]), ok _ (by simp [wsV]), ok _ (by simp [wsV])⟩
  have h2 := hd.2.2
  rw [h] at h2
  exact (Option.some.inj h2).symm
theorem vx_runVW {y : MethodName} {bytes cc : ByteArray} {maxL nL mc ms n index : Nat} {ret : Option FieldType} {hh : List (Nat × Nat × Nat × Nat)} {ws : List Cond} {rm : Room} {Pc : Array Value → State → Prop} {Qc : Array Value → State → Outcome → State → Prop} {free : Addr → Prop} {Ts : List Cond} {own C : String} {b : Addr} {As rest : List Value} {g : JFrame}
    (S : CallFix p m c cc nL s args Ts own) (hM : Met l y ws rm Pc Qc mc ms free) (cw : vx_CVW R s args own C index y bytes maxL ret hh ws rm mc ms n) (hp : PreV s H C b Pc As)
    (hg : g.method = m) (hn : As.length = n) (hsize : g.locals.size = nL) (hstack : g.stack = As.reverse ++ .ref b :: rest) (hW : 2 * g.monitorRoom + (rest.map fun v => v.category).sum ≤ 8) (hdg : decode cc g.pc = .ok (.invokevirtual index, 3)) (hf : cells + mc ≤ R.cells ∧ slots + ms ≤ R.slots) :
    va_Run p l e R s m args below meth c H locs cells slots mc ms g rest (Qc (Value.ref b :: As).toArray) free := by
  obtain ⟨⟨hrc, hrs, hfr, hlo, hws, hcw⟩, hcode, hini, hy, hlen, hl, hin, hse⟩ := cw
  have hK : Back l R p e below s args y 3 8 (PreOf R mc ms Pc) (PostOf Qc mc ms free) := va_backW (hh := hh) (bytes := bytes) (maxL := maxL) (ret := ret) hM hp.1 hrc hrs hfr hlo hws hcw (fun a' U hW => word_at hW (Or.inl (by first | rfl | simp [Cond.onTables, Cond.keeps, Cond.steady])) hini)
  obtain ⟨hx, hb, hml, ho, -⟩ := S
  obtain ⟨-, ⟨cellB, hcB, hoB, hclB⟩, hPc⟩ := hp
  intro T hT X
  obtain ⟨v, vm₁, ⟨U', l2, c2, s2⟩, hW₁, X', ⟨g', mk, t, L, e1, e2, hq, h1, hL, h2, h3⟩, st⟩ := vx_callVW X hx (C := C) (hh := hh) (bytes := bytes) (maxL := maxL) (ret := ret) ho hl hin hse hcode hy hK (by rw [hT]; exact hcB) hoB hclB hg (hsize.trans hml.symm) (argsL := As) (rest := rest) (fun sig h => hn.trans (hlen sig h)) hstack hW (by rw [hb]; exact hdg)
    (fun vm₁ hW₁ => ⟨hf.1, hf.2, hPc (T.setVm vm₁) hT hW₁⟩)
  dsimp only [Pt.U, Pt.locs, Pt.cells, Pt.slots] at X' e1 e2 h1 h2 h3 st
  subst h1; subst h2; subst h3
  exact ⟨v, (T.setVm vm₁).calling g' mk (Value.ref b :: As).toArray, t, U', L, hT, X', hL, e1, e2, hq, st⟩
section
variable {y : MethodName} {bytes cc : ByteArray} {maxL nL mc ms n index : Nat} {ret : Option FieldType} {ws : List Cond} {rm : Room} {Pc : Array Value → State → Prop} {Qc : Array Value → State → Outcome → State → Prop} {XC : String → State → State → Prop} {free : Addr → Prop} {Ts : List Cond} {own C : String} {b : Addr} {As rest : List Value} {g : JFrame}
theorem vx_runVX {hh : List (Nat × Nat × Nat × Nat)} (S : CallFix p m c cc nL s args Ts own) (hM : vx_Met l y ws rm Pc Qc XC mc ms free) (cw : vx_CVW R s args own C index y bytes maxL ret hh ws rm mc ms n) (hp : PreV s H C b Pc As)
    (hg : g.method = m) (hn : As.length = n) (hsize : g.locals.size = nL) (hstack : g.stack = As.reverse ++ .ref b :: rest) (hW : 2 * g.monitorRoom + (rest.map fun v => v.category).sum ≤ 8) (hdg : decode cc g.pc = .ok (.invokevirtual index, 3)) (hf : cells + mc ≤ R.cells ∧ slots + ms ≤ R.slots) :
    vx_Run p l e R s m args below meth c H locs cells slots mc ms g rest (Qc (Value.ref b :: As).toArray) XC free := by
  obtain ⟨⟨hrc, hrs, hfr, hlo, hws, hcw⟩, hcode, hini, hy, hlen, hl, hin, hse⟩ := cw
  have hK : vx_Back l R p e below s args y 3 8 (PreOf R mc ms Pc) (PostOf Qc mc ms free) (vx_Post XC mc ms free) := vx_backW (hh := hh) (bytes := bytes) (maxL := maxL) (ret := ret) hM hp.1 hrc hrs hfr hlo hws hcw (fun a' U hW => word_at hW (Or.inl (by first | rfl | simp [Cond.onTables, Cond.keeps, Cond.steady])) hini)
  obtain ⟨hx, hb, hml, ho, -⟩ := S
  obtain ⟨-, ⟨cellB, hcB, hoB, hclB⟩, hPc⟩ := hp
  intro T hT X
  rcases vx_callVX X hx (C := C) (hh := hh) (bytes := bytes) (maxL := maxL) (ret := ret) ho hl hin hse hcode hy hK (by rw [hT]; exact hcB) hoB hclB hg (hsize.trans hml.symm) (argsL := As) (rest := rest) (fun sig h => hn.trans (hlen sig h)) hstack hW (by rw [hb]; exact hdg)
    (fun vm₁ hW₁ => ⟨hf.1, hf.2, hPc (T.setVm vm₁) hT hW₁⟩) with ⟨v, vm₁, ⟨U', l2, c2, s2⟩, hW₁, X', ⟨g', mk, t, L, e1, e2, hq, h1, hL, h2, h3⟩, st⟩ | ⟨q, vm₁, ⟨U', l2, c2, s2⟩, hW₁, X', ⟨g', mk, t, L, E, ce, e1, e2, hq, hce, hcv, hcl, h1, hL, h2, h3⟩, st⟩
  · dsimp only [Pt.U, Pt.locs, Pt.cells, Pt.slots] at X' e1 e2 h1 h2 h3 st
    subst h1; subst h2; subst h3
    exact Or.inl ⟨v, (T.setVm vm₁).calling g' mk (Value.ref b :: As).toArray, t, U', L, hT, X', hL, e1, e2, hq, st⟩
  · dsimp only [Pt.U, Pt.locs, Pt.cells, Pt.slots] at X' e1 e2 h1 h2 h3 st hcl
    subst h1; subst h2; subst h3
    exact Or.inr ⟨q, (T.setVm vm₁).calling g' mk (Value.ref b :: As).toArray, t, U', L, E, ce, hT, X', hL, e1, e2, hq, hce, hcv, vx_cls hW₁ hcl, st⟩
theorem vx_runSX {hh : List (Nat × Nat × Nat × Nat)} (S : CallFix p m c cc nL s args Ts own) (hM : vx_Met l y ws rm Pc Qc XC mc ms free) (cw : vx_CSW R s args own index y bytes maxL ret hh ws rm mc ms n) (hp : PreS s H Pc As)
    (hg : g.method = m) (hn : As.length = n) (hsize : g.locals.size = nL) (hstack : g.stack = As.reverse ++ rest) (hW : 2 * g.monitorRoom + (rest.map fun v => v.category).sum ≤ 8) (hdg : decode cc g.pc = .ok (.invokestatic index, 3)) (hf : cells + mc ≤ R.cells ∧ slots + ms ≤ R.slots) :
    vx_Run p l e R s m args below meth c H locs cells slots mc ms g rest (Qc As.toArray) XC free := by
  obtain ⟨⟨hrc, hrs, hfr, hlo, hws, hcw⟩, hcode, hini, hy, hlen, hl, hstt⟩ := cw
  have hK : vx_Back l R p e below s args y 3 8 (PreOf R mc ms Pc) (PostOf Qc mc ms free) (vx_Post XC mc ms free) := vx_backW (hh := hh) (bytes := bytes) (maxL := maxL) (ret := ret) hM hp.1 hrc hrs hfr hlo hws hcw (fun a' U hW => word_at hW (Or.inl (by first | rfl | simp [Cond.onTables, Cond.keeps, Cond.steady])) hini)
  obtain ⟨hx, hb, hml, ho, -⟩ := S
  intro T hT X
  rcases vx_callSX X hx (hh := hh) (bytes := bytes) (maxL := maxL) (ret := ret) ho hl hstt hini hcode hy hK hg (hsize.trans hml.symm) (argsL := As) (rest := rest) (fun sig h => hn.trans (hlen sig h)) hstack hW (by rw [hb]; exact hdg)
    (fun vm₁ hW₁ => ⟨hf.1, hf.2, hp.2 (T.setVm vm₁) hT hW₁⟩) with ⟨v, vm₁, ⟨U', l2, c2, s2⟩, hW₁, X', ⟨g', mk, t, L, e1, e2, hq, h1, hL, h2, h3⟩, st⟩ | ⟨q, vm₁, ⟨U', l2, c2, s2⟩, hW₁, X', ⟨g', mk, t, L, E, ce, e1, e2, hq, hce, hcv, hcl, h1, hL, h2, h3⟩, st⟩
  · dsimp only [Pt.U, Pt.locs, Pt.cells, Pt.slots] at X' e1 e2 h1 h2 h3 st
    subst h1; subst h2; subst h3
    exact Or.inl ⟨v, (T.setVm vm₁).calling g' mk As.toArray, t, U', L, hT, X', hL, e1, e2, hq, st⟩
  · dsimp only [Pt.U, Pt.locs, Pt.cells, Pt.slots] at X' e1 e2 h1 h2 h3 st hcl
    subst h1; subst h2; subst h3
    exact Or.inr ⟨q, (T.setVm vm₁).calling g' mk As.toArray, t, U', L, E, ce, hT, X', hL, e1, e2, hq, hce, hcv, vx_cls hW₁ hcl, st⟩
end
end VXH
theorem vx_ofWH {l : Launch} {y : MethodName} {ws ws' : List Cond} {rm : Room} {Pc : Array Value → State → Prop} {Qc : Array Value → State → Outcome → State → Prop} {XC : String → State → State → Prop} {mc ms : Nat} {free : Addr → Prop} {cc : ByteArray} {maxL : Nat} {ret : Option FieldType} {hh : List (Nat × Nat × Nat × Nat)}
    (hy : plainName y.cls = true) (hw : ws = Cond.codeWith y cc maxL ret hh :: ws')
    (body : ∀ p e s m args below meth c s₁, BodyLoose p l y (headSpec ws rm) cc maxL ret e s m args below meth c s₁ → c.maxLocals = maxL → Pc args s →
      W p l e (headSpec ws rm).room s m args below meth c s.heap [] 0 0 (vx_MQ below Qc XC args s mc ms free) (entryFrame m args maxL)) : vx_Met l y ws rm Pc Qc XC mc ms free := by
  refine MetFree.of_bodyS (code := cc) (maxLocals := maxL) (ret := ret) hy ?_ ?_
  · intro args s m h hn
    obtain ⟨m9, meth, c, hn9, h1, h2, h3, h4, -, h5, h6, -⟩ := Cond.codeWith_spec (atoms_spec (ws := ws) h _ (by rw [hw]; exact List.mem_cons_self))
    cases hn.symm.trans hn9
    exact ⟨meth, c, h1, h2, h3, h4, h5, h6⟩
  · intro p e s m args below meth c s₁ B hml hP _
    have hh0 : s₁.heap = s.heap := by rw [B.state]; rfl
    obtain ⟨t, a1, o, b1, b2, b3⟩ := body p e s m args below meth c s₁ B hml hP s₁ hh0 (Stand.of_body B)
    exact ⟨t, o, a1, b1, b2, b3⟩
/-! ===== END ===== -/

/-! ===== BEGIN a constructor that throws (launches without stack traces) ===== -/
section VXIA
variable {p : Program} {l : Launch} {e : Env} {R : Room} {s : State} {m : MethodId} {args : Array Value} {below : List Frame} {meth : Method} {c : Code} {T : State} {locs : List Loc} {cells slots : Nat}
theorem vx_callI (X : Stand p l e R s m args below meth c T locs cells slots) (hexec : p.tables.exec = Jvm.exec) {own : String} {index : Nat} {y : MethodName} {bytes : ByteArray} {maxL : Nat}
    (hown : s.vm.findClass own = some m.cls) (hy1 : y.name = "<init>") (hlink : (Cond.methodLink own index y).before args s = true) (hinst : (Cond.instanceMethod y).before args s = true)
    (hcode : (Cond.code y bytes maxL none).before args s = true) (hy : y.cls ≠ "java/lang/invoke/MethodHandle" ∧ y.cls ≠ "java/lang/invoke/VarHandle")
    {W9 : Nat} {Pre : Pt → Array Value → Prop} {Post : Pt → Array Value → Option Value → Pt → Prop} {PostX : Pt → Array Value → Addr → Pt → Prop} (hK : vx_Back l R p e below s args y 3 W9 Pre Post PostX)
    {g : JFrame} (hg : g.method = m) (hsize : g.locals.size = c.maxLocals) {a : Addr} {argsL rest : List Value} (hlen : ∀ sig, parseMethodDescriptor y.desc = some sig → argsL.length = sig.parameters.length)
    (hstack : g.stack = argsL.reverse ++ .ref a :: rest) (hW : 2 * g.monitorRoom + (rest.map fun v => v.category).sum ≤ W9) (hdg : decode c.code g.pc = .ok (.invokespecial index, 3))
    (hpre : ∀ vm₁, s.WarmedH vm₁ → Pre ⟨T.setVm vm₁, locs, cells, slots⟩ (Value.ref a :: argsL).toArray) :
    (∃ (v : Option Value) (vm₁ : Vm) (B : Pt), s.WarmedH vm₁ ∧ Stand p l e R s m args below meth c B.U B.locs B.cells B.slots ∧ Post ⟨T.setVm vm₁, locs, cells, slots⟩ (Value.ref a :: argsL).toArray v B ∧
      ∀ target, Steps p.tables e below (B.U.setTop { g with pc := g.pc + 3, stack := v.toList ++ rest }) target → Steps p.tables e below (T.setTop g) target) ∨
    (∃ (q : Addr) (vm₁ : Vm) (B : Pt), s.WarmedH vm₁ ∧ Stand p l e R s m args below meth c B.U B.locs B.cells B.slots ∧ PostX ⟨T.setVm vm₁, locs, cells, slots⟩ (Value.ref a :: argsL).toArray q B ∧
      Steps p.tables e below (T.setTop g) ((B.U.setTop { g with stack := rest }).pushFrame (.throwing q))) := by
  subst hg
  have hpl : e.platform.magicAccessors = ({} : Platform).magicAccessors := by rw [X.admits.platform]
  obtain ⟨mk, methM, cM, kP, vm₁, hnamed, hmethM, hcodeM, -, hlocalsM, -, hkP, -, hW₁, hstep₁⟩ := Steps.initColdArgs (e := e) X.here hexec X.warmed hpl hown hy1 hy hlink hinst hcode (f := g) rfl hlen hstack hdg
  have X₁ := X.noted hW₁
  rcases hK g.method meth c ⟨T.setVm vm₁, locs, cells, slots⟩ { g with stack := rest } (.invokespecial index) mk (Value.ref a :: argsL).toArray X₁ rfl hsize hdg hW (X₁.named hnamed) (hpre vm₁ X₁.warmed) with ⟨v, B, X', hpost, hsteps⟩ | ⟨q, B, X', hpost, hsteps⟩
  · exact Or.inl ⟨v, vm₁, B, X₁.warmed, X', hpost, fun target h => hstep₁ _ fun acts => by rw [doInvoke_state]; exact hsteps.trans h⟩
  · exact Or.inr ⟨q, vm₁, B, X₁.warmed, X', hpost, hstep₁ _ fun acts => by rw [doInvoke_state]; exact hsteps⟩
end VXIA
section VXIB
variable {p : Program} {l : Launch} {e : Env} {R : Room} {s : State} {m : MethodId} {args : Array Value} {below : List Frame} {meth : Method} {c : Code} {H : Heap} {locs : List Loc} {cells slots : Nat}
variable {y : MethodName} {bytes cc : ByteArray} {maxL nL mc ms n index : Nat} {ret : Option FieldType} {ws : List Cond} {rm : Room} {Pc : Array Value → State → Prop} {Qc : Array Value → State → Outcome → State → Prop} {XC : String → State → State → Prop} {free : Addr → Prop} {Ts : List Cond} {own C : String} {b : Addr} {As rest : List Value} {g : JFrame}
theorem vx_runI (S : CallFix p m c cc nL s args Ts own) (hM : vx_Met l y ws rm Pc Qc XC mc ms free) (cw : CallB R s args own index y bytes maxL none ws rm mc ms n ∧ y.name = "<init>" ∧ (Cond.instanceMethod y).before args s = true) (hp : PreS s H Pc (.ref b :: As))
    (hg : g.method = m) (hn : As.length = n) (hsize : g.locals.size = nL) (hstack : g.stack = As.reverse ++ .ref b :: rest) (hW : 2 * g.monitorRoom + (rest.map fun v => v.category).sum ≤ 8) (hdg : decode cc g.pc = .ok (.invokespecial index, 3)) (hf : cells + mc ≤ R.cells ∧ slots + ms ≤ R.slots) :
    vx_Run p l e R s m args below meth c H locs cells slots mc ms g rest (Qc (Value.ref b :: As).toArray) XC free := by
  have hK : vx_Back l R p e below s args y 3 8 (PreOf R mc ms Pc) (PostOf Qc mc ms free) (vx_Post XC mc ms free) := vx_callBack cw.1 hM hp.1
  obtain ⟨⟨-, -, -, -, -, -, hcode, -, hy, hlen, hl⟩, hy1, hin⟩ := cw
  obtain ⟨hx, hb, hml, ho, -⟩ := S
  have hPc := hp.2
  intro T hT X
  rcases vx_callI X hx (bytes := bytes) (maxL := maxL) ho hy1 hl hin hcode hy hK hg (hsize.trans hml.symm) (a := b) (argsL := As) (rest := rest) (fun sig h => hn.trans (hlen sig h)) hstack hW (by rw [hb]; exact hdg)
    (fun vm₁ hW₁ => ⟨hf.1, hf.2, hPc (T.setVm vm₁) hT hW₁⟩) with ⟨v, vm₁, ⟨U', l2, c2, s2⟩, hW₁, X', ⟨g', mk, t, L, e1, e2, hq, h1, hL, h2, h3⟩, st⟩ | ⟨q, vm₁, ⟨U', l2, c2, s2⟩, hW₁, X', ⟨g', mk, t, L, E, ce, e1, e2, hq, hce, hcv, hcl, h1, hL, h2, h3⟩, st⟩
  · dsimp only [Pt.U, Pt.locs, Pt.cells, Pt.slots] at X' e1 e2 h1 h2 h3 st
    subst h1; subst h2; subst h3
    exact Or.inl ⟨v, (T.setVm vm₁).calling g' mk (Value.ref b :: As).toArray, t, U', L, hT, X', hL, e1, e2, hq, st⟩
  · dsimp only [Pt.U, Pt.locs, Pt.cells, Pt.slots] at X' e1 e2 h1 h2 h3 st hcl
    subst h1; subst h2; subst h3
    exact Or.inr ⟨q, (T.setVm vm₁).calling g' mk (Value.ref b :: As).toArray, t, U', L, E, ce, hT, X', hL, e1, e2, hq, hce, hcv, vx_cls hW₁ hcl, st⟩
end VXIB
/-! ===== END ===== -/
/-! ===== BEGIN a private constructor of a nest mate that throws ===== -/
section VXIC
variable {p : Program} {l : Launch} {e : Env} {R : Room} {s : State} {m : MethodId} {args : Array Value} {below : List Frame} {meth : Method} {c : Code} {T : State} {locs : List Loc} {cells slots : Nat}
theorem vx_callIN (X : Stand p l e R s m args below meth c T locs cells slots) (hexec : p.tables.exec = Jvm.exec) {own : String} {index : Nat} {host : String} {y : MethodName} {bytes : ByteArray} {maxL : Nat}
    (hown : s.vm.findClass own = some m.cls) (hy1 : y.name = "<init>") (hlink : (Cond.methodLinkNest own index y host).before args s = true) (hinst : (Cond.instanceMethod y).before args s = true)
    (hcode : (Cond.code y bytes maxL none).before args s = true) (hy : y.cls ≠ "java/lang/invoke/MethodHandle" ∧ y.cls ≠ "java/lang/invoke/VarHandle")
    {W9 : Nat} {Pre : Pt → Array Value → Prop} {Post : Pt → Array Value → Option Value → Pt → Prop} {PostX : Pt → Array Value → Addr → Pt → Prop} (hK : vx_Back l R p e below s args y 3 W9 Pre Post PostX)
    {g : JFrame} (hg : g.method = m) (hsize : g.locals.size = c.maxLocals) {a : Addr} {argsL rest : List Value} (hlen : ∀ sig, parseMethodDescriptor y.desc = some sig → argsL.length = sig.parameters.length)
    (hstack : g.stack = argsL.reverse ++ .ref a :: rest) (hW : 2 * g.monitorRoom + (rest.map fun v => v.category).sum ≤ W9) (hdg : decode c.code g.pc = .ok (.invokespecial index, 3))
    (hpre : ∀ vm₁, s.WarmedH vm₁ → Pre ⟨T.setVm vm₁, locs, cells, slots⟩ (Value.ref a :: argsL).toArray) :
    (∃ (v : Option Value) (vm₁ : Vm) (B : Pt), s.WarmedH vm₁ ∧ Stand p l e R s m args below meth c B.U B.locs B.cells B.slots ∧ Post ⟨T.setVm vm₁, locs, cells, slots⟩ (Value.ref a :: argsL).toArray v B ∧
      ∀ target, Steps p.tables e below (B.U.setTop { g with pc := g.pc + 3, stack := v.toList ++ rest }) target → Steps p.tables e below (T.setTop g) target) ∨
    (∃ (q : Addr) (vm₁ : Vm) (B : Pt), s.WarmedH vm₁ ∧ Stand p l e R s m args below meth c B.U B.locs B.cells B.slots ∧ PostX ⟨T.setVm vm₁, locs, cells, slots⟩ (Value.ref a :: argsL).toArray q B ∧
      Steps p.tables e below (T.setTop g) ((B.U.setTop { g with stack := rest }).pushFrame (.throwing q))) := by
  subst hg
  have hpl : e.platform.magicAccessors = ({} : Platform).magicAccessors := by rw [X.admits.platform]
  obtain ⟨mk, methM, cM, kP, vm₁, hnamed, hmethM, hcodeM, -, hlocalsM, -, hkP, -, hW₁, hstep₁⟩ := Steps.initColdArgsNest (e := e) X.here hexec X.warmed hpl hown hy1 hy hlink hinst hcode (f := g) rfl hlen hstack hdg
  have X₁ := X.noted hW₁
  rcases hK g.method meth c ⟨T.setVm vm₁, locs, cells, slots⟩ { g with stack := rest } (.invokespecial index) mk (Value.ref a :: argsL).toArray X₁ rfl hsize hdg hW (X₁.named hnamed) (hpre vm₁ X₁.warmed) with ⟨v, B, X', hpost, hsteps⟩ | ⟨q, B, X', hpost, hsteps⟩
  · exact Or.inl ⟨v, vm₁, B, X₁.warmed, X', hpost, fun target h => hstep₁ _ fun acts => by rw [doInvoke_state]; exact hsteps.trans h⟩
  · exact Or.inr ⟨q, vm₁, B, X₁.warmed, X', hpost, hstep₁ _ fun acts => by rw [doInvoke_state]; exact hsteps⟩
end VXIC
section VXID
variable {p : Program} {l : Launch} {e : Env} {R : Room} {s : State} {m : MethodId} {args : Array Value} {below : List Frame} {meth : Method} {c : Code} {H : Heap} {locs : List Loc} {cells slots : Nat}
theorem vx_runIN {y : MethodName} {bytes cc : ByteArray} {maxL nL mc ms n index : Nat} {ws : List Cond} {rm : Room} {Pc : Array Value → State → Prop} {Qc : Array Value → State → Outcome → State → Prop} {XC : String → State → State → Prop} {free : Addr → Prop} {Ts : List Cond} {own host : String} {b : Addr} {As rest : List Value} {g : JFrame}
    (S : CallFix p m c cc nL s args Ts own) (hM : vx_Met l y ws rm Pc Qc XC mc ms free) (cw : va_CN R s args own index y host bytes maxL none ws rm mc ms n ∧ y.name = "<init>" ∧ (Cond.instanceMethod y).before args s = true) (hp : PreS s H Pc (.ref b :: As))
    (hg : g.method = m) (hn : As.length = n) (hsize : g.locals.size = nL) (hstack : g.stack = As.reverse ++ .ref b :: rest) (hW : 2 * g.monitorRoom + (rest.map fun v => v.category).sum ≤ 8) (hdg : decode cc g.pc = .ok (.invokespecial index, 3)) (hf : cells + mc ≤ R.cells ∧ slots + ms ≤ R.slots) :
    vx_Run p l e R s m args below meth c H locs cells slots mc ms g rest (Qc (Value.ref b :: As).toArray) XC free := by
  obtain ⟨⟨⟨hrc, hrs, hfr, hlo, hws, hcw⟩, hcode, hini, hy, hlen, hl⟩, hx1, hx2⟩ := cw
  have hK : vx_Back l R p e below s args y 3 8 (PreOf R mc ms Pc) (PostOf Qc mc ms free) (vx_Post XC mc ms free) := vx_back (bytes := bytes) (maxL := maxL) (ret := none) hM hp.1 hrc hrs hfr hlo hws hcw (fun a' U hW => word_at hW (Or.inl (by first | rfl | simp [Cond.onTables, Cond.keeps, Cond.steady])) hini)
  obtain ⟨hx, hb, hml, ho, -⟩ := S
  have hPc := hp.2
  intro T hT X
  rcases vx_callIN X hx (bytes := bytes) (maxL := maxL) ho hx1 hl hx2 hcode hy hK hg (hsize.trans hml.symm) (a := b) (argsL := As) (rest := rest) (fun sig h => hn.trans (hlen sig h)) hstack hW (by rw [hb]; exact hdg)
    (fun vm₁ hW₁ => ⟨hf.1, hf.2, hPc (T.setVm vm₁) hT hW₁⟩) with ⟨v, vm₁, ⟨U', l2, c2, s2⟩, hW₁, X', ⟨g', mk, t, L, e1, e2, hq, h1, hL, h2, h3⟩, st⟩ | ⟨q, vm₁, ⟨U', l2, c2, s2⟩, hW₁, X', ⟨g', mk, t, L, E, ce, e1, e2, hq, hce, hcv, hcl, h1, hL, h2, h3⟩, st⟩
  · dsimp only [Pt.U, Pt.locs, Pt.cells, Pt.slots] at X' e1 e2 h1 h2 h3 st
    subst h1; subst h2; subst h3
    exact Or.inl ⟨v, (T.setVm vm₁).calling g' mk (Value.ref b :: As).toArray, t, U', L, hT, X', hL, e1, e2, hq, st⟩
  · dsimp only [Pt.U, Pt.locs, Pt.cells, Pt.slots] at X' e1 e2 h1 h2 h3 st hcl
    subst h1; subst h2; subst h3
    exact Or.inr ⟨q, (T.setVm vm₁).calling g' mk (Value.ref b :: As).toArray, t, U', L, E, ce, hT, X', hL, e1, e2, hq, hce, hcv, vx_cls hW₁ hcl, st⟩
end VXID
end
section
-- ===== PART A: goes FIRST, ahead of the names: the tables' words, and 'selects' of the private methods out of them =====
/-- a private method of a class that the tables say can be made, by its rows of tables_1 -/
def lw_okq (q : MethodName × Nat) : Prop := (q.1.cls ≠ "java/lang/invoke/MethodHandle" ∧ q.1.cls ≠ "java/lang/invoke/VarHandle") ∧ Cond.instantiable q.1.cls q.2 ∈ tables_1 ∧ Cond.privateMethod q.1 ∈ tables_1 ∧ Cond.instanceMethod q.1 ∈ tables_1
theorem lw_p0 : lw_okq (⟨"java/lang/Throwable", "fillInStackTrace", "(I)Ljava/lang/Throwable;"⟩, 6) := ⟨⟨by decide +kernel, by decide +kernel⟩, List.mem_of_getElem? (i := 139) (by decide +kernel), List.mem_of_getElem? (i := 137) (by decide +kernel), List.mem_of_getElem? (i := 138) (by decide +kernel)⟩
theorem lw_p1 : lw_okq (⟨"PlantServer", "putInTurn", "(LPlantServer$Subscription;I)V"⟩, 9) := ⟨⟨by decide +kernel, by decide +kernel⟩, List.mem_of_getElem? (i := 17) (by decide +kernel), List.mem_of_getElem? (i := 256) (by decide +kernel), List.mem_of_getElem? (i := 257) (by decide +kernel)⟩
theorem lw_p2 : lw_okq (⟨"PlantServer", "openSubscription", "(I)LPlantServer$Subscription;"⟩, 9) := ⟨⟨by decide +kernel, by decide +kernel⟩, List.mem_of_getElem? (i := 17) (by decide +kernel), List.mem_of_getElem? (i := 275) (by decide +kernel), List.mem_of_getElem? (i := 276) (by decide +kernel)⟩
theorem lw_p3 : lw_okq (⟨"PlantServer$Item", "enqueue", "(I)V"⟩, 12) := ⟨⟨by decide +kernel, by decide +kernel⟩, List.mem_of_getElem? (i := 307) (by decide +kernel), List.mem_of_getElem? (i := 403) (by decide +kernel), List.mem_of_getElem? (i := 404) (by decide +kernel)⟩
theorem lw_p4 : lw_okq (⟨"PlantServer$Queue", "append", "(IZ)V"⟩, 5) := ⟨⟨by decide +kernel, by decide +kernel⟩, List.mem_of_getElem? (i := 309) (by decide +kernel), List.mem_of_getElem? (i := 411) (by decide +kernel), List.mem_of_getElem? (i := 412) (by decide +kernel)⟩
theorem lw_p5 : lw_okq (⟨"PlantServer", "liveItem", "(I)LPlantServer$Item;"⟩, 9) := ⟨⟨by decide +kernel, by decide +kernel⟩, List.mem_of_getElem? (i := 17) (by decide +kernel), List.mem_of_getElem? (i := 426) (by decide +kernel), List.mem_of_getElem? (i := 427) (by decide +kernel)⟩
theorem lw_p6 : lw_okq (⟨"PlantServer", "sampleItems", "()V"⟩, 9) := ⟨⟨by decide +kernel, by decide +kernel⟩, List.mem_of_getElem? (i := 17) (by decide +kernel), List.mem_of_getElem? (i := 508) (by decide +kernel), List.mem_of_getElem? (i := 509) (by decide +kernel)⟩
theorem lw_p7 : lw_okq (⟨"PlantServer", "publishSubscriptions", "()I"⟩, 9) := ⟨⟨by decide +kernel, by decide +kernel⟩, List.mem_of_getElem? (i := 17) (by decide +kernel), List.mem_of_getElem? (i := 527) (by decide +kernel), List.mem_of_getElem? (i := 528) (by decide +kernel)⟩
theorem lw_p8 : lw_okq (⟨"PlantServer", "publishes", "(LPlantServer$Subscription;)Z"⟩, 9) := ⟨⟨by decide +kernel, by decide +kernel⟩, List.mem_of_getElem? (i := 17) (by decide +kernel), List.mem_of_getElem? (i := 531) (by decide +kernel), List.mem_of_getElem? (i := 532) (by decide +kernel)⟩
theorem lw_p9 : lw_okq (⟨"PlantServer$Subscription", "fillMessage", "(I)V"⟩, 14) := ⟨⟨by decide +kernel, by decide +kernel⟩, List.mem_of_getElem? (i := 184) (by decide +kernel), List.mem_of_getElem? (i := 551) (by decide +kernel), List.mem_of_getElem? (i := 552) (by decide +kernel)⟩
theorem lw_p10 : lw_okq (⟨"PlantServer$Subscription", "nextMessage", "()LPlantServer$Message;"⟩, 14) := ⟨⟨by decide +kernel, by decide +kernel⟩, List.mem_of_getElem? (i := 184) (by decide +kernel), List.mem_of_getElem? (i := 555) (by decide +kernel), List.mem_of_getElem? (i := 556) (by decide +kernel)⟩
theorem lw_p11 : lw_okq (⟨"PlantServer", "messageWith", "(III)LPlantServer$Message;"⟩, 9) := ⟨⟨by decide +kernel, by decide +kernel⟩, List.mem_of_getElem? (i := 17) (by decide +kernel), List.mem_of_getElem? (i := 646) (by decide +kernel), List.mem_of_getElem? (i := 647) (by decide +kernel)⟩
theorem lw_p12 : lw_okq (⟨"PlantServer$History", "valueBefore", "(II)I"⟩, 4) := ⟨⟨by decide +kernel, by decide +kernel⟩, List.mem_of_getElem? (i := 29) (by decide +kernel), List.mem_of_getElem? (i := 696) (by decide +kernel), List.mem_of_getElem? (i := 697) (by decide +kernel)⟩
theorem lw_p13 : lw_okq (⟨"PlantServer$History", "isSampled", "(LPlantServer$Item;II)Z"⟩, 4) := ⟨⟨by decide +kernel, by decide +kernel⟩, List.mem_of_getElem? (i := 29) (by decide +kernel), List.mem_of_getElem? (i := 700) (by decide +kernel), List.mem_of_getElem? (i := 701) (by decide +kernel)⟩
def lw_privs_1 : List (MethodName × Nat) := [(⟨"java/lang/Throwable", "fillInStackTrace", "(I)Ljava/lang/Throwable;"⟩, 6), (⟨"PlantServer", "putInTurn", "(LPlantServer$Subscription;I)V"⟩, 9), (⟨"PlantServer", "openSubscription", "(I)LPlantServer$Subscription;"⟩, 9), (⟨"PlantServer$Item", "enqueue", "(I)V"⟩, 12), (⟨"PlantServer$Queue", "append", "(IZ)V"⟩, 5), (⟨"PlantServer", "liveItem", "(I)LPlantServer$Item;"⟩, 9), (⟨"PlantServer", "sampleItems", "()V"⟩, 9), (⟨"PlantServer", "publishSubscriptions", "()I"⟩, 9), (⟨"PlantServer", "publishes", "(LPlantServer$Subscription;)Z"⟩, 9), (⟨"PlantServer$Subscription", "fillMessage", "(I)V"⟩, 14), (⟨"PlantServer$Subscription", "nextMessage", "()LPlantServer$Message;"⟩, 14), (⟨"PlantServer", "messageWith", "(III)LPlantServer$Message;"⟩, 9), (⟨"PlantServer$History", "valueBefore", "(II)I"⟩, 4), (⟨"PlantServer$History", "isSampled", "(LPlantServer$Item;II)Z"⟩, 4)]
theorem lw_r1 : ∀ q ∈ lw_privs_1, lw_okq q := List.forall_mem_cons.mpr ⟨lw_p0, List.forall_mem_cons.mpr ⟨lw_p1, List.forall_mem_cons.mpr ⟨lw_p2, List.forall_mem_cons.mpr ⟨lw_p3, List.forall_mem_cons.mpr ⟨lw_p4, List.forall_mem_cons.mpr ⟨lw_p5, List.forall_mem_cons.mpr ⟨lw_p6, List.forall_mem_cons.mpr ⟨lw_p7, List.forall_mem_cons.mpr ⟨lw_p8, List.forall_mem_cons.mpr ⟨lw_p9, List.forall_mem_cons.mpr ⟨lw_p10, List.forall_mem_cons.mpr ⟨lw_p11, List.forall_mem_cons.mpr ⟨lw_p12, List.forall_mem_cons.mpr ⟨lw_p13, fun _ h => absurd h List.not_mem_nil⟩⟩⟩⟩⟩⟩⟩⟩⟩⟩⟩⟩⟩⟩
def lw_privs : List (MethodName × Nat) := lw_privs_1
def lw_tbl : List Cond := k2_sels lw_privs ++ tables_1
theorem lw_privs_ok : ∀ q ∈ lw_privs, lw_okq q := lw_r1

def RX0 : String := "PlantServer$History"
def TX0 : u_T := fun k => match k with
  | 0 => ("PlantServer$History", "ticks", "[I", true)
  | 1 => ("PlantServer$History", "nodes", "[I", true)
  | 2 => ("PlantServer$History", "values", "[I", true)
  | _ => ("PlantServer$History", "count", "I", false)
def tyX0 : Nat → FieldType := fun k => match k with
  | 0 => .array .int
  | 1 => .array .int
  | 2 => .array .int
  | _ => .int
abbrev wsX00 : List Cond := u_ws RX0 TX0 4
theorem nmX0 : ∀ a, a < 4 → ∀ b, b < 4 → a ≠ b → (TX0 a).2.1 ≠ (TX0 b).2.1 := by decide +kernel
theorem tyX0_ok : ∀ k, k < 4 → parseFieldDescriptor (TX0 k).2.2.1 = some (tyX0 k) := by decide +kernel
abbrev cX0_init : ByteArray := prog_2_method_1_code
def yX0_init : MethodName := ⟨RX0, "<init>", "()V"⟩
abbrev cX0_record : ByteArray := prog_2_method_2_code
def yX0_record : MethodName := ⟨RX0, "record", "(III)V"⟩
abbrev cX0_countQueued : ByteArray := prog_2_method_3_code
def yX0_countQueued : MethodName := ⟨RX0, "countQueued", "(LPlantServer$Item;I)I"⟩
abbrev cX0_valueBefore : ByteArray := prog_2_method_4_code
def yX0_valueBefore : MethodName := ⟨RX0, "valueBefore", "(II)I"⟩
abbrev cX0_isSampled : ByteArray := prog_2_method_5_code
def yX0_isSampled : MethodName := ⟨RX0, "isSampled", "(LPlantServer$Item;II)Z"⟩
def RX1 : String := "PlantServer$Item"
def TX1 : u_T := fun k => match k with
  | 0 => ("PlantServer$Item", "number", "I", true)
  | 1 => ("PlantServer$Item", "owner", "LPlantServer$Subscription;", true)
  | 2 => ("PlantServer$Item", "node", "I", true)
  | 3 => ("PlantServer$Item", "band", "I", true)
  | 4 => ("PlantServer$Item", "timer", "LPlantServer$Timer;", true)
  | 5 => ("PlantServer$Item", "queue", "LPlantServer$Queue;", true)
  | 6 => ("PlantServer$Item", "reports", "Z", false)
  | 7 => ("PlantServer$Item", "triggers", "I", false)
  | 8 => ("PlantServer$Item", "queuedCount", "I", false)
  | 9 => ("PlantServer$Item", "lastQueued", "I", false)
  | 10 => ("PlantServer$Item", "addedAt", "I", false)
  | _ => ("PlantServer$Item", "writesBefore", "I", false)
def tyX1 : Nat → FieldType := fun k => match k with
  | 0 => .int
  | 1 => .object "PlantServer$Subscription"
  | 2 => .int
  | 3 => .int
  | 4 => .object "PlantServer$Timer"
  | 5 => .object "PlantServer$Queue"
  | 6 => .boolean
  | 7 => .int
  | 8 => .int
  | 9 => .int
  | 10 => .int
  | _ => .int
abbrev wsX10 : List Cond := u_ws RX1 TX1 12
theorem nmX1 : ∀ a, a < 12 → ∀ b, b < 12 → a ≠ b → (TX1 a).2.1 ≠ (TX1 b).2.1 := by decide +kernel
theorem tyX1_ok : ∀ k, k < 12 → parseFieldDescriptor (TX1 k).2.2.1 = some (tyX1 k) := by decide +kernel
abbrev cX1_init : ByteArray := prog_3_method_1_code
def yX1_init : MethodName := ⟨RX1, "<init>", "(ILPlantServer$Subscription;IIILPlantServer$Queue;)V"⟩
abbrev cX1_begin : ByteArray := prog_3_method_2_code
def yX1_begin : MethodName := ⟨RX1, "begin", "(III)V"⟩
abbrev cX1_sample : ByteArray := prog_3_method_3_code
def yX1_sample : MethodName := ⟨RX1, "sample", "(I)V"⟩
abbrev cX1_leavesBand : ByteArray := prog_3_method_4_code
def yX1_leavesBand : MethodName := ⟨RX1, "leavesBand", "(II)Z"⟩
abbrev cX1_setTrigger : ByteArray := prog_3_method_5_code
def yX1_setTrigger : MethodName := ⟨RX1, "setTrigger", "(IZ)Z"⟩
abbrev cX1_giveTo : ByteArray := prog_3_method_6_code
def yX1_giveTo : MethodName := ⟨RX1, "giveTo", "(LPlantServer$Message;I)V"⟩
abbrev cX1_enqueue : ByteArray := prog_3_method_7_code
def yX1_enqueue : MethodName := ⟨RX1, "enqueue", "(I)V"⟩
def RX2 : String := "PlantServer$Message"
def TX2 : u_T := fun k => match k with
  | 0 => ("PlantServer$Message", "values", "[I", true)
  | 1 => ("PlantServer$Message", "items", "[I", true)
  | 2 => ("PlantServer$Message", "marks", "[Z", true)
  | 3 => ("PlantServer$Message", "number", "I", false)
  | _ => ("PlantServer$Message", "count", "I", false)
def tyX2 : Nat → FieldType := fun k => match k with
  | 0 => .array .int
  | 1 => .array .int
  | 2 => .array .boolean
  | 3 => .int
  | _ => .int
abbrev wsX20 : List Cond := u_ws RX2 TX2 5
theorem nmX2 : ∀ a, a < 5 → ∀ b, b < 5 → a ≠ b → (TX2 a).2.1 ≠ (TX2 b).2.1 := by decide +kernel
theorem tyX2_ok : ∀ k, k < 5 → parseFieldDescriptor (TX2 k).2.2.1 = some (tyX2 k) := by decide +kernel
abbrev cX2_init : ByteArray := prog_4_method_1_code
def yX2_init : MethodName := ⟨RX2, "<init>", "()V"⟩
abbrev cX2_begin : ByteArray := prog_4_method_2_code
def yX2_begin : MethodName := ⟨RX2, "begin", "(I)V"⟩
abbrev cX2_append : ByteArray := prog_4_method_3_code
def yX2_append : MethodName := ⟨RX2, "append", "(IIZ)V"⟩
def RX3 : String := "PlantServer$Queue"
def TX3 : u_T := fun k => match k with
  | 0 => ("PlantServer$Queue", "size", "I", true)
  | 1 => ("PlantServer$Queue", "dropsOldest", "Z", true)
  | 2 => ("PlantServer$Queue", "values", "[I", true)
  | 3 => ("PlantServer$Queue", "marks", "[Z", true)
  | _ => ("PlantServer$Queue", "count", "I", false)
def tyX3 : Nat → FieldType := fun k => match k with
  | 0 => .int
  | 1 => .boolean
  | 2 => .array .int
  | 3 => .array .boolean
  | _ => .int
abbrev wsX30 : List Cond := u_ws RX3 TX3 5
theorem nmX3 : ∀ a, a < 5 → ∀ b, b < 5 → a ≠ b → (TX3 a).2.1 ≠ (TX3 b).2.1 := by decide +kernel
theorem tyX3_ok : ∀ k, k < 5 → parseFieldDescriptor (TX3 k).2.2.1 = some (tyX3 k) := by decide +kernel
abbrev cX3_init : ByteArray := prog_5_method_1_code
def yX3_init : MethodName := ⟨RX3, "<init>", "(IZ)V"⟩
abbrev cX3_put : ByteArray := prog_5_method_2_code
def yX3_put : MethodName := ⟨RX3, "put", "(I)V"⟩
abbrev cX3_dropFirst : ByteArray := prog_5_method_3_code
def yX3_dropFirst : MethodName := ⟨RX3, "dropFirst", "()V"⟩
abbrev cX3_append : ByteArray := prog_5_method_4_code
def yX3_append : MethodName := ⟨RX3, "append", "(IZ)V"⟩
def RX4 : String := "PlantServer$Subscription"
def TX4 : u_T := fun k => match k with
  | 0 => ("PlantServer$Subscription", "timer", "LPlantServer$Timer;", true)
  | 1 => ("PlantServer$Subscription", "idle", "I", true)
  | 2 => ("PlantServer$Subscription", "life", "I", true)
  | 3 => ("PlantServer$Subscription", "priority", "I", true)
  | 4 => ("PlantServer$Subscription", "most", "I", true)
  | 5 => ("PlantServer$Subscription", "items", "[LPlantServer$Item;", true)
  | 6 => ("PlantServer$Subscription", "messages", "[LPlantServer$Message;", true)
  | 7 => ("PlantServer$Subscription", "isLive", "Z", false)
  | 8 => ("PlantServer$Subscription", "itemCount", "I", false)
  | 9 => ("PlantServer$Subscription", "keptCount", "I", false)
  | 10 => ("PlantServer$Subscription", "lastNumber", "I", false)
  | 11 => ("PlantServer$Subscription", "keepAliveCount", "I", false)
  | 12 => ("PlantServer$Subscription", "idleRow", "I", false)
  | _ => ("PlantServer$Subscription", "lostRow", "I", false)
def tyX4 : Nat → FieldType := fun k => match k with
  | 0 => .object "PlantServer$Timer"
  | 1 => .int
  | 2 => .int
  | 3 => .int
  | 4 => .int
  | 5 => .array (.object "PlantServer$Item")
  | 6 => .array (.object "PlantServer$Message")
  | 7 => .boolean
  | 8 => .int
  | 9 => .int
  | 10 => .int
  | 11 => .int
  | 12 => .int
  | _ => .int
abbrev wsX40 : List Cond := u_ws RX4 TX4 14
theorem nmX4 : ∀ a, a < 14 → ∀ b, b < 14 → a ≠ b → (TX4 a).2.1 ≠ (TX4 b).2.1 := by decide +kernel
theorem tyX4_ok : ∀ k, k < 14 → parseFieldDescriptor (TX4 k).2.2.1 = some (tyX4 k) := by decide +kernel
abbrev cX4_init : ByteArray := prog_6_method_1_code
def yX4_init : MethodName := ⟨RX4, "<init>", "(IIIII)V"⟩
abbrev cX4_take : ByteArray := prog_6_method_2_code
def yX4_take : MethodName := ⟨RX4, "take", "(LPlantServer$Item;)V"⟩
abbrev cX4_findTold : ByteArray := prog_6_method_3_code
def yX4_findTold : MethodName := ⟨RX4, "findTold", "()I"⟩
abbrev cX4_isSomethingDue : ByteArray := prog_6_method_4_code
def yX4_isSomethingDue : MethodName := ⟨RX4, "isSomethingDue", "(I)Z"⟩
abbrev cX4_lose : ByteArray := prog_6_method_5_code
def yX4_lose : MethodName := ⟨RX4, "lose", "()V"⟩
abbrev cX4_send : ByteArray := prog_6_method_6_code
def yX4_send : MethodName := ⟨RX4, "send", "(I)V"⟩
abbrev cX4_placeOf : ByteArray := prog_6_method_7_code
def yX4_placeOf : MethodName := ⟨RX4, "placeOf", "(I)I"⟩
abbrev cX4_find : ByteArray := prog_6_method_8_code
def yX4_find : MethodName := ⟨RX4, "find", "(I)LPlantServer$Message;"⟩
abbrev cX4_forget : ByteArray := prog_6_method_9_code
def yX4_forget : MethodName := ⟨RX4, "forget", "(I)V"⟩
abbrev cX4_fillMessage : ByteArray := prog_6_method_10_code
def yX4_fillMessage : MethodName := ⟨RX4, "fillMessage", "(I)V"⟩
abbrev cX4_nextMessage : ByteArray := prog_6_method_11_code
def yX4_nextMessage : MethodName := ⟨RX4, "nextMessage", "()LPlantServer$Message;"⟩
def RX5 : String := "PlantServer$Timer"
def TX5 : u_T := fun k => match k with
  | 0 => ("PlantServer$Timer", "every", "I", true)
  | _ => ("PlantServer$Timer", "left", "I", false)
def tyX5 : Nat → FieldType := fun k => match k with
  | 0 => .int
  | _ => .int
abbrev wsX50 : List Cond := u_ws RX5 TX5 2
theorem nmX5 : ∀ a, a < 2 → ∀ b, b < 2 → a ≠ b → (TX5 a).2.1 ≠ (TX5 b).2.1 := by decide +kernel
theorem tyX5_ok : ∀ k, k < 2 → parseFieldDescriptor (TX5 k).2.2.1 = some (tyX5 k) := by decide +kernel
abbrev cX5_init : ByteArray := prog_7_method_1_code
def yX5_init : MethodName := ⟨RX5, "<init>", "(I)V"⟩
abbrev cX5_countTick : ByteArray := prog_7_method_2_code
def yX5_countTick : MethodName := ⟨RX5, "countTick", "()Z"⟩
def RX6 : String := "PlantServer"
def TX6 : u_T := fun k => match k with
  | 0 => ("PlantServer", "nodes", "[I", true)
  | 1 => ("PlantServer", "subscriptions", "[LPlantServer$Subscription;", true)
  | 2 => ("PlantServer", "inTurn", "[LPlantServer$Subscription;", true)
  | 3 => ("PlantServer", "items", "[LPlantServer$Item;", true)
  | 4 => ("PlantServer", "history", "LPlantServer$History;", true)
  | 5 => ("PlantServer", "subscriptionCount", "I", false)
  | 6 => ("PlantServer", "itemCount", "I", false)
  | 7 => ("PlantServer", "requestCount", "I", false)
  | _ => ("PlantServer", "now", "I", false)
def tyX6 : Nat → FieldType := fun k => match k with
  | 0 => .array .int
  | 1 => .array (.object "PlantServer$Subscription")
  | 2 => .array (.object "PlantServer$Subscription")
  | 3 => .array (.object "PlantServer$Item")
  | 4 => .object "PlantServer$History"
  | 5 => .int
  | 6 => .int
  | 7 => .int
  | _ => .int
abbrev wsX60 : List Cond := u_ws RX6 TX6 9
theorem nmX6 : ∀ a, a < 9 → ∀ b, b < 9 → a ≠ b → (TX6 a).2.1 ≠ (TX6 b).2.1 := by decide +kernel
theorem tyX6_ok : ∀ k, k < 9 → parseFieldDescriptor (TX6 k).2.2.1 = some (tyX6 k) := by decide +kernel
abbrev cX6_init : ByteArray := prog_1_method_1_code
def yX6_init : MethodName := ⟨RX6, "<init>", "()V"⟩
abbrev cX6_write : ByteArray := prog_1_method_2_code
def yX6_write : MethodName := ⟨RX6, "write", "(II)I"⟩
abbrev cX6_open : ByteArray := prog_1_method_3_code
def yX6_open : MethodName := ⟨RX6, "open", "(IIIII)I"⟩
abbrev cX6_close : ByteArray := prog_1_method_4_code
def yX6_close : MethodName := ⟨RX6, "close", "(I)I"⟩
abbrev cX6_add : ByteArray := prog_1_method_5_code
def yX6_add : MethodName := ⟨RX6, "add", "(IIIIZI)I"⟩
abbrev cX6_setReporting : ByteArray := prog_1_method_6_code
def yX6_setReporting : MethodName := ⟨RX6, "setReporting", "(IZ)Z"⟩
abbrev cX6_link : ByteArray := prog_1_method_7_code
def yX6_link : MethodName := ⟨RX6, "link", "(IIZ)Z"⟩
abbrev cX6_request : ByteArray := prog_1_method_8_code
def yX6_request : MethodName := ⟨RX6, "request", "()I"⟩
abbrev cX6_pass : ByteArray := prog_1_method_9_code
def yX6_pass : MethodName := ⟨RX6, "pass", "(I)I"⟩
abbrev cX6_requests : ByteArray := prog_1_method_10_code
def yX6_requests : MethodName := ⟨RX6, "requests", "()I"⟩
abbrev cX6_tick : ByteArray := prog_1_method_11_code
def yX6_tick : MethodName := ⟨RX6, "tick", "()I"⟩
abbrev cX6_acknowledge : ByteArray := prog_1_method_12_code
def yX6_acknowledge : MethodName := ⟨RX6, "acknowledge", "(II)Z"⟩
abbrev cX6_size : ByteArray := prog_1_method_13_code
def yX6_size : MethodName := ⟨RX6, "size", "(II)I"⟩
abbrev cX6_valueAt : ByteArray := prog_1_method_14_code
def yX6_valueAt : MethodName := ⟨RX6, "valueAt", "(III)I"⟩
abbrev cX6_itemAt : ByteArray := prog_1_method_15_code
def yX6_itemAt : MethodName := ⟨RX6, "itemAt", "(III)I"⟩
abbrev cX6_isMarked : ByteArray := prog_1_method_16_code
def yX6_isMarked : MethodName := ⟨RX6, "isMarked", "(III)Z"⟩
abbrev cX6_latest : ByteArray := prog_1_method_17_code
def yX6_latest : MethodName := ⟨RX6, "latest", "(I)I"⟩
abbrev cX6_keepAlives : ByteArray := prog_1_method_18_code
def yX6_keepAlives : MethodName := ⟨RX6, "keepAlives", "(I)I"⟩
abbrev cX6_waiting : ByteArray := prog_1_method_19_code
def yX6_waiting : MethodName := ⟨RX6, "waiting", "(I)I"⟩
abbrev cX6_queued : ByteArray := prog_1_method_20_code
def yX6_queued : MethodName := ⟨RX6, "queued", "(I)I"⟩
abbrev cX6_queuedByHistory : ByteArray := prog_1_method_21_code
def yX6_queuedByHistory : MethodName := ⟨RX6, "queuedByHistory", "(I)I"⟩
abbrev cX6_isOpen : ByteArray := prog_1_method_22_code
def yX6_isOpen : MethodName := ⟨RX6, "isOpen", "(I)Z"⟩
abbrev cX6_checkRange : ByteArray := prog_1_method_23_code
def yX6_checkRange : MethodName := ⟨RX6, "checkRange", "(III)V"⟩
abbrev cX6_checkNode : ByteArray := prog_1_method_24_code
def yX6_checkNode : MethodName := ⟨RX6, "checkNode", "(I)V"⟩
abbrev cX6_openSubscription : ByteArray := prog_1_method_25_code
def yX6_openSubscription : MethodName := ⟨RX6, "openSubscription", "(I)LPlantServer$Subscription;"⟩
abbrev cX6_liveItem : ByteArray := prog_1_method_26_code
def yX6_liveItem : MethodName := ⟨RX6, "liveItem", "(I)LPlantServer$Item;"⟩
abbrev cX6_messageWith : ByteArray := prog_1_method_27_code
def yX6_messageWith : MethodName := ⟨RX6, "messageWith", "(III)LPlantServer$Message;"⟩
abbrev cX6_putInTurn : ByteArray := prog_1_method_28_code
def yX6_putInTurn : MethodName := ⟨RX6, "putInTurn", "(LPlantServer$Subscription;I)V"⟩
abbrev cX6_sampleItems : ByteArray := prog_1_method_29_code
def yX6_sampleItems : MethodName := ⟨RX6, "sampleItems", "()V"⟩
abbrev cX6_publishSubscriptions : ByteArray := prog_1_method_30_code
def yX6_publishSubscriptions : MethodName := ⟨RX6, "publishSubscriptions", "()I"⟩
abbrev cX6_publishes : ByteArray := prog_1_method_31_code
def yX6_publishes : MethodName := ⟨RX6, "publishes", "(LPlantServer$Subscription;)Z"⟩
def RX7 : String := "PlantServerModel"
def TX7 : u_T := fun k => match k with
  | _ => ("", "", "", false)
def tyX7 : Nat → FieldType := fun k => match k with
  | _ => .int
abbrev wsX70 : List Cond := u_ws RX7 TX7 0
theorem nmX7 : ∀ a, a < 0 → ∀ b, b < 0 → a ≠ b → (TX7 a).2.1 ≠ (TX7 b).2.1 := by decide +kernel
theorem tyX7_ok : ∀ k, k < 0 → parseFieldDescriptor (TX7 k).2.2.1 = some (tyX7 k) := by decide +kernel
def RJx145de : String := "java/io/Serializable"
def TJx145de : u_T := fun k => match k with
  | _ => ("", "", "", false)
def tyJx145de : Nat → FieldType := fun k => match k with
  | _ => .int
abbrev wsJx145de0 : List Cond := u_ws RJx145de TJx145de 0
theorem nmJx145de : ∀ a, a < 0 → ∀ b, b < 0 → a ≠ b → (TJx145de a).2.1 ≠ (TJx145de b).2.1 := by decide +kernel
theorem tyJx145de_ok : ∀ k, k < 0 → parseFieldDescriptor (TJx145de k).2.2.1 = some (tyJx145de k) := by decide +kernel
def RJ9 : String := "java/lang/Math"
def TJ9 : u_T := fun k => match k with
  | _ => ("", "", "", false)
def tyJ9 : Nat → FieldType := fun k => match k with
  | _ => .int
abbrev wsJ90 : List Cond := u_ws RJ9 TJ9 0
theorem nmJ9 : ∀ a, a < 0 → ∀ b, b < 0 → a ≠ b → (TJ9 a).2.1 ≠ (TJ9 b).2.1 := by decide +kernel
theorem tyJ9_ok : ∀ k, k < 0 → parseFieldDescriptor (TJ9 k).2.2.1 = some (tyJ9 k) := by decide +kernel
abbrev cJ9_abs_0f7a4 : ByteArray := prog_15_method_59_code
def yJ9_abs_0f7a4 : MethodName := ⟨RJ9, "abs", "(I)I"⟩
abbrev cJ9_min_7cf53 : ByteArray := prog_15_method_69_code
def yJ9_min_7cf53 : MethodName := ⟨RJ9, "min", "(II)I"⟩
def RJ0 : String := "java/lang/String"
def TJ0 : u_T := fun k => match k with
  | _ => ("", "", "", false)
def tyJ0 : Nat → FieldType := fun k => match k with
  | _ => .int
abbrev wsJ00 : List Cond := u_ws RJ0 TJ0 0
theorem nmJ0 : ∀ a, a < 0 → ∀ b, b < 0 → a ≠ b → (TJ0 a).2.1 ≠ (TJ0 b).2.1 := by decide +kernel
theorem tyJ0_ok : ∀ k, k < 0 → parseFieldDescriptor (TJ0 k).2.2.1 = some (tyJ0 k) := by decide +kernel
def RL : String := "PlantServerLaw"
abbrev cL_cell : ByteArray := method_2_code
def yL_cell : MethodName := ⟨RL, "cell", "([II)I"⟩
abbrev cL_low : ByteArray := method_3_code
def yL_low : MethodName := ⟨RL, "low", "(II)I"⟩
abbrev cL_write : ByteArray := method_4_code
def yL_write : MethodName := ⟨RL, "write", "(LPlantServer;II)I"⟩
abbrev cL_open : ByteArray := method_5_code
def yL_open : MethodName := ⟨RL, "open", "(LPlantServer;IIIII)I"⟩
abbrev cL_close : ByteArray := method_6_code
def yL_close : MethodName := ⟨RL, "close", "(LPlantServer;I)I"⟩
abbrev cL_add : ByteArray := method_7_code
def yL_add : MethodName := ⟨RL, "add", "(LPlantServer;IIIIZI)I"⟩
abbrev cL_setReporting : ByteArray := method_8_code
def yL_setReporting : MethodName := ⟨RL, "setReporting", "(LPlantServer;IZ)I"⟩
abbrev cL_link : ByteArray := method_9_code
def yL_link : MethodName := ⟨RL, "link", "(LPlantServer;IIZ)I"⟩
abbrev cL_request : ByteArray := method_10_code
def yL_request : MethodName := ⟨RL, "request", "(LPlantServer;)I"⟩
abbrev cL_pass : ByteArray := method_11_code
def yL_pass : MethodName := ⟨RL, "pass", "(LPlantServer;I)I"⟩
abbrev cL_acknowledge : ByteArray := method_12_code
def yL_acknowledge : MethodName := ⟨RL, "acknowledge", "(LPlantServer;II)I"⟩
abbrev cL_size : ByteArray := method_13_code
def yL_size : MethodName := ⟨RL, "size", "(LPlantServer;II)I"⟩
abbrev cL_valueAt : ByteArray := method_14_code
def yL_valueAt : MethodName := ⟨RL, "valueAt", "(LPlantServer;III)I"⟩
abbrev cL_itemAt : ByteArray := method_15_code
def yL_itemAt : MethodName := ⟨RL, "itemAt", "(LPlantServer;III)I"⟩
abbrev cL_isMarked : ByteArray := method_16_code
def yL_isMarked : MethodName := ⟨RL, "isMarked", "(LPlantServer;III)I"⟩
abbrev cL_latest : ByteArray := method_17_code
def yL_latest : MethodName := ⟨RL, "latest", "(LPlantServer;I)I"⟩
abbrev cL_keepAlives : ByteArray := method_18_code
def yL_keepAlives : MethodName := ⟨RL, "keepAlives", "(LPlantServer;I)I"⟩
abbrev cL_waiting : ByteArray := method_19_code
def yL_waiting : MethodName := ⟨RL, "waiting", "(LPlantServer;I)I"⟩
abbrev cL_queued : ByteArray := method_20_code
def yL_queued : MethodName := ⟨RL, "queued", "(LPlantServer;I)I"⟩
abbrev cL_isOpen : ByteArray := method_21_code
def yL_isOpen : MethodName := ⟨RL, "isOpen", "(LPlantServer;I)I"⟩
abbrev cL_sample : ByteArray := method_22_code
def yL_sample : MethodName := ⟨RL, "sample", "(I[I[I[I[I[I[I)V"⟩
abbrev cL_kept : ByteArray := method_23_code
def yL_kept : MethodName := ⟨RL, "kept", "([III)I"⟩
abbrev cL_publish : ByteArray := method_24_code
def yL_publish : MethodName := ⟨RL, "publish", "(I[I[I[I[I[I[I[I[I)I"⟩
abbrev cL_tick : ByteArray := method_25_code
def yL_tick : MethodName := ⟨RL, "tick", "([I[I[I[I[I[I[I[I[I[I[I[I)I"⟩
abbrev cL_isThere : ByteArray := method_26_code
def yL_isThere : MethodName := ⟨RL, "isThere", "([I[I[II)Z"⟩
abbrev cL_opens : ByteArray := method_27_code
def yL_opens : MethodName := ⟨RL, "opens", "(LPlantServer;III[I[I[I[I[I[I[I[I[I[I)Z"⟩
abbrev cL_goes : ByteArray := method_28_code
def yL_goes : MethodName := ⟨RL, "goes", "(LPlantServer;III[I[I[I[I[I[I[I[I[I[I[I[I)Z"⟩
abbrev cL_isTold : ByteArray := method_29_code
def yL_isTold : MethodName := ⟨RL, "isTold", "(LPlantServer;I[I[I[I[I[I[I[I)Z"⟩
abbrev cL_law : ByteArray := code
def yL_law : MethodName := ⟨RL, "law", "([I)Z"⟩
end
section
/-- the tables' words that stay true whatever the tables warm to -/
def T0 : List Cond := lw_tbl.filter goodWord
theorem t0_of {w : Cond} (h : w ∈ lw_tbl) (g : goodWord w = true) : w ∈ T0 := List.mem_filter.mpr ⟨h, g⟩
theorem t0_lw {w : Cond} (h : w ∈ T0) : w ∈ lw_tbl := (List.mem_filter.mp h).1
theorem t0_good {w : Cond} (h : w ∈ T0) : goodWord w = true := (List.mem_filter.mp h).2
theorem lw_r {w : Cond} (h : w ∈ tables_1) : w ∈ lw_tbl := List.mem_append_right _ h
theorem tb1 {w : Cond} (h : w ∈ tables_1_1) : w ∈ tables_1 := List.mem_append_left _ h
theorem tb2 {w : Cond} (h : w ∈ tables_1_2) : w ∈ tables_1 := List.mem_append_right _ (List.mem_append_left _ h)
theorem tb3 {w : Cond} (h : w ∈ tables_1_3) : w ∈ tables_1 := List.mem_append_right _ (List.mem_append_right _ (List.mem_append_left _ h))
theorem tb4 {w : Cond} (h : w ∈ tables_1_4) : w ∈ tables_1 := List.mem_append_right _ (List.mem_append_right _ (List.mem_append_right _ h))
theorem q1i {w : Cond} (i : Nat) (h : tables_1_1[i]? = some w) (g : goodWord w = true) : w ∈ T0 := t0_of (lw_r (tb1 (List.mem_of_getElem? h))) g
theorem q2i {w : Cond} (i : Nat) (h : tables_1_2[i]? = some w) (g : goodWord w = true) : w ∈ T0 := t0_of (lw_r (tb2 (List.mem_of_getElem? h))) g
theorem q3i {w : Cond} (i : Nat) (h : tables_1_3[i]? = some w) (g : goodWord w = true) : w ∈ T0 := t0_of (lw_r (tb3 (List.mem_of_getElem? h))) g
theorem q4i {w : Cond} (i : Nat) (h : tables_1_4[i]? = some w) (g : goodWord w = true) : w ∈ T0 := t0_of (lw_r (tb4 (List.mem_of_getElem? h))) g
theorem s0i {w : Cond} (i : Nat) (h : (k2_sels lw_privs)[i]? = some w) (g : goodWord w = true) : w ∈ T0 := t0_of (List.mem_append_left _ (List.mem_of_getElem? h)) g
theorem q0 : Cond.initialized "PlantServerLaw" ∈ T0 := q1i 0 (by decide +kernel) (by decide +kernel)
theorem q1 : Cond.initialized "PlantServer" ∈ T0 := q1i 1 (by decide +kernel) (by decide +kernel)
theorem q2 : Cond.initialized "PlantServer$History" ∈ T0 := q1i 2 (by decide +kernel) (by decide +kernel)
theorem q3 : Cond.initialized "java/lang/Throwable" ∈ T0 := q1i 3 (by decide +kernel) (by decide +kernel)
theorem q4 : Cond.initialized "java/lang/Exception" ∈ T0 := q1i 4 (by decide +kernel) (by decide +kernel)
theorem q5 : Cond.initialized "java/lang/RuntimeException" ∈ T0 := q1i 5 (by decide +kernel) (by decide +kernel)
theorem q6 : Cond.initialized "java/lang/IllegalArgumentException" ∈ T0 := q1i 6 (by decide +kernel) (by decide +kernel)
theorem q7 : Cond.initialized "java/lang/IndexOutOfBoundsException" ∈ T0 := q1i 7 (by decide +kernel) (by decide +kernel)
theorem q8 : Cond.initialized "java/util/NoSuchElementException" ∈ T0 := q1i 8 (by decide +kernel) (by decide +kernel)
theorem q9 : Cond.initialized "java/lang/Math" ∈ T0 := q1i 9 (by decide +kernel) (by decide +kernel)
theorem q10 : Cond.initialized "java/lang/IllegalStateException" ∈ T0 := q1i 10 (by decide +kernel) (by decide +kernel)
theorem q11 : Cond.initialized "PlantServer$Subscription" ∈ T0 := q1i 11 (by decide +kernel) (by decide +kernel)
theorem q12 : Cond.initialized "PlantServer$Timer" ∈ T0 := q1i 12 (by decide +kernel) (by decide +kernel)
theorem q13 : Cond.initialized "PlantServer$Item" ∈ T0 := q1i 13 (by decide +kernel) (by decide +kernel)
theorem q14 : Cond.initialized "PlantServer$Queue" ∈ T0 := q1i 14 (by decide +kernel) (by decide +kernel)
theorem q15 : Cond.initialized "PlantServer$Message" ∈ T0 := q1i 15 (by decide +kernel) (by decide +kernel)
theorem q16 : Cond.classLink "PlantServerLaw" 9 "PlantServer" ∈ T0 := q1i 16 (by decide +kernel) (by decide +kernel)
theorem q17 : Cond.instantiable "PlantServer" 9 ∈ T0 := q1i 17 (by decide +kernel) (by decide +kernel)
theorem q18 : Cond.methodLink "PlantServerLaw" 163 ⟨"PlantServer", "<init>", "()V"⟩ ∈ T0 := q1i 18 (by decide +kernel) (by decide +kernel)
theorem q19 : Cond.instanceMethod ⟨"PlantServer", "<init>", "()V"⟩ ∈ T0 := q1i 19 (by decide +kernel) (by decide +kernel)
theorem q20 : Cond.code ⟨"PlantServer", "<init>", "()V"⟩ prog_1_method_1_code 1 none ∈ T0 := q1i 20 (by decide +kernel) (by decide +kernel)
theorem q21 : Cond.methodLink "PlantServer" 1 ⟨"java/lang/Object", "<init>", "()V"⟩ ∈ T0 := q1i 21 (by decide +kernel) (by decide +kernel)
theorem q22 : Cond.instanceMethod ⟨"java/lang/Object", "<init>", "()V"⟩ ∈ T0 := q1i 22 (by decide +kernel) (by decide +kernel)
theorem q23 : Cond.code ⟨"java/lang/Object", "<init>", "()V"⟩ object_method_1_code 1 none ∈ T0 := q1i 23 (by decide +kernel) (by decide +kernel)
theorem q24 : Cond.classLink "PlantServer" 13 "PlantServer$Subscription" ∈ T0 := q1i 24 (by decide +kernel) (by decide +kernel)
theorem q26 : Cond.classLink "PlantServer" 22 "PlantServer$Item" ∈ T0 := q1i 26 (by decide +kernel) (by decide +kernel)
theorem q28 : Cond.classLink "PlantServer" 28 "PlantServer$History" ∈ T0 := q1i 28 (by decide +kernel) (by decide +kernel)
theorem q29 : Cond.instantiable "PlantServer$History" 4 ∈ T0 := q1i 29 (by decide +kernel) (by decide +kernel)
theorem q31 : Cond.instanceMethod ⟨"PlantServer$History", "<init>", "()V"⟩ ∈ T0 := q1i 31 (by decide +kernel) (by decide +kernel)
theorem q32 : Cond.code ⟨"PlantServer$History", "<init>", "()V"⟩ prog_2_method_1_code 1 none ∈ T0 := q1i 32 (by decide +kernel) (by decide +kernel)
theorem q33 : Cond.methodLink "PlantServer$History" 3 ⟨"java/lang/Object", "<init>", "()V"⟩ ∈ T0 := q1i 33 (by decide +kernel) (by decide +kernel)
theorem q34 : Cond.fieldLink "PlantServer$History" 9 "PlantServer$History" "ticks" "[I" ∈ T0 := q1i 34 (by decide +kernel) (by decide +kernel)
theorem q35 : Cond.fieldLink "PlantServer$History" 15 "PlantServer$History" "nodes" "[I" ∈ T0 := q1i 35 (by decide +kernel) (by decide +kernel)
theorem q36 : Cond.fieldLink "PlantServer$History" 18 "PlantServer$History" "values" "[I" ∈ T0 := q1i 36 (by decide +kernel) (by decide +kernel)
theorem q37 : Cond.fieldLink "PlantServer$History" 21 "PlantServer$History" "count" "I" ∈ T0 := q1i 37 (by decide +kernel) (by decide +kernel)
theorem q38 : Cond.fieldLink "PlantServer" 96 "PlantServer$History" "count" "I" ∈ T0 := q1i 38 (by decide +kernel) (by decide +kernel)
theorem q48 : Cond.arrayClass FieldType.int ∈ T0 := q1i 48 (by decide +kernel) (by decide +kernel)
theorem q49 : Cond.fieldLink "PlantServer" 9 "PlantServer" "nodes" "[I" ∈ T0 := q1i 49 (by decide +kernel) (by decide +kernel)
theorem q50 : Cond.fieldLink "PlantServer" 15 "PlantServer" "subscriptions" "[LPlantServer$Subscription;" ∈ T0 := q1i 50 (by decide +kernel) (by decide +kernel)
theorem q51 : Cond.fieldLink "PlantServer" 19 "PlantServer" "inTurn" "[LPlantServer$Subscription;" ∈ T0 := q1i 51 (by decide +kernel) (by decide +kernel)
theorem q52 : Cond.fieldLink "PlantServer" 24 "PlantServer" "items" "[LPlantServer$Item;" ∈ T0 := q1i 52 (by decide +kernel) (by decide +kernel)
theorem q53 : Cond.fieldLink "PlantServer" 31 "PlantServer" "history" "LPlantServer$History;" ∈ T0 := q1i 53 (by decide +kernel) (by decide +kernel)
theorem q54 : Cond.fieldLink "PlantServer" 35 "PlantServer" "subscriptionCount" "I" ∈ T0 := q1i 54 (by decide +kernel) (by decide +kernel)
theorem q55 : Cond.fieldLink "PlantServer" 39 "PlantServer" "itemCount" "I" ∈ T0 := q1i 55 (by decide +kernel) (by decide +kernel)
theorem q56 : Cond.fieldLink "PlantServer" 42 "PlantServer" "requestCount" "I" ∈ T0 := q1i 56 (by decide +kernel) (by decide +kernel)
theorem q57 : Cond.fieldLink "PlantServer" 45 "PlantServer" "now" "I" ∈ T0 := q1i 57 (by decide +kernel) (by decide +kernel)
theorem q77 : Cond.methodLink "PlantServerLaw" 168 ⟨"PlantServerLaw", "cell", "([II)I"⟩ ∈ T0 := q1i 77 (by decide +kernel) (by decide +kernel)
theorem q78 : Cond.static ⟨"PlantServerLaw", "cell", "([II)I"⟩ ∈ T0 := q1i 78 (by decide +kernel) (by decide +kernel)
theorem q79 : Cond.code ⟨"PlantServerLaw", "cell", "([II)I"⟩ method_2_code 2 (some FieldType.int) ∈ T0 := q1i 79 (by decide +kernel) (by decide +kernel)
theorem q80 : Cond.constant "PlantServerLaw" 7 (1205585893 : Int32) ∈ T0 := q1i 80 (by decide +kernel) (by decide +kernel)
theorem q81 : Cond.methodLink "PlantServerLaw" 93 ⟨"PlantServerLaw", "low", "(II)I"⟩ ∈ T0 := q1i 81 (by decide +kernel) (by decide +kernel)
theorem q82 : Cond.static ⟨"PlantServerLaw", "low", "(II)I"⟩ ∈ T0 := q1i 82 (by decide +kernel) (by decide +kernel)
theorem q83 : Cond.code ⟨"PlantServerLaw", "low", "(II)I"⟩ method_3_code 2 (some FieldType.int) ∈ T0 := q1i 83 (by decide +kernel) (by decide +kernel)
theorem q84 : Cond.methodLink "PlantServerLaw" 172 ⟨"PlantServerLaw", "opens", "(LPlantServer;III[I[I[I[I[I[I[I[I[I[I)Z"⟩ ∈ T0 := q1i 84 (by decide +kernel) (by decide +kernel)
theorem q85 : Cond.static ⟨"PlantServerLaw", "opens", "(LPlantServer;III[I[I[I[I[I[I[I[I[I[I)Z"⟩ ∈ T0 := q1i 85 (by decide +kernel) (by decide +kernel)
theorem q86 : Cond.code ⟨"PlantServerLaw", "opens", "(LPlantServer;III[I[I[I[I[I[I[I[I[I[I)Z"⟩ method_27_code 22 (some FieldType.boolean) ∈ T0 := q1i 86 rfl (by decide +kernel)
theorem q87 : Cond.methodLink "PlantServerLaw" 96 ⟨"PlantServerLaw", "open", "(LPlantServer;IIIII)I"⟩ ∈ T0 := q1i 87 (by decide +kernel) (by decide +kernel)
theorem q88 : Cond.static ⟨"PlantServerLaw", "open", "(LPlantServer;IIIII)I"⟩ ∈ T0 := q1i 88 (by decide +kernel) (by decide +kernel)
theorem q89 : Cond.codeWith ⟨"PlantServerLaw", "open", "(LPlantServer;IIIII)I"⟩ method_5_code 8 (some FieldType.int) [(0, 13, 16, 16), (0, 13, 22, 22)] ∈ T0 := q1i 89 (by decide +kernel) (by decide +kernel)
theorem q90 : Cond.classLink "PlantServerLaw" 16 "java/lang/IllegalArgumentException" ∈ T0 := q1i 90 (by decide +kernel) (by decide +kernel)
theorem q91 : Cond.classLink "PlantServerLaw" 22 "java/lang/IllegalStateException" ∈ T0 := q1i 91 (by decide +kernel) (by decide +kernel)
theorem q92 : Cond.methodLink "PlantServerLaw" 18 ⟨"PlantServer", "open", "(IIIII)I"⟩ ∈ T0 := q1i 92 (by decide +kernel) (by decide +kernel)
theorem q93 : Cond.instanceMethod ⟨"PlantServer", "open", "(IIIII)I"⟩ ∈ T0 := q1i 93 (by decide +kernel) (by decide +kernel)
theorem q94 : Cond.selects "PlantServer" ⟨"PlantServer", "open", "(IIIII)I"⟩ ⟨"PlantServer", "open", "(IIIII)I"⟩ ∈ T0 := q1i 94 (by decide +kernel) (by decide +kernel)
theorem q95 : Cond.code ⟨"PlantServer", "open", "(IIIII)I"⟩ prog_1_method_3_code 8 (some FieldType.int) ∈ T0 := q1i 95 (by decide +kernel) (by decide +kernel)
theorem q96 : Cond.methodLink "PlantServer" 52 ⟨"PlantServer", "checkRange", "(III)V"⟩ ∈ T0 := q1i 96 (by decide +kernel) (by decide +kernel)
theorem q97 : Cond.static ⟨"PlantServer", "checkRange", "(III)V"⟩ ∈ T0 := q1i 97 (by decide +kernel) (by decide +kernel)
theorem q98 : Cond.code ⟨"PlantServer", "checkRange", "(III)V"⟩ prog_1_method_23_code 3 none ∈ T0 := q1i 98 (by decide +kernel) (by decide +kernel)
theorem q99 : Cond.classLink "PlantServer" 109 "java/lang/IllegalArgumentException" ∈ T0 := q1i 99 (by decide +kernel) (by decide +kernel)
theorem q100 : Cond.instantiable "java/lang/IllegalArgumentException" 6 ∈ T0 := q1i 100 (by decide +kernel) (by decide +kernel)
theorem q108 : Cond.selects "java/lang/IllegalArgumentException" ⟨"java/lang/Throwable", "fillInStackTrace", "(I)Ljava/lang/Throwable;"⟩ ⟨"java/lang/Throwable", "fillInStackTrace", "(I)Ljava/lang/Throwable;"⟩ ∈ T0 := q1i 108 (by decide +kernel) (by decide +kernel)
theorem q109 : Cond.selects "java/lang/IllegalArgumentException" ⟨"java/lang/Throwable", "fillInStackTrace", "()Ljava/lang/Throwable;"⟩ ⟨"java/lang/Throwable", "fillInStackTrace", "()Ljava/lang/Throwable;"⟩ ∈ T0 := q1i 109 (by decide +kernel) (by decide +kernel)
theorem q120 : Cond.fieldLink "java/lang/Throwable" 198 "java/lang/Throwable" "backtrace" "Ljava/lang/Object;" ∈ T0 := q1i 120 (by decide +kernel) (by decide +kernel)
theorem q123 : Cond.code ⟨"java/lang/Throwable", "<init>", "()V"⟩ prog_18_method_1_code 1 none ∈ T0 := q1i 123 (by decide +kernel) (by decide +kernel)
theorem q124 : Cond.methodLink "java/lang/Throwable" 1 ⟨"java/lang/Object", "<init>", "()V"⟩ ∈ T0 := q1i 124 (by decide +kernel) (by decide +kernel)
theorem q125 : Cond.fieldLink "java/lang/Throwable" 13 "java/lang/Throwable" "UNASSIGNED_STACK" "[Ljava/lang/StackTraceElement;" ∈ T0 := q1i 125 (by decide +kernel) (by decide +kernel)
theorem q127 : Cond.fieldLink "java/lang/Throwable" 20 "java/lang/Throwable" "SUPPRESSED_SENTINEL" "Ljava/util/List;" ∈ T0 := q1i 127 (by decide +kernel) (by decide +kernel)
theorem q129 : Cond.methodLink "java/lang/Throwable" 27 ⟨"java/lang/Throwable", "fillInStackTrace", "()Ljava/lang/Throwable;"⟩ ∈ T0 := q1i 129 (by decide +kernel) (by decide +kernel)
theorem q132 : Cond.selects "java/lang/IllegalStateException" ⟨"java/lang/Throwable", "fillInStackTrace", "()Ljava/lang/Throwable;"⟩ ⟨"java/lang/Throwable", "fillInStackTrace", "()Ljava/lang/Throwable;"⟩ ∈ T0 := q1i 132 (by decide +kernel) (by decide +kernel)
theorem q133 : Cond.selects "java/lang/IndexOutOfBoundsException" ⟨"java/lang/Throwable", "fillInStackTrace", "()Ljava/lang/Throwable;"⟩ ⟨"java/lang/Throwable", "fillInStackTrace", "()Ljava/lang/Throwable;"⟩ ∈ T0 := q1i 133 (by decide +kernel) (by decide +kernel)
theorem q134 : Cond.selects "java/util/NoSuchElementException" ⟨"java/lang/Throwable", "fillInStackTrace", "()Ljava/lang/Throwable;"⟩ ⟨"java/lang/Throwable", "fillInStackTrace", "()Ljava/lang/Throwable;"⟩ ∈ T0 := q1i 134 (by decide +kernel) (by decide +kernel)
theorem q136 : Cond.methodLink "java/lang/Throwable" 202 ⟨"java/lang/Throwable", "fillInStackTrace", "(I)Ljava/lang/Throwable;"⟩ ∈ T0 := q1i 136 (by decide +kernel) (by decide +kernel)
theorem q139 : Cond.instantiable "java/lang/Throwable" 6 ∈ T0 := q1i 139 (by decide +kernel) (by decide +kernel)
theorem q142 : Cond.methodLink "PlantServer" 113 ⟨"java/lang/IllegalArgumentException", "<init>", "(Ljava/lang/String;)V"⟩ ∈ T0 := q1i 142 (by decide +kernel) (by decide +kernel)
theorem q144 : Cond.code ⟨"java/lang/IllegalArgumentException", "<init>", "(Ljava/lang/String;)V"⟩ prog_12_method_2_code 2 none ∈ T0 := q1i 144 (by decide +kernel) (by decide +kernel)
theorem q145 : Cond.methodLink "java/lang/IllegalArgumentException" 7 ⟨"java/lang/RuntimeException", "<init>", "(Ljava/lang/String;)V"⟩ ∈ T0 := q1i 145 (by decide +kernel) (by decide +kernel)
theorem q147 : Cond.code ⟨"java/lang/RuntimeException", "<init>", "(Ljava/lang/String;)V"⟩ prog_16_method_2_code 2 none ∈ T0 := q1i 147 (by decide +kernel) (by decide +kernel)
theorem q148 : Cond.methodLink "java/lang/RuntimeException" 7 ⟨"java/lang/Exception", "<init>", "(Ljava/lang/String;)V"⟩ ∈ T0 := q1i 148 (by decide +kernel) (by decide +kernel)
theorem q150 : Cond.code ⟨"java/lang/Exception", "<init>", "(Ljava/lang/String;)V"⟩ prog_11_method_2_code 2 none ∈ T0 := q1i 150 (by decide +kernel) (by decide +kernel)
theorem q151 : Cond.methodLink "java/lang/Exception" 7 ⟨"java/lang/Throwable", "<init>", "(Ljava/lang/String;)V"⟩ ∈ T0 := q1i 151 (by decide +kernel) (by decide +kernel)
theorem q153 : Cond.code ⟨"java/lang/Throwable", "<init>", "(Ljava/lang/String;)V"⟩ prog_18_method_2_code 2 none ∈ T0 := q1i 153 (by decide +kernel) (by decide +kernel)
theorem q154 : Cond.fieldLink "java/lang/Throwable" 198 "java/lang/Throwable" "backtrace" "Ljava/lang/Object;" ∈ T0 := q1i 154 (by decide +kernel) (by decide +kernel)
theorem q155 : Cond.fieldLink "java/lang/Throwable" 31 "java/lang/Throwable" "detailMessage" "Ljava/lang/String;" ∈ T0 := q1i 155 (by decide +kernel) (by decide +kernel)
theorem q156 : Cond.fieldLink "java/lang/Throwable" 7 "java/lang/Throwable" "cause" "Ljava/lang/Throwable;" ∈ T0 := q1i 156 (by decide +kernel) (by decide +kernel)
theorem q157 : Cond.fieldLink "java/lang/Throwable" 17 "java/lang/Throwable" "stackTrace" "[Ljava/lang/StackTraceElement;" ∈ T0 := q1i 157 (by decide +kernel) (by decide +kernel)
theorem q158 : Cond.fieldLink "java/lang/Throwable" 24 "java/lang/Throwable" "suppressedExceptions" "Ljava/util/List;" ∈ T0 := q1i 158 (by decide +kernel) (by decide +kernel)
theorem q167 : Cond.arrayClass FieldType.byte ∈ T0 := q1i 167 (by decide +kernel) (by decide +kernel)
theorem q168 : Cond.classLink "PlantServer" 59 "java/lang/IllegalStateException" ∈ T0 := q1i 168 (by decide +kernel) (by decide +kernel)
theorem q169 : Cond.instantiable "java/lang/IllegalStateException" 6 ∈ T0 := q1i 169 (by decide +kernel) (by decide +kernel)
theorem q171 : Cond.selects "java/lang/IllegalStateException" ⟨"java/lang/Throwable", "fillInStackTrace", "(I)Ljava/lang/Throwable;"⟩ ⟨"java/lang/Throwable", "fillInStackTrace", "(I)Ljava/lang/Throwable;"⟩ ∈ T0 := q1i 171 (by decide +kernel) (by decide +kernel)
theorem q178 : Cond.methodLink "PlantServer" 63 ⟨"java/lang/IllegalStateException", "<init>", "(Ljava/lang/String;)V"⟩ ∈ T0 := q1i 178 (by decide +kernel) (by decide +kernel)
theorem q180 : Cond.code ⟨"java/lang/IllegalStateException", "<init>", "(Ljava/lang/String;)V"⟩ prog_13_method_2_code 2 none ∈ T0 := q1i 180 (by decide +kernel) (by decide +kernel)
theorem q181 : Cond.methodLink "java/lang/IllegalStateException" 7 ⟨"java/lang/RuntimeException", "<init>", "(Ljava/lang/String;)V"⟩ ∈ T0 := q1i 181 (by decide +kernel) (by decide +kernel)
theorem q184 : Cond.instantiable "PlantServer$Subscription" 14 ∈ T0 := q1i 184 (by decide +kernel) (by decide +kernel)
theorem q185 : Cond.methodLink "PlantServer" 66 ⟨"PlantServer$Subscription", "<init>", "(IIIII)V"⟩ ∈ T0 := q1i 185 (by decide +kernel) (by decide +kernel)
theorem q186 : Cond.instanceMethod ⟨"PlantServer$Subscription", "<init>", "(IIIII)V"⟩ ∈ T0 := q1i 186 (by decide +kernel) (by decide +kernel)
theorem q187 : Cond.code ⟨"PlantServer$Subscription", "<init>", "(IIIII)V"⟩ prog_6_method_1_code 6 none ∈ T0 := q1i 187 (by decide +kernel) (by decide +kernel)
theorem q188 : Cond.methodLink "PlantServer$Subscription" 3 ⟨"java/lang/Object", "<init>", "()V"⟩ ∈ T0 := q1i 188 (by decide +kernel) (by decide +kernel)
theorem q189 : Cond.classLink "PlantServer$Subscription" 9 "PlantServer$Item" ∈ T0 := q1i 189 (by decide +kernel) (by decide +kernel)
theorem q190 : Cond.classLink "PlantServer$Subscription" 17 "PlantServer$Message" ∈ T0 := q1i 190 (by decide +kernel) (by decide +kernel)
theorem q192 : Cond.classLink "PlantServer$Subscription" 46 "PlantServer$Timer" ∈ T0 := q1i 192 (by decide +kernel) (by decide +kernel)
theorem q193 : Cond.instantiable "PlantServer$Timer" 2 ∈ T0 := q1i 193 (by decide +kernel) (by decide +kernel)
theorem q194 : Cond.methodLink "PlantServer$Subscription" 48 ⟨"PlantServer$Timer", "<init>", "(I)V"⟩ ∈ T0 := q1i 194 (by decide +kernel) (by decide +kernel)
theorem q195 : Cond.instanceMethod ⟨"PlantServer$Timer", "<init>", "(I)V"⟩ ∈ T0 := q1i 195 (by decide +kernel) (by decide +kernel)
theorem q196 : Cond.code ⟨"PlantServer$Timer", "<init>", "(I)V"⟩ prog_7_method_1_code 2 none ∈ T0 := q1i 196 (by decide +kernel) (by decide +kernel)
theorem q197 : Cond.methodLink "PlantServer$Timer" 1 ⟨"java/lang/Object", "<init>", "()V"⟩ ∈ T0 := q1i 197 (by decide +kernel) (by decide +kernel)
theorem q198 : Cond.fieldLink "PlantServer$Timer" 7 "PlantServer$Timer" "every" "I" ∈ T0 := q1i 198 (by decide +kernel) (by decide +kernel)
theorem q199 : Cond.fieldLink "PlantServer$History" 52 "PlantServer$Timer" "every" "I" ∈ T0 := q1i 199 (by decide +kernel) (by decide +kernel)
theorem q200 : Cond.fieldLink "PlantServer$Timer" 13 "PlantServer$Timer" "left" "I" ∈ T0 := q1i 200 (by decide +kernel) (by decide +kernel)
theorem q206 : Cond.fieldLink "PlantServer$Subscription" 51 "PlantServer$Subscription" "timer" "LPlantServer$Timer;" ∈ T0 := q1i 206 (by decide +kernel) (by decide +kernel)
theorem q207 : Cond.fieldLink "PlantServer" 224 "PlantServer$Subscription" "timer" "LPlantServer$Timer;" ∈ T0 := q1i 207 (by decide +kernel) (by decide +kernel)
theorem q208 : Cond.fieldLink "PlantServer$Subscription" 55 "PlantServer$Subscription" "idle" "I" ∈ T0 := q1i 208 (by decide +kernel) (by decide +kernel)
theorem q209 : Cond.fieldLink "PlantServer$Subscription" 58 "PlantServer$Subscription" "life" "I" ∈ T0 := q1i 209 (by decide +kernel) (by decide +kernel)
theorem q210 : Cond.fieldLink "PlantServer$Subscription" 61 "PlantServer$Subscription" "priority" "I" ∈ T0 := q1i 210 (by decide +kernel) (by decide +kernel)
theorem q211 : Cond.fieldLink "PlantServer" 205 "PlantServer$Subscription" "priority" "I" ∈ T0 := q1i 211 (by decide +kernel) (by decide +kernel)
theorem q212 : Cond.fieldLink "PlantServer$Subscription" 64 "PlantServer$Subscription" "most" "I" ∈ T0 := q1i 212 (by decide +kernel) (by decide +kernel)
theorem q213 : Cond.fieldLink "PlantServer$Subscription" 11 "PlantServer$Subscription" "items" "[LPlantServer$Item;" ∈ T0 := q1i 213 (by decide +kernel) (by decide +kernel)
theorem q214 : Cond.fieldLink "PlantServer$Subscription" 19 "PlantServer$Subscription" "messages" "[LPlantServer$Message;" ∈ T0 := q1i 214 (by decide +kernel) (by decide +kernel)
theorem q215 : Cond.fieldLink "PlantServer$Subscription" 23 "PlantServer$Subscription" "isLive" "Z" ∈ T0 := q1i 215 (by decide +kernel) (by decide +kernel)
theorem q216 : Cond.fieldLink "PlantServer" 77 "PlantServer$Subscription" "isLive" "Z" ∈ T0 := q1i 216 (by decide +kernel) (by decide +kernel)
theorem q217 : Cond.fieldLink "PlantServer$Subscription" 27 "PlantServer$Subscription" "itemCount" "I" ∈ T0 := q1i 217 (by decide +kernel) (by decide +kernel)
theorem q218 : Cond.fieldLink "PlantServer" 81 "PlantServer$Subscription" "itemCount" "I" ∈ T0 := q1i 218 (by decide +kernel) (by decide +kernel)
theorem q219 : Cond.fieldLink "PlantServer$Subscription" 31 "PlantServer$Subscription" "keptCount" "I" ∈ T0 := q1i 219 (by decide +kernel) (by decide +kernel)
theorem q220 : Cond.fieldLink "PlantServer$Subscription" 34 "PlantServer$Subscription" "lastNumber" "I" ∈ T0 := q1i 220 (by decide +kernel) (by decide +kernel)
theorem q221 : Cond.fieldLink "PlantServer" 165 "PlantServer$Subscription" "lastNumber" "I" ∈ T0 := q1i 221 (by decide +kernel) (by decide +kernel)
theorem q222 : Cond.fieldLink "PlantServer$Subscription" 37 "PlantServer$Subscription" "keepAliveCount" "I" ∈ T0 := q1i 222 (by decide +kernel) (by decide +kernel)
theorem q223 : Cond.fieldLink "PlantServer" 168 "PlantServer$Subscription" "keepAliveCount" "I" ∈ T0 := q1i 223 (by decide +kernel) (by decide +kernel)
theorem q224 : Cond.fieldLink "PlantServer$Subscription" 40 "PlantServer$Subscription" "idleRow" "I" ∈ T0 := q1i 224 (by decide +kernel) (by decide +kernel)
theorem q225 : Cond.fieldLink "PlantServer$Subscription" 43 "PlantServer$Subscription" "lostRow" "I" ∈ T0 := q1i 225 (by decide +kernel) (by decide +kernel)
theorem q255 : Cond.methodLink "PlantServer" 69 ⟨"PlantServer", "putInTurn", "(LPlantServer$Subscription;I)V"⟩ ∈ T0 := q2i 15 (by decide +kernel) (by decide +kernel)
theorem q257 : Cond.instanceMethod ⟨"PlantServer", "putInTurn", "(LPlantServer$Subscription;I)V"⟩ ∈ T0 := q2i 17 (by decide +kernel) (by decide +kernel)
theorem q258 : Cond.code ⟨"PlantServer", "putInTurn", "(LPlantServer$Subscription;I)V"⟩ prog_1_method_28_code 5 none ∈ T0 := q2i 18 (by decide +kernel) (by decide +kernel)
theorem q259 : Cond.methodLink "PlantServerLaw" 99 ⟨"PlantServerLaw", "isOpen", "(LPlantServer;I)I"⟩ ∈ T0 := q2i 19 (by decide +kernel) (by decide +kernel)
theorem q260 : Cond.static ⟨"PlantServerLaw", "isOpen", "(LPlantServer;I)I"⟩ ∈ T0 := q2i 20 (by decide +kernel) (by decide +kernel)
theorem q261 : Cond.codeWith ⟨"PlantServerLaw", "isOpen", "(LPlantServer;I)I"⟩ method_21_code 4 (some FieldType.int) [(0, 6, 9, 16)] ∈ T0 := q2i 21 (by decide +kernel) (by decide +kernel)
theorem q262 : Cond.methodLink "PlantServerLaw" 79 ⟨"PlantServer", "isOpen", "(I)Z"⟩ ∈ T0 := q2i 22 (by decide +kernel) (by decide +kernel)
theorem q263 : Cond.instanceMethod ⟨"PlantServer", "isOpen", "(I)Z"⟩ ∈ T0 := q2i 23 (by decide +kernel) (by decide +kernel)
theorem q264 : Cond.selects "PlantServer" ⟨"PlantServer", "isOpen", "(I)Z"⟩ ⟨"PlantServer", "isOpen", "(I)Z"⟩ ∈ T0 := q2i 24 (by decide +kernel) (by decide +kernel)
theorem q265 : Cond.code ⟨"PlantServer", "isOpen", "(I)Z"⟩ prog_1_method_22_code 3 (some FieldType.boolean) ∈ T0 := q2i 25 (by decide +kernel) (by decide +kernel)
theorem q266 : Cond.methodLink "PlantServerLaw" 102 ⟨"PlantServerLaw", "close", "(LPlantServer;I)I"⟩ ∈ T0 := q2i 26 (by decide +kernel) (by decide +kernel)
theorem q267 : Cond.static ⟨"PlantServerLaw", "close", "(LPlantServer;I)I"⟩ ∈ T0 := q2i 27 (by decide +kernel) (by decide +kernel)
theorem q268 : Cond.codeWith ⟨"PlantServerLaw", "close", "(LPlantServer;I)I"⟩ method_6_code 4 (some FieldType.int) [(0, 6, 9, 14)] ∈ T0 := q2i 28 (by decide +kernel) (by decide +kernel)
theorem q269 : Cond.classLink "PlantServerLaw" 14 "java/lang/IndexOutOfBoundsException" ∈ T0 := q2i 29 (by decide +kernel) (by decide +kernel)
theorem q270 : Cond.methodLink "PlantServerLaw" 24 ⟨"PlantServer", "close", "(I)I"⟩ ∈ T0 := q2i 30 (by decide +kernel) (by decide +kernel)
theorem q271 : Cond.instanceMethod ⟨"PlantServer", "close", "(I)I"⟩ ∈ T0 := q2i 31 (by decide +kernel) (by decide +kernel)
theorem q272 : Cond.selects "PlantServer" ⟨"PlantServer", "close", "(I)I"⟩ ⟨"PlantServer", "close", "(I)I"⟩ ∈ T0 := q2i 32 (by decide +kernel) (by decide +kernel)
theorem q273 : Cond.code ⟨"PlantServer", "close", "(I)I"⟩ prog_1_method_4_code 3 (some FieldType.int) ∈ T0 := q2i 33 (by decide +kernel) (by decide +kernel)
theorem q274 : Cond.methodLink "PlantServer" 73 ⟨"PlantServer", "openSubscription", "(I)LPlantServer$Subscription;"⟩ ∈ T0 := q2i 34 (by decide +kernel) (by decide +kernel)
theorem q276 : Cond.instanceMethod ⟨"PlantServer", "openSubscription", "(I)LPlantServer$Subscription;"⟩ ∈ T0 := q2i 36 (by decide +kernel) (by decide +kernel)
theorem q277 : Cond.code ⟨"PlantServer", "openSubscription", "(I)LPlantServer$Subscription;"⟩ prog_1_method_25_code 3 (some (FieldType.object "PlantServer$Subscription")) ∈ T0 := q2i 37 (by decide +kernel) (by decide +kernel)
theorem q278 : Cond.classLink "PlantServer" 185 "java/lang/IndexOutOfBoundsException" ∈ T0 := q2i 38 (by decide +kernel) (by decide +kernel)
theorem q279 : Cond.instantiable "java/lang/IndexOutOfBoundsException" 6 ∈ T0 := q2i 39 (by decide +kernel) (by decide +kernel)
theorem q281 : Cond.selects "java/lang/IndexOutOfBoundsException" ⟨"java/lang/Throwable", "fillInStackTrace", "(I)Ljava/lang/Throwable;"⟩ ⟨"java/lang/Throwable", "fillInStackTrace", "(I)Ljava/lang/Throwable;"⟩ ∈ T0 := q2i 41 (by decide +kernel) (by decide +kernel)
theorem q288 : Cond.methodLink "PlantServer" 189 ⟨"java/lang/IndexOutOfBoundsException", "<init>", "(Ljava/lang/String;)V"⟩ ∈ T0 := q2i 48 (by decide +kernel) (by decide +kernel)
theorem q290 : Cond.code ⟨"java/lang/IndexOutOfBoundsException", "<init>", "(Ljava/lang/String;)V"⟩ prog_14_method_2_code 2 none ∈ T0 := q2i 50 (by decide +kernel) (by decide +kernel)
theorem q291 : Cond.methodLink "java/lang/IndexOutOfBoundsException" 7 ⟨"java/lang/RuntimeException", "<init>", "(Ljava/lang/String;)V"⟩ ∈ T0 := q2i 51 (by decide +kernel) (by decide +kernel)
theorem q295 : Cond.methodLink "PlantServerLaw" 104 ⟨"PlantServerLaw", "add", "(LPlantServer;IIIIZI)I"⟩ ∈ T0 := q2i 55 (by decide +kernel) (by decide +kernel)
theorem q296 : Cond.static ⟨"PlantServerLaw", "add", "(LPlantServer;IIIIZI)I"⟩ ∈ T0 := q2i 56 (by decide +kernel) (by decide +kernel)
theorem q297 : Cond.codeWith ⟨"PlantServerLaw", "add", "(LPlantServer;IIIIZI)I"⟩ method_7_code 9 (some FieldType.int) [(0, 15, 18, 14), (0, 15, 24, 16), (0, 15, 30, 22)] ∈ T0 := q2i 57 (by decide +kernel) (by decide +kernel)
theorem q298 : Cond.methodLink "PlantServerLaw" 28 ⟨"PlantServer", "add", "(IIIIZI)I"⟩ ∈ T0 := q2i 58 (by decide +kernel) (by decide +kernel)
theorem q299 : Cond.instanceMethod ⟨"PlantServer", "add", "(IIIIZI)I"⟩ ∈ T0 := q2i 59 (by decide +kernel) (by decide +kernel)
theorem q300 : Cond.selects "PlantServer" ⟨"PlantServer", "add", "(IIIIZI)I"⟩ ⟨"PlantServer", "add", "(IIIIZI)I"⟩ ∈ T0 := q2i 60 (by decide +kernel) (by decide +kernel)
theorem q301 : Cond.code ⟨"PlantServer", "add", "(IIIIZI)I"⟩ prog_1_method_5_code 10 (some FieldType.int) ∈ T0 := q2i 61 (by decide +kernel) (by decide +kernel)
theorem q302 : Cond.methodLink "PlantServer" 48 ⟨"PlantServer", "checkNode", "(I)V"⟩ ∈ T0 := q2i 62 (by decide +kernel) (by decide +kernel)
theorem q303 : Cond.static ⟨"PlantServer", "checkNode", "(I)V"⟩ ∈ T0 := q2i 63 (by decide +kernel) (by decide +kernel)
theorem q304 : Cond.code ⟨"PlantServer", "checkNode", "(I)V"⟩ prog_1_method_24_code 1 none ∈ T0 := q2i 64 (by decide +kernel) (by decide +kernel)
theorem q307 : Cond.instantiable "PlantServer$Item" 12 ∈ T0 := q2i 67 (by decide +kernel) (by decide +kernel)
theorem q308 : Cond.classLink "PlantServer" 84 "PlantServer$Queue" ∈ T0 := q2i 68 (by decide +kernel) (by decide +kernel)
theorem q309 : Cond.instantiable "PlantServer$Queue" 5 ∈ T0 := q2i 69 (by decide +kernel) (by decide +kernel)
theorem q310 : Cond.methodLink "PlantServer" 86 ⟨"PlantServer$Queue", "<init>", "(IZ)V"⟩ ∈ T0 := q2i 70 (by decide +kernel) (by decide +kernel)
theorem q311 : Cond.instanceMethod ⟨"PlantServer$Queue", "<init>", "(IZ)V"⟩ ∈ T0 := q2i 71 (by decide +kernel) (by decide +kernel)
theorem q312 : Cond.code ⟨"PlantServer$Queue", "<init>", "(IZ)V"⟩ prog_5_method_1_code 3 none ∈ T0 := q2i 72 (by decide +kernel) (by decide +kernel)
theorem q313 : Cond.methodLink "PlantServer$Queue" 3 ⟨"java/lang/Object", "<init>", "()V"⟩ ∈ T0 := q2i 73 (by decide +kernel) (by decide +kernel)
theorem q314 : Cond.fieldLink "PlantServer$Queue" 23 "PlantServer$Queue" "size" "I" ∈ T0 := q2i 74 (by decide +kernel) (by decide +kernel)
theorem q315 : Cond.fieldLink "PlantServer$Queue" 26 "PlantServer$Queue" "dropsOldest" "Z" ∈ T0 := q2i 75 (by decide +kernel) (by decide +kernel)
theorem q316 : Cond.fieldLink "PlantServer$Queue" 9 "PlantServer$Queue" "values" "[I" ∈ T0 := q2i 76 (by decide +kernel) (by decide +kernel)
theorem q317 : Cond.fieldLink "PlantServer$Item" 80 "PlantServer$Queue" "values" "[I" ∈ T0 := q2i 77 (by decide +kernel) (by decide +kernel)
theorem q318 : Cond.fieldLink "PlantServer$Queue" 15 "PlantServer$Queue" "marks" "[Z" ∈ T0 := q2i 78 (by decide +kernel) (by decide +kernel)
theorem q319 : Cond.fieldLink "PlantServer$Item" 84 "PlantServer$Queue" "marks" "[Z" ∈ T0 := q2i 79 (by decide +kernel) (by decide +kernel)
theorem q320 : Cond.fieldLink "PlantServer$Queue" 19 "PlantServer$Queue" "count" "I" ∈ T0 := q2i 80 (by decide +kernel) (by decide +kernel)
theorem q321 : Cond.fieldLink "PlantServer$Subscription" 71 "PlantServer$Queue" "count" "I" ∈ T0 := q2i 81 (by decide +kernel) (by decide +kernel)
theorem q322 : Cond.fieldLink "PlantServer$Item" 68 "PlantServer$Queue" "count" "I" ∈ T0 := q2i 82 (by decide +kernel) (by decide +kernel)
theorem q323 : Cond.fieldLink "PlantServer" 175 "PlantServer$Queue" "count" "I" ∈ T0 := q2i 83 (by decide +kernel) (by decide +kernel)
theorem q335 : Cond.arrayClass FieldType.boolean ∈ T0 := q2i 95 (by decide +kernel) (by decide +kernel)
theorem q336 : Cond.methodLink "PlantServer" 89 ⟨"PlantServer$Item", "<init>", "(ILPlantServer$Subscription;IIILPlantServer$Queue;)V"⟩ ∈ T0 := q2i 96 (by decide +kernel) (by decide +kernel)
theorem q337 : Cond.instanceMethod ⟨"PlantServer$Item", "<init>", "(ILPlantServer$Subscription;IIILPlantServer$Queue;)V"⟩ ∈ T0 := q2i 97 (by decide +kernel) (by decide +kernel)
theorem q338 : Cond.code ⟨"PlantServer$Item", "<init>", "(ILPlantServer$Subscription;IIILPlantServer$Queue;)V"⟩ prog_3_method_1_code 7 none ∈ T0 := q2i 98 (by decide +kernel) (by decide +kernel)
theorem q339 : Cond.methodLink "PlantServer$Item" 1 ⟨"java/lang/Object", "<init>", "()V"⟩ ∈ T0 := q2i 99 (by decide +kernel) (by decide +kernel)
theorem q340 : Cond.classLink "PlantServer$Item" 42 "PlantServer$Timer" ∈ T0 := q2i 100 (by decide +kernel) (by decide +kernel)
theorem q341 : Cond.methodLink "PlantServer$Item" 44 ⟨"PlantServer$Timer", "<init>", "(I)V"⟩ ∈ T0 := q2i 101 (by decide +kernel) (by decide +kernel)
theorem q342 : Cond.fieldLink "PlantServer$Item" 29 "PlantServer$Item" "number" "I" ∈ T0 := q2i 102 (by decide +kernel) (by decide +kernel)
theorem q343 : Cond.fieldLink "PlantServer$Subscription" 76 "PlantServer$Item" "number" "I" ∈ T0 := q2i 103 (by decide +kernel) (by decide +kernel)
theorem q344 : Cond.fieldLink "PlantServer" 120 "PlantServer$Item" "number" "I" ∈ T0 := q2i 104 (by decide +kernel) (by decide +kernel)
theorem q345 : Cond.fieldLink "PlantServer$Item" 32 "PlantServer$Item" "owner" "LPlantServer$Subscription;" ∈ T0 := q2i 105 (by decide +kernel) (by decide +kernel)
theorem q346 : Cond.fieldLink "PlantServer" 114 "PlantServer$Item" "owner" "LPlantServer$Subscription;" ∈ T0 := q2i 106 (by decide +kernel) (by decide +kernel)
theorem q347 : Cond.fieldLink "PlantServer$Item" 36 "PlantServer$Item" "node" "I" ∈ T0 := q2i 107 (by decide +kernel) (by decide +kernel)
theorem q348 : Cond.fieldLink "PlantServer$History" 30 "PlantServer$Item" "node" "I" ∈ T0 := q2i 108 (by decide +kernel) (by decide +kernel)
theorem q349 : Cond.fieldLink "PlantServer" 218 "PlantServer$Item" "node" "I" ∈ T0 := q2i 109 (by decide +kernel) (by decide +kernel)
theorem q350 : Cond.fieldLink "PlantServer$Item" 39 "PlantServer$Item" "band" "I" ∈ T0 := q2i 110 (by decide +kernel) (by decide +kernel)
theorem q351 : Cond.fieldLink "PlantServer$Item" 47 "PlantServer$Item" "timer" "LPlantServer$Timer;" ∈ T0 := q2i 111 (by decide +kernel) (by decide +kernel)
theorem q352 : Cond.fieldLink "PlantServer$History" 48 "PlantServer$Item" "timer" "LPlantServer$Timer;" ∈ T0 := q2i 112 (by decide +kernel) (by decide +kernel)
theorem q353 : Cond.fieldLink "PlantServer" 208 "PlantServer$Item" "timer" "LPlantServer$Timer;" ∈ T0 := q2i 113 (by decide +kernel) (by decide +kernel)
theorem q354 : Cond.fieldLink "PlantServer$Item" 51 "PlantServer$Item" "queue" "LPlantServer$Queue;" ∈ T0 := q2i 114 (by decide +kernel) (by decide +kernel)
theorem q355 : Cond.fieldLink "PlantServer$Subscription" 67 "PlantServer$Item" "queue" "LPlantServer$Queue;" ∈ T0 := q2i 115 (by decide +kernel) (by decide +kernel)
theorem q356 : Cond.fieldLink "PlantServer" 171 "PlantServer$Item" "queue" "LPlantServer$Queue;" ∈ T0 := q2i 116 (by decide +kernel) (by decide +kernel)
theorem q357 : Cond.fieldLink "PlantServer$Item" 7 "PlantServer$Item" "reports" "Z" ∈ T0 := q2i 117 (by decide +kernel) (by decide +kernel)
theorem q358 : Cond.fieldLink "PlantServer$Subscription" 79 "PlantServer$Item" "reports" "Z" ∈ T0 := q2i 118 (by decide +kernel) (by decide +kernel)
theorem q359 : Cond.fieldLink "PlantServer" 106 "PlantServer$Item" "reports" "Z" ∈ T0 := q2i 119 (by decide +kernel) (by decide +kernel)
theorem q360 : Cond.fieldLink "PlantServer$Item" 13 "PlantServer$Item" "triggers" "I" ∈ T0 := q2i 120 (by decide +kernel) (by decide +kernel)
theorem q361 : Cond.fieldLink "PlantServer$Subscription" 82 "PlantServer$Item" "triggers" "I" ∈ T0 := q2i 121 (by decide +kernel) (by decide +kernel)
theorem q362 : Cond.fieldLink "PlantServer$Item" 17 "PlantServer$Item" "queuedCount" "I" ∈ T0 := q2i 122 (by decide +kernel) (by decide +kernel)
theorem q363 : Cond.fieldLink "PlantServer" 176 "PlantServer$Item" "queuedCount" "I" ∈ T0 := q2i 123 (by decide +kernel) (by decide +kernel)
theorem q364 : Cond.fieldLink "PlantServer$Item" 20 "PlantServer$Item" "lastQueued" "I" ∈ T0 := q2i 124 (by decide +kernel) (by decide +kernel)
theorem q365 : Cond.fieldLink "PlantServer$Item" 23 "PlantServer$Item" "addedAt" "I" ∈ T0 := q2i 125 (by decide +kernel) (by decide +kernel)
theorem q366 : Cond.fieldLink "PlantServer$History" 37 "PlantServer$Item" "addedAt" "I" ∈ T0 := q2i 126 (by decide +kernel) (by decide +kernel)
theorem q367 : Cond.fieldLink "PlantServer$Item" 26 "PlantServer$Item" "writesBefore" "I" ∈ T0 := q2i 127 (by decide +kernel) (by decide +kernel)
theorem q368 : Cond.fieldLink "PlantServer$History" 25 "PlantServer$Item" "writesBefore" "I" ∈ T0 := q2i 128 (by decide +kernel) (by decide +kernel)
theorem q394 : Cond.methodLink "PlantServer" 92 ⟨"PlantServer$Subscription", "take", "(LPlantServer$Item;)V"⟩ ∈ T0 := q2i 154 (by decide +kernel) (by decide +kernel)
theorem q395 : Cond.instanceMethod ⟨"PlantServer$Subscription", "take", "(LPlantServer$Item;)V"⟩ ∈ T0 := q2i 155 (by decide +kernel) (by decide +kernel)
theorem q396 : Cond.selects "PlantServer$Subscription" ⟨"PlantServer$Subscription", "take", "(LPlantServer$Item;)V"⟩ ⟨"PlantServer$Subscription", "take", "(LPlantServer$Item;)V"⟩ ∈ T0 := q2i 156 (by decide +kernel) (by decide +kernel)
theorem q397 : Cond.code ⟨"PlantServer$Subscription", "take", "(LPlantServer$Item;)V"⟩ prog_6_method_2_code 2 none ∈ T0 := q2i 157 (by decide +kernel) (by decide +kernel)
theorem q398 : Cond.methodLink "PlantServer" 99 ⟨"PlantServer$Item", "begin", "(III)V"⟩ ∈ T0 := q2i 158 (by decide +kernel) (by decide +kernel)
theorem q399 : Cond.instanceMethod ⟨"PlantServer$Item", "begin", "(III)V"⟩ ∈ T0 := q2i 159 (by decide +kernel) (by decide +kernel)
theorem q400 : Cond.selects "PlantServer$Item" ⟨"PlantServer$Item", "begin", "(III)V"⟩ ⟨"PlantServer$Item", "begin", "(III)V"⟩ ∈ T0 := q2i 160 (by decide +kernel) (by decide +kernel)
theorem q401 : Cond.code ⟨"PlantServer$Item", "begin", "(III)V"⟩ prog_3_method_2_code 4 none ∈ T0 := q2i 161 (by decide +kernel) (by decide +kernel)
theorem q402 : Cond.methodLink "PlantServer$Item" 55 ⟨"PlantServer$Item", "enqueue", "(I)V"⟩ ∈ T0 := q2i 162 (by decide +kernel) (by decide +kernel)
theorem q404 : Cond.instanceMethod ⟨"PlantServer$Item", "enqueue", "(I)V"⟩ ∈ T0 := q2i 164 (by decide +kernel) (by decide +kernel)
theorem q405 : Cond.code ⟨"PlantServer$Item", "enqueue", "(I)V"⟩ prog_3_method_7_code 2 none ∈ T0 := q2i 165 (by decide +kernel) (by decide +kernel)
theorem q406 : Cond.methodLink "PlantServer$Item" 95 ⟨"PlantServer$Queue", "put", "(I)V"⟩ ∈ T0 := q2i 166 (by decide +kernel) (by decide +kernel)
theorem q407 : Cond.instanceMethod ⟨"PlantServer$Queue", "put", "(I)V"⟩ ∈ T0 := q2i 167 (by decide +kernel) (by decide +kernel)
theorem q408 : Cond.selects "PlantServer$Queue" ⟨"PlantServer$Queue", "put", "(I)V"⟩ ⟨"PlantServer$Queue", "put", "(I)V"⟩ ∈ T0 := q2i 168 (by decide +kernel) (by decide +kernel)
theorem q409 : Cond.code ⟨"PlantServer$Queue", "put", "(I)V"⟩ prog_5_method_2_code 2 none ∈ T0 := q2i 169 (by decide +kernel) (by decide +kernel)
theorem q410 : Cond.methodLink "PlantServer$Queue" 30 ⟨"PlantServer$Queue", "append", "(IZ)V"⟩ ∈ T0 := q2i 170 (by decide +kernel) (by decide +kernel)
theorem q412 : Cond.instanceMethod ⟨"PlantServer$Queue", "append", "(IZ)V"⟩ ∈ T0 := q2i 172 (by decide +kernel) (by decide +kernel)
theorem q413 : Cond.code ⟨"PlantServer$Queue", "append", "(IZ)V"⟩ prog_5_method_4_code 3 none ∈ T0 := q2i 173 (by decide +kernel) (by decide +kernel)
theorem q414 : Cond.methodLink "PlantServer$Queue" 34 ⟨"PlantServer$Queue", "dropFirst", "()V"⟩ ∈ T0 := q2i 174 (by decide +kernel) (by decide +kernel)
theorem q415 : Cond.instanceMethod ⟨"PlantServer$Queue", "dropFirst", "()V"⟩ ∈ T0 := q2i 175 (by decide +kernel) (by decide +kernel)
theorem q416 : Cond.selects "PlantServer$Queue" ⟨"PlantServer$Queue", "dropFirst", "()V"⟩ ⟨"PlantServer$Queue", "dropFirst", "()V"⟩ ∈ T0 := q2i 176 (by decide +kernel) (by decide +kernel)
theorem q417 : Cond.code ⟨"PlantServer$Queue", "dropFirst", "()V"⟩ prog_5_method_3_code 2 none ∈ T0 := q2i 177 (by decide +kernel) (by decide +kernel)
theorem q418 : Cond.methodLink "PlantServerLaw" 107 ⟨"PlantServerLaw", "queued", "(LPlantServer;I)I"⟩ ∈ T0 := q2i 178 (by decide +kernel) (by decide +kernel)
theorem q419 : Cond.static ⟨"PlantServerLaw", "queued", "(LPlantServer;I)I"⟩ ∈ T0 := q2i 179 (by decide +kernel) (by decide +kernel)
theorem q420 : Cond.codeWith ⟨"PlantServerLaw", "queued", "(LPlantServer;I)I"⟩ method_20_code 4 (some FieldType.int) [(0, 6, 9, 14)] ∈ T0 := q2i 180 (by decide +kernel) (by decide +kernel)
theorem q421 : Cond.methodLink "PlantServerLaw" 76 ⟨"PlantServer", "queued", "(I)I"⟩ ∈ T0 := q2i 181 (by decide +kernel) (by decide +kernel)
theorem q422 : Cond.instanceMethod ⟨"PlantServer", "queued", "(I)I"⟩ ∈ T0 := q2i 182 (by decide +kernel) (by decide +kernel)
theorem q423 : Cond.selects "PlantServer" ⟨"PlantServer", "queued", "(I)I"⟩ ⟨"PlantServer", "queued", "(I)I"⟩ ∈ T0 := q2i 183 (by decide +kernel) (by decide +kernel)
theorem q424 : Cond.code ⟨"PlantServer", "queued", "(I)I"⟩ prog_1_method_20_code 2 (some FieldType.int) ∈ T0 := q2i 184 (by decide +kernel) (by decide +kernel)
theorem q425 : Cond.methodLink "PlantServer" 102 ⟨"PlantServer", "liveItem", "(I)LPlantServer$Item;"⟩ ∈ T0 := q2i 185 (by decide +kernel) (by decide +kernel)
theorem q427 : Cond.instanceMethod ⟨"PlantServer", "liveItem", "(I)LPlantServer$Item;"⟩ ∈ T0 := q2i 187 (by decide +kernel) (by decide +kernel)
theorem q428 : Cond.code ⟨"PlantServer", "liveItem", "(I)LPlantServer$Item;"⟩ prog_1_method_26_code 3 (some (FieldType.object "PlantServer$Item")) ∈ T0 := q2i 188 (by decide +kernel) (by decide +kernel)
theorem q431 : Cond.constant "PlantServerLaw" 109 (32768 : Int32) ∈ T0 := q2i 191 (by decide +kernel) (by decide +kernel)
theorem q432 : Cond.methodLink "PlantServerLaw" 85 ⟨"PlantServerLaw", "sample", "(I[I[I[I[I[I[I)V"⟩ ∈ T0 := q2i 192 (by decide +kernel) (by decide +kernel)
theorem q433 : Cond.static ⟨"PlantServerLaw", "sample", "(I[I[I[I[I[I[I)V"⟩ ∈ T0 := q2i 193 (by decide +kernel) (by decide +kernel)
theorem q434 : Cond.code ⟨"PlantServerLaw", "sample", "(I[I[I[I[I[I[I)V"⟩ method_22_code 11 none ∈ T0 := q2i 194 rfl (by decide +kernel)
theorem q435 : Cond.methodLink "PlantServerLaw" 110 ⟨"PlantServerLaw", "isThere", "([I[I[II)Z"⟩ ∈ T0 := q2i 195 (by decide +kernel) (by decide +kernel)
theorem q436 : Cond.static ⟨"PlantServerLaw", "isThere", "([I[I[II)Z"⟩ ∈ T0 := q2i 196 (by decide +kernel) (by decide +kernel)
theorem q437 : Cond.code ⟨"PlantServerLaw", "isThere", "([I[I[II)Z"⟩ method_26_code 4 (some FieldType.boolean) ∈ T0 := q2i 197 (by decide +kernel) (by decide +kernel)
theorem q438 : Cond.methodLink "PlantServerLaw" 114 ⟨"PlantServerLaw", "setReporting", "(LPlantServer;IZ)I"⟩ ∈ T0 := q2i 198 (by decide +kernel) (by decide +kernel)
theorem q439 : Cond.static ⟨"PlantServerLaw", "setReporting", "(LPlantServer;IZ)I"⟩ ∈ T0 := q2i 199 (by decide +kernel) (by decide +kernel)
theorem q440 : Cond.codeWith ⟨"PlantServerLaw", "setReporting", "(LPlantServer;IZ)I"⟩ method_8_code 5 (some FieldType.int) [(0, 7, 10, 14)] ∈ T0 := q2i 200 (by decide +kernel) (by decide +kernel)
theorem q441 : Cond.methodLink "PlantServerLaw" 32 ⟨"PlantServer", "setReporting", "(IZ)Z"⟩ ∈ T0 := q2i 201 (by decide +kernel) (by decide +kernel)
theorem q442 : Cond.instanceMethod ⟨"PlantServer", "setReporting", "(IZ)Z"⟩ ∈ T0 := q2i 202 (by decide +kernel) (by decide +kernel)
theorem q443 : Cond.selects "PlantServer" ⟨"PlantServer", "setReporting", "(IZ)Z"⟩ ⟨"PlantServer", "setReporting", "(IZ)Z"⟩ ∈ T0 := q2i 203 (by decide +kernel) (by decide +kernel)
theorem q444 : Cond.code ⟨"PlantServer", "setReporting", "(IZ)Z"⟩ prog_1_method_6_code 5 (some FieldType.boolean) ∈ T0 := q2i 204 (by decide +kernel) (by decide +kernel)
theorem q445 : Cond.methodLink "PlantServerLaw" 117 ⟨"PlantServerLaw", "link", "(LPlantServer;IIZ)I"⟩ ∈ T0 := q2i 205 (by decide +kernel) (by decide +kernel)
theorem q446 : Cond.static ⟨"PlantServerLaw", "link", "(LPlantServer;IIZ)I"⟩ ∈ T0 := q2i 206 (by decide +kernel) (by decide +kernel)
theorem q447 : Cond.codeWith ⟨"PlantServerLaw", "link", "(LPlantServer;IIZ)I"⟩ method_9_code 6 (some FieldType.int) [(0, 9, 12, 14), (0, 9, 18, 16)] ∈ T0 := q2i 207 (by decide +kernel) (by decide +kernel)
theorem q448 : Cond.methodLink "PlantServerLaw" 36 ⟨"PlantServer", "link", "(IIZ)Z"⟩ ∈ T0 := q2i 208 (by decide +kernel) (by decide +kernel)
theorem q449 : Cond.instanceMethod ⟨"PlantServer", "link", "(IIZ)Z"⟩ ∈ T0 := q2i 209 (by decide +kernel) (by decide +kernel)
theorem q450 : Cond.selects "PlantServer" ⟨"PlantServer", "link", "(IIZ)Z"⟩ ⟨"PlantServer", "link", "(IIZ)Z"⟩ ∈ T0 := q2i 210 (by decide +kernel) (by decide +kernel)
theorem q451 : Cond.code ⟨"PlantServer", "link", "(IIZ)Z"⟩ prog_1_method_7_code 6 (some FieldType.boolean) ∈ T0 := q2i 211 (by decide +kernel) (by decide +kernel)
theorem q454 : Cond.methodLink "PlantServer" 123 ⟨"PlantServer$Item", "setTrigger", "(IZ)Z"⟩ ∈ T0 := q2i 214 (by decide +kernel) (by decide +kernel)
theorem q455 : Cond.instanceMethod ⟨"PlantServer$Item", "setTrigger", "(IZ)Z"⟩ ∈ T0 := q2i 215 (by decide +kernel) (by decide +kernel)
theorem q456 : Cond.selects "PlantServer$Item" ⟨"PlantServer$Item", "setTrigger", "(IZ)Z"⟩ ⟨"PlantServer$Item", "setTrigger", "(IZ)Z"⟩ ∈ T0 := q2i 216 (by decide +kernel) (by decide +kernel)
theorem q457 : Cond.code ⟨"PlantServer$Item", "setTrigger", "(IZ)Z"⟩ prog_3_method_5_code 5 (some FieldType.boolean) ∈ T0 := q2i 217 (by decide +kernel) (by decide +kernel)
theorem q458 : Cond.methodLink "PlantServerLaw" 176 ⟨"PlantServerLaw", "goes", "(LPlantServer;III[I[I[I[I[I[I[I[I[I[I[I[I)Z"⟩ ∈ T0 := q2i 218 (by decide +kernel) (by decide +kernel)
theorem q459 : Cond.static ⟨"PlantServerLaw", "goes", "(LPlantServer;III[I[I[I[I[I[I[I[I[I[I[I[I)Z"⟩ ∈ T0 := q2i 219 (by decide +kernel) (by decide +kernel)
theorem q460 : Cond.code ⟨"PlantServerLaw", "goes", "(LPlantServer;III[I[I[I[I[I[I[I[I[I[I[I[I)Z"⟩ method_28_code 20 (some FieldType.boolean) ∈ T0 := q2i 220 rfl (by decide +kernel)
theorem q461 : Cond.methodLink "PlantServerLaw" 120 ⟨"PlantServerLaw", "write", "(LPlantServer;II)I"⟩ ∈ T0 := q2i 221 (by decide +kernel) (by decide +kernel)
theorem q462 : Cond.static ⟨"PlantServerLaw", "write", "(LPlantServer;II)I"⟩ ∈ T0 := q2i 222 (by decide +kernel) (by decide +kernel)
theorem q463 : Cond.codeWith ⟨"PlantServerLaw", "write", "(LPlantServer;II)I"⟩ method_4_code 5 (some FieldType.int) [(0, 7, 10, 14), (0, 7, 16, 16)] ∈ T0 := q2i 223 (by decide +kernel) (by decide +kernel)
theorem q464 : Cond.methodLink "PlantServerLaw" 8 ⟨"PlantServer", "write", "(II)I"⟩ ∈ T0 := q2i 224 (by decide +kernel) (by decide +kernel)
theorem q465 : Cond.instanceMethod ⟨"PlantServer", "write", "(II)I"⟩ ∈ T0 := q2i 225 (by decide +kernel) (by decide +kernel)
theorem q466 : Cond.selects "PlantServer" ⟨"PlantServer", "write", "(II)I"⟩ ⟨"PlantServer", "write", "(II)I"⟩ ∈ T0 := q2i 226 (by decide +kernel) (by decide +kernel)
theorem q467 : Cond.code ⟨"PlantServer", "write", "(II)I"⟩ prog_1_method_2_code 4 (some FieldType.int) ∈ T0 := q2i 227 (by decide +kernel) (by decide +kernel)
theorem q468 : Cond.methodLink "PlantServer" 56 ⟨"PlantServer$History", "record", "(III)V"⟩ ∈ T0 := q2i 228 (by decide +kernel) (by decide +kernel)
theorem q469 : Cond.instanceMethod ⟨"PlantServer$History", "record", "(III)V"⟩ ∈ T0 := q2i 229 (by decide +kernel) (by decide +kernel)
theorem q470 : Cond.selects "PlantServer$History" ⟨"PlantServer$History", "record", "(III)V"⟩ ⟨"PlantServer$History", "record", "(III)V"⟩ ∈ T0 := q2i 230 (by decide +kernel) (by decide +kernel)
theorem q471 : Cond.code ⟨"PlantServer$History", "record", "(III)V"⟩ prog_2_method_2_code 4 none ∈ T0 := q2i 231 (by decide +kernel) (by decide +kernel)
theorem q472 : Cond.methodLink "PlantServerLaw" 123 ⟨"PlantServerLaw", "request", "(LPlantServer;)I"⟩ ∈ T0 := q2i 232 (by decide +kernel) (by decide +kernel)
theorem q473 : Cond.static ⟨"PlantServerLaw", "request", "(LPlantServer;)I"⟩ ∈ T0 := q2i 233 (by decide +kernel) (by decide +kernel)
theorem q474 : Cond.codeWith ⟨"PlantServerLaw", "request", "(LPlantServer;)I"⟩ method_10_code 3 (some FieldType.int) [(0, 5, 8, 22)] ∈ T0 := q2i 234 (by decide +kernel) (by decide +kernel)
theorem q475 : Cond.methodLink "PlantServerLaw" 40 ⟨"PlantServer", "request", "()I"⟩ ∈ T0 := q2i 235 (by decide +kernel) (by decide +kernel)
theorem q476 : Cond.instanceMethod ⟨"PlantServer", "request", "()I"⟩ ∈ T0 := q2i 236 (by decide +kernel) (by decide +kernel)
theorem q477 : Cond.selects "PlantServer" ⟨"PlantServer", "request", "()I"⟩ ⟨"PlantServer", "request", "()I"⟩ ∈ T0 := q2i 237 (by decide +kernel) (by decide +kernel)
theorem q478 : Cond.code ⟨"PlantServer", "request", "()I"⟩ prog_1_method_8_code 1 (some FieldType.int) ∈ T0 := q2i 238 (by decide +kernel) (by decide +kernel)
theorem q480 : Cond.methodLink "PlantServerLaw" 126 ⟨"PlantServerLaw", "acknowledge", "(LPlantServer;II)I"⟩ ∈ T0 := q3i 0 (by decide +kernel) (by decide +kernel)
theorem q481 : Cond.static ⟨"PlantServerLaw", "acknowledge", "(LPlantServer;II)I"⟩ ∈ T0 := q3i 1 (by decide +kernel) (by decide +kernel)
theorem q482 : Cond.codeWith ⟨"PlantServerLaw", "acknowledge", "(LPlantServer;II)I"⟩ method_12_code 5 (some FieldType.int) [(0, 7, 10, 14)] ∈ T0 := q3i 2 (by decide +kernel) (by decide +kernel)
theorem q483 : Cond.methodLink "PlantServerLaw" 47 ⟨"PlantServer", "acknowledge", "(II)Z"⟩ ∈ T0 := q3i 3 (by decide +kernel) (by decide +kernel)
theorem q484 : Cond.instanceMethod ⟨"PlantServer", "acknowledge", "(II)Z"⟩ ∈ T0 := q3i 4 (by decide +kernel) (by decide +kernel)
theorem q485 : Cond.selects "PlantServer" ⟨"PlantServer", "acknowledge", "(II)Z"⟩ ⟨"PlantServer", "acknowledge", "(II)Z"⟩ ∈ T0 := q3i 5 (by decide +kernel) (by decide +kernel)
theorem q486 : Cond.code ⟨"PlantServer", "acknowledge", "(II)Z"⟩ prog_1_method_12_code 5 (some FieldType.boolean) ∈ T0 := q3i 6 (by decide +kernel) (by decide +kernel)
theorem q487 : Cond.methodLink "PlantServer" 138 ⟨"PlantServer$Subscription", "placeOf", "(I)I"⟩ ∈ T0 := q3i 7 (by decide +kernel) (by decide +kernel)
theorem q488 : Cond.instanceMethod ⟨"PlantServer$Subscription", "placeOf", "(I)I"⟩ ∈ T0 := q3i 8 (by decide +kernel) (by decide +kernel)
theorem q489 : Cond.selects "PlantServer$Subscription" ⟨"PlantServer$Subscription", "placeOf", "(I)I"⟩ ⟨"PlantServer$Subscription", "placeOf", "(I)I"⟩ ∈ T0 := q3i 9 (by decide +kernel) (by decide +kernel)
theorem q490 : Cond.code ⟨"PlantServer$Subscription", "placeOf", "(I)I"⟩ prog_6_method_7_code 4 (some FieldType.int) ∈ T0 := q3i 10 (by decide +kernel) (by decide +kernel)
theorem q491 : Cond.methodLink "PlantServer" 142 ⟨"PlantServer$Subscription", "forget", "(I)V"⟩ ∈ T0 := q3i 11 (by decide +kernel) (by decide +kernel)
theorem q492 : Cond.instanceMethod ⟨"PlantServer$Subscription", "forget", "(I)V"⟩ ∈ T0 := q3i 12 (by decide +kernel) (by decide +kernel)
theorem q493 : Cond.selects "PlantServer$Subscription" ⟨"PlantServer$Subscription", "forget", "(I)V"⟩ ⟨"PlantServer$Subscription", "forget", "(I)V"⟩ ∈ T0 := q3i 13 (by decide +kernel) (by decide +kernel)
theorem q494 : Cond.code ⟨"PlantServer$Subscription", "forget", "(I)V"⟩ prog_6_method_9_code 4 none ∈ T0 := q3i 14 (by decide +kernel) (by decide +kernel)
theorem q495 : Cond.methodLink "PlantServerLaw" 128 ⟨"PlantServerLaw", "kept", "([III)I"⟩ ∈ T0 := q3i 15 (by decide +kernel) (by decide +kernel)
theorem q496 : Cond.static ⟨"PlantServerLaw", "kept", "([III)I"⟩ ∈ T0 := q3i 16 (by decide +kernel) (by decide +kernel)
theorem q497 : Cond.code ⟨"PlantServerLaw", "kept", "([III)I"⟩ method_23_code 4 (some FieldType.int) ∈ T0 := q3i 17 (by decide +kernel) (by decide +kernel)
theorem q498 : Cond.constant "PlantServerLaw" 132 (-2147483648 : Int32) ∈ T0 := q3i 18 (by decide +kernel) (by decide +kernel)
theorem q499 : Cond.methodLink "PlantServerLaw" 133 ⟨"PlantServerLaw", "pass", "(LPlantServer;I)I"⟩ ∈ T0 := q3i 19 (by decide +kernel) (by decide +kernel)
theorem q500 : Cond.static ⟨"PlantServerLaw", "pass", "(LPlantServer;I)I"⟩ ∈ T0 := q3i 20 (by decide +kernel) (by decide +kernel)
theorem q501 : Cond.codeWith ⟨"PlantServerLaw", "pass", "(LPlantServer;I)I"⟩ method_11_code 4 (some FieldType.int) [(0, 6, 9, 16), (0, 6, 14, 22)] ∈ T0 := q3i 21 (by decide +kernel) (by decide +kernel)
theorem q502 : Cond.methodLink "PlantServerLaw" 44 ⟨"PlantServer", "pass", "(I)I"⟩ ∈ T0 := q3i 22 (by decide +kernel) (by decide +kernel)
theorem q503 : Cond.instanceMethod ⟨"PlantServer", "pass", "(I)I"⟩ ∈ T0 := q3i 23 (by decide +kernel) (by decide +kernel)
theorem q504 : Cond.selects "PlantServer" ⟨"PlantServer", "pass", "(I)I"⟩ ⟨"PlantServer", "pass", "(I)I"⟩ ∈ T0 := q3i 24 (by decide +kernel) (by decide +kernel)
theorem q505 : Cond.code ⟨"PlantServer", "pass", "(I)I"⟩ prog_1_method_9_code 4 (some FieldType.int) ∈ T0 := q3i 25 (by decide +kernel) (by decide +kernel)
theorem q507 : Cond.methodLink "PlantServer" 131 ⟨"PlantServer", "sampleItems", "()V"⟩ ∈ T0 := q3i 27 (by decide +kernel) (by decide +kernel)
theorem q509 : Cond.instanceMethod ⟨"PlantServer", "sampleItems", "()V"⟩ ∈ T0 := q3i 29 (by decide +kernel) (by decide +kernel)
theorem q510 : Cond.code ⟨"PlantServer", "sampleItems", "()V"⟩ prog_1_method_29_code 3 none ∈ T0 := q3i 30 (by decide +kernel) (by decide +kernel)
theorem q511 : Cond.methodLink "PlantServer" 212 ⟨"PlantServer$Timer", "countTick", "()Z"⟩ ∈ T0 := q3i 31 (by decide +kernel) (by decide +kernel)
theorem q512 : Cond.instanceMethod ⟨"PlantServer$Timer", "countTick", "()Z"⟩ ∈ T0 := q3i 32 (by decide +kernel) (by decide +kernel)
theorem q513 : Cond.selects "PlantServer$Timer" ⟨"PlantServer$Timer", "countTick", "()Z"⟩ ⟨"PlantServer$Timer", "countTick", "()Z"⟩ ∈ T0 := q3i 33 (by decide +kernel) (by decide +kernel)
theorem q514 : Cond.code ⟨"PlantServer$Timer", "countTick", "()Z"⟩ prog_7_method_2_code 1 (some FieldType.boolean) ∈ T0 := q3i 34 (by decide +kernel) (by decide +kernel)
theorem q515 : Cond.methodLink "PlantServer" 221 ⟨"PlantServer$Item", "sample", "(I)V"⟩ ∈ T0 := q3i 35 (by decide +kernel) (by decide +kernel)
theorem q516 : Cond.instanceMethod ⟨"PlantServer$Item", "sample", "(I)V"⟩ ∈ T0 := q3i 36 (by decide +kernel) (by decide +kernel)
theorem q517 : Cond.selects "PlantServer$Item" ⟨"PlantServer$Item", "sample", "(I)V"⟩ ⟨"PlantServer$Item", "sample", "(I)V"⟩ ∈ T0 := q3i 37 (by decide +kernel) (by decide +kernel)
theorem q518 : Cond.code ⟨"PlantServer$Item", "sample", "(I)V"⟩ prog_3_method_3_code 2 none ∈ T0 := q3i 38 (by decide +kernel) (by decide +kernel)
theorem q519 : Cond.methodLink "PlantServer$Item" 58 ⟨"PlantServer$Item", "leavesBand", "(II)Z"⟩ ∈ T0 := q3i 39 (by decide +kernel) (by decide +kernel)
theorem q520 : Cond.instanceMethod ⟨"PlantServer$Item", "leavesBand", "(II)Z"⟩ ∈ T0 := q3i 40 (by decide +kernel) (by decide +kernel)
theorem q521 : Cond.selects "PlantServer$Item" ⟨"PlantServer$Item", "leavesBand", "(II)Z"⟩ ⟨"PlantServer$Item", "leavesBand", "(II)Z"⟩ ∈ T0 := q3i 41 (by decide +kernel) (by decide +kernel)
theorem q522 : Cond.code ⟨"PlantServer$Item", "leavesBand", "(II)Z"⟩ prog_3_method_4_code 3 (some FieldType.boolean) ∈ T0 := q3i 42 (by decide +kernel) (by decide +kernel)
theorem q523 : Cond.methodLink "PlantServer$Item" 62 ⟨"java/lang/Math", "abs", "(I)I"⟩ ∈ T0 := q3i 43 (by decide +kernel) (by decide +kernel)
theorem q524 : Cond.static ⟨"java/lang/Math", "abs", "(I)I"⟩ ∈ T0 := q3i 44 (by decide +kernel) (by decide +kernel)
theorem q525 : Cond.code ⟨"java/lang/Math", "abs", "(I)I"⟩ prog_15_method_59_code 1 (some FieldType.int) ∈ T0 := q3i 45 (by decide +kernel) (by decide +kernel)
theorem q526 : Cond.methodLink "PlantServer" 134 ⟨"PlantServer", "publishSubscriptions", "()I"⟩ ∈ T0 := q3i 46 (by decide +kernel) (by decide +kernel)
theorem q528 : Cond.instanceMethod ⟨"PlantServer", "publishSubscriptions", "()I"⟩ ∈ T0 := q3i 48 (by decide +kernel) (by decide +kernel)
theorem q529 : Cond.code ⟨"PlantServer", "publishSubscriptions", "()I"⟩ prog_1_method_30_code 4 (some FieldType.int) ∈ T0 := q3i 49 (by decide +kernel) (by decide +kernel)
theorem q530 : Cond.methodLink "PlantServer" 225 ⟨"PlantServer", "publishes", "(LPlantServer$Subscription;)Z"⟩ ∈ T0 := q3i 50 (by decide +kernel) (by decide +kernel)
theorem q532 : Cond.instanceMethod ⟨"PlantServer", "publishes", "(LPlantServer$Subscription;)Z"⟩ ∈ T0 := q3i 52 (by decide +kernel) (by decide +kernel)
theorem q533 : Cond.code ⟨"PlantServer", "publishes", "(LPlantServer$Subscription;)Z"⟩ prog_1_method_31_code 3 (some FieldType.boolean) ∈ T0 := q3i 53 (by decide +kernel) (by decide +kernel)
theorem q534 : Cond.methodLink "PlantServer" 229 ⟨"PlantServer$Subscription", "findTold", "()I"⟩ ∈ T0 := q3i 54 (by decide +kernel) (by decide +kernel)
theorem q535 : Cond.instanceMethod ⟨"PlantServer$Subscription", "findTold", "()I"⟩ ∈ T0 := q3i 55 (by decide +kernel) (by decide +kernel)
theorem q536 : Cond.selects "PlantServer$Subscription" ⟨"PlantServer$Subscription", "findTold", "()I"⟩ ⟨"PlantServer$Subscription", "findTold", "()I"⟩ ∈ T0 := q3i 56 (by decide +kernel) (by decide +kernel)
theorem q537 : Cond.code ⟨"PlantServer$Subscription", "findTold", "()I"⟩ prog_6_method_3_code 6 (some FieldType.int) ∈ T0 := q3i 57 (by decide +kernel) (by decide +kernel)
theorem q538 : Cond.methodLink "PlantServer" 232 ⟨"PlantServer$Subscription", "isSomethingDue", "(I)Z"⟩ ∈ T0 := q3i 58 (by decide +kernel) (by decide +kernel)
theorem q539 : Cond.instanceMethod ⟨"PlantServer$Subscription", "isSomethingDue", "(I)Z"⟩ ∈ T0 := q3i 59 (by decide +kernel) (by decide +kernel)
theorem q540 : Cond.selects "PlantServer$Subscription" ⟨"PlantServer$Subscription", "isSomethingDue", "(I)Z"⟩ ⟨"PlantServer$Subscription", "isSomethingDue", "(I)Z"⟩ ∈ T0 := q3i 60 (by decide +kernel) (by decide +kernel)
theorem q541 : Cond.code ⟨"PlantServer$Subscription", "isSomethingDue", "(I)Z"⟩ prog_6_method_4_code 2 (some FieldType.boolean) ∈ T0 := q3i 61 (by decide +kernel) (by decide +kernel)
theorem q542 : Cond.methodLink "PlantServer" 236 ⟨"PlantServer$Subscription", "lose", "()V"⟩ ∈ T0 := q3i 62 (by decide +kernel) (by decide +kernel)
theorem q543 : Cond.instanceMethod ⟨"PlantServer$Subscription", "lose", "()V"⟩ ∈ T0 := q3i 63 (by decide +kernel) (by decide +kernel)
theorem q544 : Cond.selects "PlantServer$Subscription" ⟨"PlantServer$Subscription", "lose", "()V"⟩ ⟨"PlantServer$Subscription", "lose", "()V"⟩ ∈ T0 := q3i 64 (by decide +kernel) (by decide +kernel)
theorem q545 : Cond.code ⟨"PlantServer$Subscription", "lose", "()V"⟩ prog_6_method_5_code 1 none ∈ T0 := q3i 65 (by decide +kernel) (by decide +kernel)
theorem q546 : Cond.methodLink "PlantServer" 239 ⟨"PlantServer$Subscription", "send", "(I)V"⟩ ∈ T0 := q3i 66 (by decide +kernel) (by decide +kernel)
theorem q547 : Cond.instanceMethod ⟨"PlantServer$Subscription", "send", "(I)V"⟩ ∈ T0 := q3i 67 (by decide +kernel) (by decide +kernel)
theorem q548 : Cond.selects "PlantServer$Subscription" ⟨"PlantServer$Subscription", "send", "(I)V"⟩ ⟨"PlantServer$Subscription", "send", "(I)V"⟩ ∈ T0 := q3i 68 (by decide +kernel) (by decide +kernel)
theorem q549 : Cond.code ⟨"PlantServer$Subscription", "send", "(I)V"⟩ prog_6_method_6_code 2 none ∈ T0 := q3i 69 (by decide +kernel) (by decide +kernel)
theorem q550 : Cond.methodLink "PlantServer$Subscription" 85 ⟨"PlantServer$Subscription", "fillMessage", "(I)V"⟩ ∈ T0 := q3i 70 (by decide +kernel) (by decide +kernel)
theorem q552 : Cond.instanceMethod ⟨"PlantServer$Subscription", "fillMessage", "(I)V"⟩ ∈ T0 := q3i 72 (by decide +kernel) (by decide +kernel)
theorem q553 : Cond.code ⟨"PlantServer$Subscription", "fillMessage", "(I)V"⟩ prog_6_method_10_code 5 none ∈ T0 := q3i 73 (by decide +kernel) (by decide +kernel)
theorem q554 : Cond.methodLink "PlantServer$Subscription" 93 ⟨"PlantServer$Subscription", "nextMessage", "()LPlantServer$Message;"⟩ ∈ T0 := q3i 74 (by decide +kernel) (by decide +kernel)
theorem q556 : Cond.instanceMethod ⟨"PlantServer$Subscription", "nextMessage", "()LPlantServer$Message;"⟩ ∈ T0 := q3i 76 (by decide +kernel) (by decide +kernel)
theorem q557 : Cond.code ⟨"PlantServer$Subscription", "nextMessage", "()LPlantServer$Message;"⟩ prog_6_method_11_code 2 (some (FieldType.object "PlantServer$Message")) ∈ T0 := q3i 77 (by decide +kernel) (by decide +kernel)
theorem q558 : Cond.methodLink "PlantServer$Subscription" 101 ⟨"PlantServer$Subscription", "forget", "(I)V"⟩ ∈ T0 := q3i 78 (by decide +kernel) (by decide +kernel)
theorem q559 : Cond.instantiable "PlantServer$Message" 5 ∈ T0 := q3i 79 (by decide +kernel) (by decide +kernel)
theorem q561 : Cond.instanceMethod ⟨"PlantServer$Message", "<init>", "()V"⟩ ∈ T0 := q3i 81 (by decide +kernel) (by decide +kernel)
theorem q562 : Cond.code ⟨"PlantServer$Message", "<init>", "()V"⟩ prog_4_method_1_code 1 none ∈ T0 := q3i 82 (by decide +kernel) (by decide +kernel)
theorem q563 : Cond.methodLink "PlantServer$Message" 3 ⟨"java/lang/Object", "<init>", "()V"⟩ ∈ T0 := q3i 83 (by decide +kernel) (by decide +kernel)
theorem q564 : Cond.fieldLink "PlantServer$Message" 9 "PlantServer$Message" "values" "[I" ∈ T0 := q3i 84 (by decide +kernel) (by decide +kernel)
theorem q565 : Cond.fieldLink "PlantServer" 156 "PlantServer$Message" "values" "[I" ∈ T0 := q3i 85 (by decide +kernel) (by decide +kernel)
theorem q566 : Cond.fieldLink "PlantServer$Message" 15 "PlantServer$Message" "items" "[I" ∈ T0 := q3i 86 (by decide +kernel) (by decide +kernel)
theorem q567 : Cond.fieldLink "PlantServer" 159 "PlantServer$Message" "items" "[I" ∈ T0 := q3i 87 (by decide +kernel) (by decide +kernel)
theorem q568 : Cond.fieldLink "PlantServer$Message" 18 "PlantServer$Message" "marks" "[Z" ∈ T0 := q3i 88 (by decide +kernel) (by decide +kernel)
theorem q569 : Cond.fieldLink "PlantServer" 161 "PlantServer$Message" "marks" "[Z" ∈ T0 := q3i 89 (by decide +kernel) (by decide +kernel)
theorem q570 : Cond.fieldLink "PlantServer$Message" 22 "PlantServer$Message" "number" "I" ∈ T0 := q3i 90 (by decide +kernel) (by decide +kernel)
theorem q571 : Cond.fieldLink "PlantServer$Subscription" 88 "PlantServer$Message" "number" "I" ∈ T0 := q3i 91 (by decide +kernel) (by decide +kernel)
theorem q572 : Cond.fieldLink "PlantServer$Message" 26 "PlantServer$Message" "count" "I" ∈ T0 := q3i 92 (by decide +kernel) (by decide +kernel)
theorem q573 : Cond.fieldLink "PlantServer$Item" 73 "PlantServer$Message" "count" "I" ∈ T0 := q3i 93 (by decide +kernel) (by decide +kernel)
theorem q574 : Cond.fieldLink "PlantServer" 149 "PlantServer$Message" "count" "I" ∈ T0 := q3i 94 (by decide +kernel) (by decide +kernel)
theorem q586 : Cond.methodLink "PlantServer$Subscription" 105 ⟨"PlantServer$Message", "begin", "(I)V"⟩ ∈ T0 := q3i 106 (by decide +kernel) (by decide +kernel)
theorem q587 : Cond.instanceMethod ⟨"PlantServer$Message", "begin", "(I)V"⟩ ∈ T0 := q3i 107 (by decide +kernel) (by decide +kernel)
theorem q588 : Cond.selects "PlantServer$Message" ⟨"PlantServer$Message", "begin", "(I)V"⟩ ⟨"PlantServer$Message", "begin", "(I)V"⟩ ∈ T0 := q3i 108 (by decide +kernel) (by decide +kernel)
theorem q589 : Cond.code ⟨"PlantServer$Message", "begin", "(I)V"⟩ prog_4_method_2_code 2 none ∈ T0 := q3i 109 (by decide +kernel) (by decide +kernel)
theorem q590 : Cond.methodLink "PlantServer$Subscription" 97 ⟨"PlantServer$Item", "giveTo", "(LPlantServer$Message;I)V"⟩ ∈ T0 := q3i 110 (by decide +kernel) (by decide +kernel)
theorem q591 : Cond.instanceMethod ⟨"PlantServer$Item", "giveTo", "(LPlantServer$Message;I)V"⟩ ∈ T0 := q3i 111 (by decide +kernel) (by decide +kernel)
theorem q592 : Cond.selects "PlantServer$Item" ⟨"PlantServer$Item", "giveTo", "(LPlantServer$Message;I)V"⟩ ⟨"PlantServer$Item", "giveTo", "(LPlantServer$Message;I)V"⟩ ∈ T0 := q3i 112 (by decide +kernel) (by decide +kernel)
theorem q593 : Cond.code ⟨"PlantServer$Item", "giveTo", "(LPlantServer$Message;I)V"⟩ prog_3_method_6_code 5 none ∈ T0 := q3i 113 (by decide +kernel) (by decide +kernel)
theorem q594 : Cond.methodLink "PlantServer$Item" 76 ⟨"java/lang/Math", "min", "(II)I"⟩ ∈ T0 := q3i 114 (by decide +kernel) (by decide +kernel)
theorem q595 : Cond.static ⟨"java/lang/Math", "min", "(II)I"⟩ ∈ T0 := q3i 115 (by decide +kernel) (by decide +kernel)
theorem q596 : Cond.code ⟨"java/lang/Math", "min", "(II)I"⟩ prog_15_method_69_code 2 (some FieldType.int) ∈ T0 := q3i 116 (by decide +kernel) (by decide +kernel)
theorem q597 : Cond.methodLink "PlantServer$Item" 88 ⟨"PlantServer$Message", "append", "(IIZ)V"⟩ ∈ T0 := q3i 117 (by decide +kernel) (by decide +kernel)
theorem q598 : Cond.instanceMethod ⟨"PlantServer$Message", "append", "(IIZ)V"⟩ ∈ T0 := q3i 118 (by decide +kernel) (by decide +kernel)
theorem q599 : Cond.selects "PlantServer$Message" ⟨"PlantServer$Message", "append", "(IIZ)V"⟩ ⟨"PlantServer$Message", "append", "(IIZ)V"⟩ ∈ T0 := q3i 119 (by decide +kernel) (by decide +kernel)
theorem q600 : Cond.code ⟨"PlantServer$Message", "append", "(IIZ)V"⟩ prog_4_method_3_code 4 none ∈ T0 := q3i 120 (by decide +kernel) (by decide +kernel)
theorem q601 : Cond.methodLink "PlantServer$Item" 92 ⟨"PlantServer$Queue", "dropFirst", "()V"⟩ ∈ T0 := q3i 121 (by decide +kernel) (by decide +kernel)
theorem q602 : Cond.methodLink "PlantServerLaw" 135 ⟨"PlantServerLaw", "tick", "([I[I[I[I[I[I[I[I[I[I[I[I)I"⟩ ∈ T0 := q3i 122 (by decide +kernel) (by decide +kernel)
theorem q603 : Cond.static ⟨"PlantServerLaw", "tick", "([I[I[I[I[I[I[I[I[I[I[I[I)I"⟩ ∈ T0 := q3i 123 (by decide +kernel) (by decide +kernel)
theorem q604 : Cond.code ⟨"PlantServerLaw", "tick", "([I[I[I[I[I[I[I[I[I[I[I[I)I"⟩ method_25_code 16 (some FieldType.int) ∈ T0 := q3i 124 rfl (by decide +kernel)
theorem q605 : Cond.methodLink "PlantServerLaw" 89 ⟨"PlantServerLaw", "publish", "(I[I[I[I[I[I[I[I[I)I"⟩ ∈ T0 := q3i 125 (by decide +kernel) (by decide +kernel)
theorem q606 : Cond.static ⟨"PlantServerLaw", "publish", "(I[I[I[I[I[I[I[I[I)I"⟩ ∈ T0 := q3i 126 (by decide +kernel) (by decide +kernel)
theorem q607 : Cond.code ⟨"PlantServerLaw", "publish", "(I[I[I[I[I[I[I[I[I)I"⟩ method_24_code 16 (some FieldType.int) ∈ T0 := q3i 127 rfl (by decide +kernel)
theorem q608 : Cond.methodLink "PlantServerLaw" 164 ⟨"PlantServerLaw", "isTold", "(LPlantServer;I[I[I[I[I[I[I[I)Z"⟩ ∈ T0 := q3i 128 (by decide +kernel) (by decide +kernel)
theorem q609 : Cond.static ⟨"PlantServerLaw", "isTold", "(LPlantServer;I[I[I[I[I[I[I[I)Z"⟩ ∈ T0 := q3i 129 (by decide +kernel) (by decide +kernel)
theorem q610 : Cond.code ⟨"PlantServerLaw", "isTold", "(LPlantServer;I[I[I[I[I[I[I[I)Z"⟩ method_29_code 17 (some FieldType.boolean) ∈ T0 := q3i 130 rfl (by decide +kernel)
theorem q611 : Cond.methodLink "PlantServerLaw" 139 ⟨"PlantServerLaw", "latest", "(LPlantServer;I)I"⟩ ∈ T0 := q3i 131 (by decide +kernel) (by decide +kernel)
theorem q612 : Cond.static ⟨"PlantServerLaw", "latest", "(LPlantServer;I)I"⟩ ∈ T0 := q3i 132 (by decide +kernel) (by decide +kernel)
theorem q613 : Cond.codeWith ⟨"PlantServerLaw", "latest", "(LPlantServer;I)I"⟩ method_17_code 4 (some FieldType.int) [(0, 6, 9, 14)] ∈ T0 := q3i 133 (by decide +kernel) (by decide +kernel)
theorem q614 : Cond.methodLink "PlantServerLaw" 67 ⟨"PlantServer", "latest", "(I)I"⟩ ∈ T0 := q3i 134 (by decide +kernel) (by decide +kernel)
theorem q615 : Cond.instanceMethod ⟨"PlantServer", "latest", "(I)I"⟩ ∈ T0 := q3i 135 (by decide +kernel) (by decide +kernel)
theorem q616 : Cond.selects "PlantServer" ⟨"PlantServer", "latest", "(I)I"⟩ ⟨"PlantServer", "latest", "(I)I"⟩ ∈ T0 := q3i 136 (by decide +kernel) (by decide +kernel)
theorem q617 : Cond.code ⟨"PlantServer", "latest", "(I)I"⟩ prog_1_method_17_code 2 (some FieldType.int) ∈ T0 := q3i 137 (by decide +kernel) (by decide +kernel)
theorem q618 : Cond.methodLink "PlantServerLaw" 141 ⟨"PlantServerLaw", "keepAlives", "(LPlantServer;I)I"⟩ ∈ T0 := q3i 138 (by decide +kernel) (by decide +kernel)
theorem q619 : Cond.static ⟨"PlantServerLaw", "keepAlives", "(LPlantServer;I)I"⟩ ∈ T0 := q3i 139 (by decide +kernel) (by decide +kernel)
theorem q620 : Cond.codeWith ⟨"PlantServerLaw", "keepAlives", "(LPlantServer;I)I"⟩ method_18_code 4 (some FieldType.int) [(0, 6, 9, 14)] ∈ T0 := q3i 140 (by decide +kernel) (by decide +kernel)
theorem q621 : Cond.methodLink "PlantServerLaw" 70 ⟨"PlantServer", "keepAlives", "(I)I"⟩ ∈ T0 := q3i 141 (by decide +kernel) (by decide +kernel)
theorem q622 : Cond.instanceMethod ⟨"PlantServer", "keepAlives", "(I)I"⟩ ∈ T0 := q3i 142 (by decide +kernel) (by decide +kernel)
theorem q623 : Cond.selects "PlantServer" ⟨"PlantServer", "keepAlives", "(I)I"⟩ ⟨"PlantServer", "keepAlives", "(I)I"⟩ ∈ T0 := q3i 143 (by decide +kernel) (by decide +kernel)
theorem q624 : Cond.code ⟨"PlantServer", "keepAlives", "(I)I"⟩ prog_1_method_18_code 2 (some FieldType.int) ∈ T0 := q3i 144 (by decide +kernel) (by decide +kernel)
theorem q625 : Cond.methodLink "PlantServerLaw" 143 ⟨"PlantServerLaw", "size", "(LPlantServer;II)I"⟩ ∈ T0 := q3i 145 (by decide +kernel) (by decide +kernel)
theorem q626 : Cond.static ⟨"PlantServerLaw", "size", "(LPlantServer;II)I"⟩ ∈ T0 := q3i 146 (by decide +kernel) (by decide +kernel)
theorem q627 : Cond.codeWith ⟨"PlantServerLaw", "size", "(LPlantServer;II)I"⟩ method_13_code 5 (some FieldType.int) [(0, 7, 10, 14)] ∈ T0 := q3i 147 (by decide +kernel) (by decide +kernel)
theorem q628 : Cond.methodLink "PlantServerLaw" 51 ⟨"PlantServer", "size", "(II)I"⟩ ∈ T0 := q3i 148 (by decide +kernel) (by decide +kernel)
theorem q629 : Cond.instanceMethod ⟨"PlantServer", "size", "(II)I"⟩ ∈ T0 := q3i 149 (by decide +kernel) (by decide +kernel)
theorem q630 : Cond.selects "PlantServer" ⟨"PlantServer", "size", "(II)I"⟩ ⟨"PlantServer", "size", "(II)I"⟩ ∈ T0 := q3i 150 (by decide +kernel) (by decide +kernel)
theorem q631 : Cond.code ⟨"PlantServer", "size", "(II)I"⟩ prog_1_method_13_code 4 (some FieldType.int) ∈ T0 := q3i 151 (by decide +kernel) (by decide +kernel)
theorem q632 : Cond.methodLink "PlantServer" 145 ⟨"PlantServer$Subscription", "find", "(I)LPlantServer$Message;"⟩ ∈ T0 := q3i 152 (by decide +kernel) (by decide +kernel)
theorem q633 : Cond.instanceMethod ⟨"PlantServer$Subscription", "find", "(I)LPlantServer$Message;"⟩ ∈ T0 := q3i 153 (by decide +kernel) (by decide +kernel)
theorem q634 : Cond.selects "PlantServer$Subscription" ⟨"PlantServer$Subscription", "find", "(I)LPlantServer$Message;"⟩ ⟨"PlantServer$Subscription", "find", "(I)LPlantServer$Message;"⟩ ∈ T0 := q3i 154 (by decide +kernel) (by decide +kernel)
theorem q635 : Cond.code ⟨"PlantServer$Subscription", "find", "(I)LPlantServer$Message;"⟩ prog_6_method_8_code 3 (some (FieldType.object "PlantServer$Message")) ∈ T0 := q3i 155 (by decide +kernel) (by decide +kernel)
theorem q636 : Cond.methodLink "PlantServer$Subscription" 89 ⟨"PlantServer$Subscription", "placeOf", "(I)I"⟩ ∈ T0 := q3i 156 (by decide +kernel) (by decide +kernel)
theorem q637 : Cond.methodLink "PlantServerLaw" 145 ⟨"PlantServerLaw", "valueAt", "(LPlantServer;III)I"⟩ ∈ T0 := q3i 157 (by decide +kernel) (by decide +kernel)
theorem q638 : Cond.static ⟨"PlantServerLaw", "valueAt", "(LPlantServer;III)I"⟩ ∈ T0 := q3i 158 (by decide +kernel) (by decide +kernel)
theorem q639 : Cond.codeWith ⟨"PlantServerLaw", "valueAt", "(LPlantServer;III)I"⟩ method_14_code 6 (some FieldType.int) [(0, 9, 12, 14), (0, 9, 18, 58)] ∈ T0 := q3i 159 (by decide +kernel) (by decide +kernel)
theorem q640 : Cond.classLink "PlantServerLaw" 58 "java/util/NoSuchElementException" ∈ T0 := q3i 160 (by decide +kernel) (by decide +kernel)
theorem q641 : Cond.methodLink "PlantServerLaw" 54 ⟨"PlantServer", "valueAt", "(III)I"⟩ ∈ T0 := q3i 161 (by decide +kernel) (by decide +kernel)
theorem q642 : Cond.instanceMethod ⟨"PlantServer", "valueAt", "(III)I"⟩ ∈ T0 := q3i 162 (by decide +kernel) (by decide +kernel)
theorem q643 : Cond.selects "PlantServer" ⟨"PlantServer", "valueAt", "(III)I"⟩ ⟨"PlantServer", "valueAt", "(III)I"⟩ ∈ T0 := q3i 163 (by decide +kernel) (by decide +kernel)
theorem q644 : Cond.code ⟨"PlantServer", "valueAt", "(III)I"⟩ prog_1_method_14_code 4 (some FieldType.int) ∈ T0 := q3i 164 (by decide +kernel) (by decide +kernel)
theorem q645 : Cond.methodLink "PlantServer" 152 ⟨"PlantServer", "messageWith", "(III)LPlantServer$Message;"⟩ ∈ T0 := q3i 165 (by decide +kernel) (by decide +kernel)
theorem q647 : Cond.instanceMethod ⟨"PlantServer", "messageWith", "(III)LPlantServer$Message;"⟩ ∈ T0 := q3i 167 (by decide +kernel) (by decide +kernel)
theorem q648 : Cond.code ⟨"PlantServer", "messageWith", "(III)LPlantServer$Message;"⟩ prog_1_method_27_code 5 (some (FieldType.object "PlantServer$Message")) ∈ T0 := q3i 168 (by decide +kernel) (by decide +kernel)
theorem q649 : Cond.classLink "PlantServer" 198 "java/util/NoSuchElementException" ∈ T0 := q3i 169 (by decide +kernel) (by decide +kernel)
theorem q650 : Cond.instantiable "java/util/NoSuchElementException" 6 ∈ T0 := q3i 170 (by decide +kernel) (by decide +kernel)
theorem q652 : Cond.selects "java/util/NoSuchElementException" ⟨"java/lang/Throwable", "fillInStackTrace", "(I)Ljava/lang/Throwable;"⟩ ⟨"java/lang/Throwable", "fillInStackTrace", "(I)Ljava/lang/Throwable;"⟩ ∈ T0 := q3i 172 (by decide +kernel) (by decide +kernel)
theorem q659 : Cond.methodLink "PlantServer" 202 ⟨"java/util/NoSuchElementException", "<init>", "(Ljava/lang/String;)V"⟩ ∈ T0 := q3i 179 (by decide +kernel) (by decide +kernel)
theorem q661 : Cond.code ⟨"java/util/NoSuchElementException", "<init>", "(Ljava/lang/String;)V"⟩ prog_19_method_4_code 2 none ∈ T0 := q3i 181 (by decide +kernel) (by decide +kernel)
theorem q662 : Cond.methodLink "java/util/NoSuchElementException" 13 ⟨"java/lang/RuntimeException", "<init>", "(Ljava/lang/String;)V"⟩ ∈ T0 := q3i 182 (by decide +kernel) (by decide +kernel)
theorem q666 : Cond.methodLink "PlantServerLaw" 148 ⟨"PlantServerLaw", "itemAt", "(LPlantServer;III)I"⟩ ∈ T0 := q3i 186 (by decide +kernel) (by decide +kernel)
theorem q667 : Cond.static ⟨"PlantServerLaw", "itemAt", "(LPlantServer;III)I"⟩ ∈ T0 := q3i 187 (by decide +kernel) (by decide +kernel)
theorem q668 : Cond.codeWith ⟨"PlantServerLaw", "itemAt", "(LPlantServer;III)I"⟩ method_15_code 6 (some FieldType.int) [(0, 9, 12, 14), (0, 9, 18, 58)] ∈ T0 := q3i 188 (by decide +kernel) (by decide +kernel)
theorem q669 : Cond.methodLink "PlantServerLaw" 60 ⟨"PlantServer", "itemAt", "(III)I"⟩ ∈ T0 := q3i 189 (by decide +kernel) (by decide +kernel)
theorem q670 : Cond.instanceMethod ⟨"PlantServer", "itemAt", "(III)I"⟩ ∈ T0 := q3i 190 (by decide +kernel) (by decide +kernel)
theorem q671 : Cond.selects "PlantServer" ⟨"PlantServer", "itemAt", "(III)I"⟩ ⟨"PlantServer", "itemAt", "(III)I"⟩ ∈ T0 := q3i 191 (by decide +kernel) (by decide +kernel)
theorem q672 : Cond.code ⟨"PlantServer", "itemAt", "(III)I"⟩ prog_1_method_15_code 4 (some FieldType.int) ∈ T0 := q3i 192 (by decide +kernel) (by decide +kernel)
theorem q673 : Cond.methodLink "PlantServerLaw" 150 ⟨"PlantServerLaw", "isMarked", "(LPlantServer;III)I"⟩ ∈ T0 := q3i 193 (by decide +kernel) (by decide +kernel)
theorem q674 : Cond.static ⟨"PlantServerLaw", "isMarked", "(LPlantServer;III)I"⟩ ∈ T0 := q3i 194 (by decide +kernel) (by decide +kernel)
theorem q675 : Cond.codeWith ⟨"PlantServerLaw", "isMarked", "(LPlantServer;III)I"⟩ method_16_code 6 (some FieldType.int) [(0, 9, 12, 14), (0, 9, 18, 58)] ∈ T0 := q3i 195 (by decide +kernel) (by decide +kernel)
theorem q676 : Cond.methodLink "PlantServerLaw" 63 ⟨"PlantServer", "isMarked", "(III)Z"⟩ ∈ T0 := q3i 196 (by decide +kernel) (by decide +kernel)
theorem q677 : Cond.instanceMethod ⟨"PlantServer", "isMarked", "(III)Z"⟩ ∈ T0 := q3i 197 (by decide +kernel) (by decide +kernel)
theorem q678 : Cond.selects "PlantServer" ⟨"PlantServer", "isMarked", "(III)Z"⟩ ⟨"PlantServer", "isMarked", "(III)Z"⟩ ∈ T0 := q3i 198 (by decide +kernel) (by decide +kernel)
theorem q679 : Cond.code ⟨"PlantServer", "isMarked", "(III)Z"⟩ prog_1_method_16_code 4 (some FieldType.boolean) ∈ T0 := q3i 199 (by decide +kernel) (by decide +kernel)
theorem q680 : Cond.methodLink "PlantServerLaw" 152 ⟨"PlantServerLaw", "waiting", "(LPlantServer;I)I"⟩ ∈ T0 := q3i 200 (by decide +kernel) (by decide +kernel)
theorem q681 : Cond.static ⟨"PlantServerLaw", "waiting", "(LPlantServer;I)I"⟩ ∈ T0 := q3i 201 (by decide +kernel) (by decide +kernel)
theorem q682 : Cond.codeWith ⟨"PlantServerLaw", "waiting", "(LPlantServer;I)I"⟩ method_19_code 4 (some FieldType.int) [(0, 6, 9, 14)] ∈ T0 := q3i 202 (by decide +kernel) (by decide +kernel)
theorem q683 : Cond.methodLink "PlantServerLaw" 73 ⟨"PlantServer", "waiting", "(I)I"⟩ ∈ T0 := q3i 203 (by decide +kernel) (by decide +kernel)
theorem q684 : Cond.instanceMethod ⟨"PlantServer", "waiting", "(I)I"⟩ ∈ T0 := q3i 204 (by decide +kernel) (by decide +kernel)
theorem q685 : Cond.selects "PlantServer" ⟨"PlantServer", "waiting", "(I)I"⟩ ⟨"PlantServer", "waiting", "(I)I"⟩ ∈ T0 := q3i 205 (by decide +kernel) (by decide +kernel)
theorem q686 : Cond.code ⟨"PlantServer", "waiting", "(I)I"⟩ prog_1_method_19_code 2 (some FieldType.int) ∈ T0 := q3i 206 (by decide +kernel) (by decide +kernel)
theorem q687 : Cond.methodLink "PlantServerLaw" 154 ⟨"PlantServer", "queuedByHistory", "(I)I"⟩ ∈ T0 := q3i 207 (by decide +kernel) (by decide +kernel)
theorem q688 : Cond.instanceMethod ⟨"PlantServer", "queuedByHistory", "(I)I"⟩ ∈ T0 := q3i 208 (by decide +kernel) (by decide +kernel)
theorem q689 : Cond.selects "PlantServer" ⟨"PlantServer", "queuedByHistory", "(I)I"⟩ ⟨"PlantServer", "queuedByHistory", "(I)I"⟩ ∈ T0 := q3i 209 (by decide +kernel) (by decide +kernel)
theorem q690 : Cond.code ⟨"PlantServer", "queuedByHistory", "(I)I"⟩ prog_1_method_21_code 2 (some FieldType.int) ∈ T0 := q3i 210 (by decide +kernel) (by decide +kernel)
theorem q691 : Cond.methodLink "PlantServer" 179 ⟨"PlantServer$History", "countQueued", "(LPlantServer$Item;I)I"⟩ ∈ T0 := q3i 211 (by decide +kernel) (by decide +kernel)
theorem q692 : Cond.instanceMethod ⟨"PlantServer$History", "countQueued", "(LPlantServer$Item;I)I"⟩ ∈ T0 := q3i 212 (by decide +kernel) (by decide +kernel)
theorem q693 : Cond.selects "PlantServer$History" ⟨"PlantServer$History", "countQueued", "(LPlantServer$Item;I)I"⟩ ⟨"PlantServer$History", "countQueued", "(LPlantServer$Item;I)I"⟩ ∈ T0 := q3i 213 (by decide +kernel) (by decide +kernel)
theorem q694 : Cond.code ⟨"PlantServer$History", "countQueued", "(LPlantServer$Item;I)I"⟩ prog_2_method_3_code 8 (some FieldType.int) ∈ T0 := q3i 214 (by decide +kernel) (by decide +kernel)
theorem q695 : Cond.methodLink "PlantServer$History" 33 ⟨"PlantServer$History", "valueBefore", "(II)I"⟩ ∈ T0 := q3i 215 (by decide +kernel) (by decide +kernel)
theorem q697 : Cond.instanceMethod ⟨"PlantServer$History", "valueBefore", "(II)I"⟩ ∈ T0 := q3i 217 (by decide +kernel) (by decide +kernel)
theorem q698 : Cond.code ⟨"PlantServer$History", "valueBefore", "(II)I"⟩ prog_2_method_4_code 4 (some FieldType.int) ∈ T0 := q3i 218 (by decide +kernel) (by decide +kernel)
theorem q699 : Cond.methodLink "PlantServer$History" 40 ⟨"PlantServer$History", "isSampled", "(LPlantServer$Item;II)Z"⟩ ∈ T0 := q3i 219 (by decide +kernel) (by decide +kernel)
theorem q701 : Cond.instanceMethod ⟨"PlantServer$History", "isSampled", "(LPlantServer$Item;II)Z"⟩ ∈ T0 := q3i 221 (by decide +kernel) (by decide +kernel)
theorem q702 : Cond.code ⟨"PlantServer$History", "isSampled", "(LPlantServer$Item;II)Z"⟩ prog_2_method_5_code 5 (some FieldType.boolean) ∈ T0 := q3i 222 (by decide +kernel) (by decide +kernel)
theorem q703 : Cond.methodLink "PlantServer$History" 44 ⟨"PlantServer$Item", "leavesBand", "(II)Z"⟩ ∈ T0 := q3i 223 (by decide +kernel) (by decide +kernel)
theorem q704 : Cond.methodLink "PlantServerLaw" 157 ⟨"PlantServer", "tick", "()I"⟩ ∈ T0 := q3i 224 (by decide +kernel) (by decide +kernel)
theorem q705 : Cond.instanceMethod ⟨"PlantServer", "tick", "()I"⟩ ∈ T0 := q3i 225 (by decide +kernel) (by decide +kernel)
theorem q706 : Cond.selects "PlantServer" ⟨"PlantServer", "tick", "()I"⟩ ⟨"PlantServer", "tick", "()I"⟩ ∈ T0 := q3i 226 (by decide +kernel) (by decide +kernel)
theorem q707 : Cond.code ⟨"PlantServer", "tick", "()I"⟩ prog_1_method_11_code 1 (some FieldType.int) ∈ T0 := q3i 227 (by decide +kernel) (by decide +kernel)
theorem q708 : Cond.methodLink "PlantServerLaw" 159 ⟨"PlantServer", "requests", "()I"⟩ ∈ T0 := q3i 228 (by decide +kernel) (by decide +kernel)
theorem q709 : Cond.instanceMethod ⟨"PlantServer", "requests", "()I"⟩ ∈ T0 := q3i 229 (by decide +kernel) (by decide +kernel)
theorem q710 : Cond.selects "PlantServer" ⟨"PlantServer", "requests", "()I"⟩ ⟨"PlantServer", "requests", "()I"⟩ ∈ T0 := q3i 230 (by decide +kernel) (by decide +kernel)
theorem q711 : Cond.code ⟨"PlantServer", "requests", "()I"⟩ prog_1_method_10_code 1 (some FieldType.int) ∈ T0 := q3i 231 (by decide +kernel) (by decide +kernel)
theorem q712 : Cond.constant "PlantServerLaw" 162 (2147483647 : Int32) ∈ T0 := q3i 232 (by decide +kernel) (by decide +kernel)
theorem s0 : Cond.selects "java/lang/Throwable" ⟨"java/lang/Throwable", "fillInStackTrace", "(I)Ljava/lang/Throwable;"⟩ ⟨"java/lang/Throwable", "fillInStackTrace", "(I)Ljava/lang/Throwable;"⟩ ∈ T0 := s0i 0 (by decide +kernel) (by decide +kernel)
theorem s1 : Cond.selects "PlantServer" ⟨"PlantServer", "putInTurn", "(LPlantServer$Subscription;I)V"⟩ ⟨"PlantServer", "putInTurn", "(LPlantServer$Subscription;I)V"⟩ ∈ T0 := s0i 1 (by decide +kernel) (by decide +kernel)
theorem s2 : Cond.selects "PlantServer" ⟨"PlantServer", "openSubscription", "(I)LPlantServer$Subscription;"⟩ ⟨"PlantServer", "openSubscription", "(I)LPlantServer$Subscription;"⟩ ∈ T0 := s0i 2 (by decide +kernel) (by decide +kernel)
theorem s3 : Cond.selects "PlantServer$Item" ⟨"PlantServer$Item", "enqueue", "(I)V"⟩ ⟨"PlantServer$Item", "enqueue", "(I)V"⟩ ∈ T0 := s0i 3 (by decide +kernel) (by decide +kernel)
theorem s4 : Cond.selects "PlantServer$Queue" ⟨"PlantServer$Queue", "append", "(IZ)V"⟩ ⟨"PlantServer$Queue", "append", "(IZ)V"⟩ ∈ T0 := s0i 4 (by decide +kernel) (by decide +kernel)
theorem s5 : Cond.selects "PlantServer" ⟨"PlantServer", "liveItem", "(I)LPlantServer$Item;"⟩ ⟨"PlantServer", "liveItem", "(I)LPlantServer$Item;"⟩ ∈ T0 := s0i 5 (by decide +kernel) (by decide +kernel)
theorem s6 : Cond.selects "PlantServer" ⟨"PlantServer", "sampleItems", "()V"⟩ ⟨"PlantServer", "sampleItems", "()V"⟩ ∈ T0 := s0i 6 (by decide +kernel) (by decide +kernel)
theorem s7 : Cond.selects "PlantServer" ⟨"PlantServer", "publishSubscriptions", "()I"⟩ ⟨"PlantServer", "publishSubscriptions", "()I"⟩ ∈ T0 := s0i 7 (by decide +kernel) (by decide +kernel)
theorem s8 : Cond.selects "PlantServer" ⟨"PlantServer", "publishes", "(LPlantServer$Subscription;)Z"⟩ ⟨"PlantServer", "publishes", "(LPlantServer$Subscription;)Z"⟩ ∈ T0 := s0i 8 (by decide +kernel) (by decide +kernel)
theorem s9 : Cond.selects "PlantServer$Subscription" ⟨"PlantServer$Subscription", "fillMessage", "(I)V"⟩ ⟨"PlantServer$Subscription", "fillMessage", "(I)V"⟩ ∈ T0 := s0i 9 (by decide +kernel) (by decide +kernel)
theorem s10 : Cond.selects "PlantServer$Subscription" ⟨"PlantServer$Subscription", "nextMessage", "()LPlantServer$Message;"⟩ ⟨"PlantServer$Subscription", "nextMessage", "()LPlantServer$Message;"⟩ ∈ T0 := s0i 10 (by decide +kernel) (by decide +kernel)
theorem s11 : Cond.selects "PlantServer" ⟨"PlantServer", "messageWith", "(III)LPlantServer$Message;"⟩ ⟨"PlantServer", "messageWith", "(III)LPlantServer$Message;"⟩ ∈ T0 := s0i 11 (by decide +kernel) (by decide +kernel)
theorem s12 : Cond.selects "PlantServer$History" ⟨"PlantServer$History", "valueBefore", "(II)I"⟩ ⟨"PlantServer$History", "valueBefore", "(II)I"⟩ ∈ T0 := s0i 12 (by decide +kernel) (by decide +kernel)
theorem s13 : Cond.selects "PlantServer$History" ⟨"PlantServer$History", "isSampled", "(LPlantServer$Item;II)Z"⟩ ⟨"PlantServer$History", "isSampled", "(LPlantServer$Item;II)Z"⟩ ∈ T0 := s0i 13 (by decide +kernel) (by decide +kernel)
end
section
/-! A named heap: objects and arrays have names; what they hold is told by functions of name and place. -/
abbrev Nm : Type := Nat × Nat × Nat
abbrev PH : Type := (Nm → Nat) × (Nm → Nat) × (Nm → Nat → Int32) × (Nm → Nat → Option Nm) × (Nm → Nat → Int64)
def hK (σ : PH) : Nm → Nat := σ.1
def hL (σ : PH) : Nm → Nat := σ.2.1
def hI (σ : PH) : Nm → Nat → Int32 := σ.2.2.1
def hR (σ : PH) : Nm → Nat → Option Nm := σ.2.2.2.1
def hJ (σ : PH) : Nm → Nat → Int64 := σ.2.2.2.2
def sI (σ : PH) (n : Nm) (j : Nat) (v : Int32) : PH := (σ.1, σ.2.1, fun a b => if a = n ∧ b = j then v else σ.2.2.1 a b, σ.2.2.2.1, σ.2.2.2.2)
def sR (σ : PH) (n : Nm) (j : Nat) (v : Option Nm) : PH := (σ.1, σ.2.1, σ.2.2.1, fun a b => if a = n ∧ b = j then v else σ.2.2.2.1 a b, σ.2.2.2.2)
def sJ (σ : PH) (n : Nm) (j : Nat) (v : Int64) : PH := (σ.1, σ.2.1, σ.2.2.1, σ.2.2.2.1, fun a b => if a = n ∧ b = j then v else σ.2.2.2.2 a b)
def sN (σ : PH) (n : Nm) (k len : Nat) : PH := (fun a => if a = n then k else σ.1 a, fun a => if a = n then len else σ.2.1 a, fun a b => if a = n then 0 else σ.2.2.1 a b, fun a b => if a = n then none else σ.2.2.2.1 a b, fun a b => if a = n then 0 else σ.2.2.2.2 a b)
theorem hK_sI (σ : PH) (n : Nm) (j : Nat) (v : Int32) : hK (sI σ n j v) = hK σ := rfl
theorem hL_sI (σ : PH) (n : Nm) (j : Nat) (v : Int32) : hL (sI σ n j v) = hL σ := rfl
theorem hR_sI (σ : PH) (n : Nm) (j : Nat) (v : Int32) : hR (sI σ n j v) = hR σ := rfl
theorem hJ_sI (σ : PH) (n : Nm) (j : Nat) (v : Int32) : hJ (sI σ n j v) = hJ σ := rfl
theorem hI_sI (σ : PH) (n : Nm) (j : Nat) (v : Int32) (a : Nm) (b : Nat) : hI (sI σ n j v) a b = if a = n ∧ b = j then v else hI σ a b := rfl
theorem hK_sR (σ : PH) (n : Nm) (j : Nat) (v : Option Nm) : hK (sR σ n j v) = hK σ := rfl
theorem hL_sR (σ : PH) (n : Nm) (j : Nat) (v : Option Nm) : hL (sR σ n j v) = hL σ := rfl
theorem hI_sR (σ : PH) (n : Nm) (j : Nat) (v : Option Nm) : hI (sR σ n j v) = hI σ := rfl
theorem hJ_sR (σ : PH) (n : Nm) (j : Nat) (v : Option Nm) : hJ (sR σ n j v) = hJ σ := rfl
theorem hR_sR (σ : PH) (n : Nm) (j : Nat) (v : Option Nm) (a : Nm) (b : Nat) : hR (sR σ n j v) a b = if a = n ∧ b = j then v else hR σ a b := rfl
theorem hK_sJ (σ : PH) (n : Nm) (j : Nat) (v : Int64) : hK (sJ σ n j v) = hK σ := rfl
theorem hL_sJ (σ : PH) (n : Nm) (j : Nat) (v : Int64) : hL (sJ σ n j v) = hL σ := rfl
theorem hI_sJ (σ : PH) (n : Nm) (j : Nat) (v : Int64) : hI (sJ σ n j v) = hI σ := rfl
theorem hR_sJ (σ : PH) (n : Nm) (j : Nat) (v : Int64) : hR (sJ σ n j v) = hR σ := rfl
theorem hJ_sJ (σ : PH) (n : Nm) (j : Nat) (v : Int64) (a : Nm) (b : Nat) : hJ (sJ σ n j v) a b = if a = n ∧ b = j then v else hJ σ a b := rfl
theorem hK_sN (σ : PH) (n : Nm) (k len : Nat) (a : Nm) : hK (sN σ n k len) a = if a = n then k else hK σ a := rfl
theorem hL_sN (σ : PH) (n : Nm) (k len : Nat) (a : Nm) : hL (sN σ n k len) a = if a = n then len else hL σ a := rfl
theorem hI_sN (σ : PH) (n : Nm) (k len : Nat) (a : Nm) (b : Nat) : hI (sN σ n k len) a b = if a = n then 0 else hI σ a b := rfl
theorem hR_sN (σ : PH) (n : Nm) (k len : Nat) (a : Nm) (b : Nat) : hR (sN σ n k len) a b = if a = n then none else hR σ a b := rfl
theorem hJ_sN (σ : PH) (n : Nm) (k len : Nat) (a : Nm) (b : Nat) : hJ (sN σ n k len) a b = if a = n then 0 else hJ σ a b := rfl
/-- kinds: 1 .. 8 the objects of the classes (vwCl, one more), 9 int[], 10 boolean[], 11 Item[], 12 Message[], 13 Subscription[], 14 long[]; 0: no such thing -/
abbrev vwCl : List vw_C := [(RX0, TX0, 4), (RX1, TX1, 12), (RX2, TX2, 5), (RX3, TX3, 5), (RX4, TX4, 14), (RX5, TX5, 2), (RX6, TX6, 9)]
def xRef : Nat → Nat → Bool
  | 1, j => decide (j < 3)
  | 2, j => j == 1 || j == 4 || j == 5
  | 3, j => decide (j < 3)
  | 4, j => j == 2 || j == 3
  | 5, j => j == 0 || j == 5 || j == 6
  | 6, _ => false
  | 7, j => decide (j < 5)
  | 8, j => !(j == 0 || j == 1 || j == 3 || j == 15 || j == 35)
  | _, _ => false
def xTy : Nat → FieldType
  | 9 => .int
  | 10 => .boolean
  | 11 => .object "PlantServer$Item"
  | 12 => .object "PlantServer$Message"
  | 13 => .object "PlantServer$Subscription"
  | _ => .long
/-- where things lie, and what the classes' numbers are: the first address that is ours; class numbers and slots; the arrays' class numbers -/
abbrev xG : Type := Nat × (Nat → ClassId) × (Nat → Nat → Nat) × (Nat → ClassId) × (Nat × Nat × (Nat → Int32))
/-- the law's script: its cell, its length, its ints -/
def gb (G : xG) : Nat := G.2.2.2.2.1
def gL (G : xG) : Nat := G.2.2.2.2.2.1
def gx (G : xG) : Nat → Int32 := G.2.2.2.2.2.2
abbrev xA (G : xG) : Nat → Prop := fun q => G.1 ≤ q
def xtys (G : xG) : List (ClassId × FieldType) := [(G.2.2.2.1 9, .int), (G.2.2.2.1 10, .boolean), (G.2.2.2.1 11, .object "PlantServer$Item"), (G.2.2.2.1 12, .object "PlantServer$Message"), (G.2.2.2.1 13, .object "PlantServer$Subscription"), (G.2.2.2.1 14, .long)]
def rv (ρ : Nm → Nat) (o : Option Nm) : Value := va_rf (o.map ρ)
theorem rv_none (ρ : Nm → Nat) : rv ρ none = .null := rfl
theorem rv_some (ρ : Nm → Nat) (n : Nm) : rv ρ (some n) = .ref (ρ n) := rfl
def xV (ρ : Nm → Nat) (σ : PH) (n : Nm) : Nat → Value := fun j => if xRef (hK σ n) j = true then rv ρ (hR σ n j) else .int (hI σ n j)
def xcont (ρ : Nm → Nat) (σ : PH) (n : Nm) : vp_A := (hL σ n, if hK σ n ≤ 10 then .inl (hI σ n) else if hK σ n ≤ 13 then .inr (.inr (.inr (.inr (fun j => (hR σ n j).map ρ)))) else .inr (.inl (hJ σ n)))
def xat (G : xG) (ρ : Nm → Nat) (σ : PH) (n : Nm) (H : Heap) : Prop :=
  if hK σ n ≤ 8 then ∃ r : vw_C, vwCl[hK σ n - 1]? = some r ∧ t_OB (ρ n) (G.2.1 (hK σ n - 1)) r.2.2 (G.2.2.1 (hK σ n - 1)) H (xV ρ σ n)
  else H[ρ n]? = some (vp_cell (G.2.2.2.1 (hK σ n)) (xcont ρ σ n))
/-- the heap holds the named heap: each named thing lies at its address, of ours; the addresses are apart; no reference to what isn't there -/
def xW (G : xG) (ρ : Nm → Nat) (σ : PH) (H : Heap) : Prop :=
  (∀ n, hK σ n ≠ 0 → G.1 ≤ ρ n ∧ xat G ρ σ n H) ∧ (∀ n m, hK σ n ≠ 0 → hK σ m ≠ 0 → ρ n = ρ m → n = m) ∧ ∀ n j m, hR σ n j = some m → hK σ m ≠ 0
/-- what stays of an older named heap: its things and their addresses -/
def xAg (σ0 : PH) (ρ0 : Nm → Nat) (σ : PH) (ρ : Nm → Nat) : Prop := ∀ n, hK σ0 n ≠ 0 → hK σ n = hK σ0 n ∧ ρ n = ρ0 n
theorem xAg.rf {σ : PH} {ρ : Nm → Nat} : xAg σ ρ σ ρ := fun _ _ => ⟨rfl, rfl⟩
theorem xAg.tr {σ0 σ1 σ2 : PH} {ρ0 ρ1 ρ2 : Nm → Nat} (h : xAg σ0 ρ0 σ1 ρ1) (g : xAg σ1 ρ1 σ2 ρ2) : xAg σ0 ρ0 σ2 ρ2 := fun n hn => by
  have h1 := h n hn
  have h2 := g n (by rw [h1.1]; exact hn)
  exact ⟨h2.1.trans h1.1, h2.2.trans h1.2⟩
theorem xAg.same {σ0 σ1 σ2 : PH} {ρ0 ρ1 : Nm → Nat} (h : xAg σ0 ρ0 σ1 ρ1) (e : hK σ2 = hK σ1) : xAg σ0 ρ0 σ2 ρ1 := fun n hn => by rw [e]; exact h n hn
/-- strings, classes and the like: what a method must know of the tables, and that stays -/
def xStrs : List (String × Nat × String) := [("PlantServer", 187, "there is no such node"), ("PlantServer", 183, "an argument is out of its range"), ("PlantServer", 61, "there were 4 subscriptions"), ("PlantServer", 190, "there is no such subscription"), ("PlantServer", 192, "the subscription is not open"), ("PlantServer", 82, "there were 16 items"), ("PlantServer", 194, "there is no such item"), ("PlantServer", 196, "the item is not there"), ("PlantServer", 111, "an item does not trigger itself"), ("PlantServer", 118, "the items are of unlike subscriptions"), ("PlantServer", 127, "10 requests wait"), ("PlantServer", 129, "there would be more than 5000 ticks"), ("PlantServer", 200, "the message is not kept"), ("PlantServer", 203, "the message has no such place")]
def xIO : String := "java/lang/IndexOutOfBoundsException"
def xIA : String := "java/lang/IllegalArgumentException"
def xIS : String := "java/lang/IllegalStateException"
def xNE : String := "java/util/NoSuchElementException"
def xNcs : List (String × String) := [(xIA, xIO), (xIS, xIO), (xNE, xIO), (xIS, xIA)]
def isCD : Cond → Bool
  | .castable .. => true
  | .declares .. => true
  | .methodLinkNest .. => true
  | _ => false
def T1 : List Cond := lw_tbl.filter isCD
def xEnv (G : xG) (U : State) : Prop :=
  va_K (G.2.1, G.2.2.1) vwCl (xtys G) U ∧ vx_Zq Bundle.tN "UNASSIGNED_STACK" Bundle.steD (xA G) U U.heap ∧ vx_Zq Bundle.tN "SUPPRESSED_SENTINEL" Bundle.listD (xA G) U U.heap ∧
  (∀ q ∈ xStrs, ∃ a, vk_R q.1 q.2.1 q.2.2 a U) ∧ (∀ w ∈ T1, va_Nw w U) ∧ (∀ q ∈ xNcs, va_Nc q.1 q.2 U) ∧ (∀ C ∈ ["PlantServer$Item", "PlantServer$Message", "PlantServer$Subscription"], va_AO C U) ∧ G.1 ≤ U.heap.size ∧ va_X (gb G) (gL G) (gx G) U U.heap ∧ gb G < G.1
theorem xNw_warm {w : Cond} (hw : isCD w = true) {s U : State} (hW : s.WarmedH U.vm) (h : va_Nw w s) : va_Nw w U := by
  cases w with
  | castable a b => exact va_Nw.warmC hW h
  | declares x => exact va_Nw.warmD hW h
  | methodLinkNest a i x host => exact va_Nw.warmM hW h
  | _ => simp [isCD] at hw
theorem xEnv.moved {G : xG} {s U : State} (hW : s.WarmedH U.vm) (hz : s.heap.size ≤ U.heap.size) (hq : ∀ q : Nat, q < s.heap.size → ¬ xA G q → U.heap[q]? = s.heap[q]?) (h : xEnv G s) : xEnv G U := by
  obtain ⟨h1, h2, h3, h4, h5, h6, h7, h8, h9, h10⟩ := h
  refine ⟨va_K.moved hW.alike h1, vx_Zq.moved hW.alike (vx_Zq.kept h2 hq), vx_Zq.moved hW.alike (vx_Zq.kept h3 hq), fun q hq => ?_, fun w hw => ?_, fun q hq => va_Nc.moved hW.alike (h6 q hq), fun C hC => va_AO.moved hW.alike (h7 C hC), Nat.le_trans h8 hz, va_X.moved hW.alike (va_X.kept h9 (hq _ (Nat.lt_of_lt_of_le h10 h8) (Nat.not_le.mpr h10))), h10⟩
  · obtain ⟨a, ha⟩ := h4 q hq
    exact ⟨a, vk_R.warm hW ha⟩
  · exact xNw_warm (List.mem_filter.mp hw).2 hW (h5 w hw)
/-- a method's start: the world and what is known of the tables -/
def xPre (G : xG) (ρ : Nm → Nat) (σ : PH) (U : State) : Prop := xW G ρ σ U.heap ∧ xEnv G U
theorem x_blind {G : xG} {ρ : Nm → Nat} {σ : PH} {as : List Value} : FrameBlind (va_Pc as (xPre G ρ σ)) := by
  intro a U g mk h
  obtain ⟨h1, h2, h3⟩ := h
  refine ⟨h1, h2, ?_⟩
  exact xEnv.moved (s := U) (U := U.calling g mk a) (State.WarmedH.refl U) (Nat.le_refl _) (fun _ _ _ => rfl) h3
/-- a method's end -/
def xQ (G : xG) (ρ : Nm → Nat) (σ : PH) (P : Option Value → PH → (Nm → Nat) → Prop) : Array Value → State → Outcome → State → Prop := fun _ st oc t =>
  (∃ (v : Option Value) (σ' : PH) (ρ' : Nm → Nat), oc = .returned v ∧ P v σ' ρ' ∧ xW G ρ' σ' t.heap ∧ xAg σ ρ σ' ρ') ∧ va_F (xA G) st t
def xXC (G : xG) (ρ : Nm → Nat) (σ : PH) (Xp : String → PH → Prop) : String → State → State → Prop := fun E st t =>
  (∃ σ' : PH, Xp E σ' ∧ xW G ρ σ' t.heap ∧ xAg σ ρ σ' ρ) ∧ va_F (xA G) st t
def xMet (l : Launch) (y : MethodName) (w0 : Cond) (rm : Room) (G : xG) (ρ : Nm → Nat) (σ : PH) (as : List Value) (P : Option Value → PH → (Nm → Nat) → Prop) (Xp : String → PH → Prop) : Prop :=
  vx_Met l y (w0 :: T0) rm (va_Pc as (xPre G ρ σ)) (xQ G ρ σ P) (xXC G ρ σ Xp) rm.cells rm.slots (xA G)
/-- the ends: an int, nothing, a reference; the last letter A: of a method that makes things -/
def eI (ρ : Nm → Nat) (Q : Int32 → PH → Prop) : Option Value → PH → (Nm → Nat) → Prop := fun v σ' ρ' => ρ' = ρ ∧ ∃ r, v = some (.int r) ∧ Q r σ'
def eV (ρ : Nm → Nat) (Q : PH → Prop) : Option Value → PH → (Nm → Nat) → Prop := fun v σ' ρ' => ρ' = ρ ∧ v = none ∧ Q σ'
def eR (ρ : Nm → Nat) (Q : Option Nm → PH → Prop) : Option Value → PH → (Nm → Nat) → Prop := fun v σ' ρ' => ρ' = ρ ∧ ∃ r, v = some (rv ρ' r) ∧ Q r σ'
def eIA (Q : Int32 → PH → Prop) : Option Value → PH → (Nm → Nat) → Prop := fun v σ' _ => ∃ r, v = some (.int r) ∧ Q r σ'
def eVA (Q : PH → Prop) : Option Value → PH → (Nm → Nat) → Prop := fun v σ' _ => v = none ∧ Q σ'
def eRA (Q : Option Nm → PH → Prop) : Option Value → PH → (Nm → Nat) → Prop := fun v σ' ρ' => ∃ r, v = some (rv ρ' r) ∧ Q r σ'
def xNo : String → PH → Prop := fun _ _ => False
/-- a method's frame: program, launch, .., and the named heap at its start -/
abbrev xX : Type := Program × Launch × Env × Room × State × MethodId × Array Value × List Frame × Method × Code × PH × (Nm → Nat)
def xC (G : xG) (X : xX) (own : String) (cc : ByteArray) (nL : Nat) (rm : Room) : Prop := match X with
  | (p, l, _, R, s, m, args, _, meth, c, _, _) => p.tables.exec = Jvm.exec ∧ c.code = cc ∧ c.maxLocals = nL ∧ s.vm.findClass own = some m.cls ∧ (∀ w ∈ T0, w.before args s = true) ∧ xEnv G s ∧ meth.locks = false ∧ l.stackTraces = false ∧ R = rm
def xH (G : xG) (X : xX) (ρ : Nm → Nat) (σ : PH) (H : Heap) (locs : List Loc) : Prop := match X with
  | (_, _, _, _, s, _, _, _, _, _, σ0, ρ0) => xW G ρ σ H ∧ va_S (xA G) s.heap H locs ∧ xAg σ0 ρ0 σ ρ
/-- from every heap that holds the named heap, and from every frame that holds these locals, the machine comes to Q -/
def xJ (G : xG) (X : xX) (Q : State → Prop) (nL : Nat) (ρ : Nm → Nat) (σ : PH) (k n pc : Nat) (L : List (Nat × Value)) (st : List Value) : Prop := match X with
  | (p, l, e, R, s, m, args, below, meth, c, σ0, ρ0) => ∀ (H : Heap) (locs : List Loc) (ls : Array Slot), xH G (p, l, e, R, s, m, args, below, meth, c, σ0, ρ0) ρ σ H locs → lv_has ls nL L → W p l e R s m args below meth c H locs k n Q (F0 m pc ls st)
/-- the same, with an exception of class E on its way -/
def xE (G : xG) (X : xX) (Q : State → Prop) (nL : Nat) (ρ : Nm → Nat) (σ : PH) (k n pc : Nat) (L : List (Nat × Value)) (E : String) : Prop := match X with
  | (p, l, e, R, s, m, args, below, meth, c, σ0, ρ0) => ∀ (H : Heap) (locs : List Loc) (ls : Array Slot) (rest : List Value) (q : Addr) (ce : Cell), xH G (p, l, e, R, s, m, args, below, meth, c, σ0, ρ0) ρ σ H locs → lv_has ls nL L → H[q]? = some ce → ce.vm = .none → s.vm.findClass E = some ce.cls → vx_W p l e R s m args below meth c H locs k n Q (F0 m pc ls rest) q
/-- what a body owes at its end -/
def xT (X : xX) (P : Option Value → PH → (Nm → Nat) → Prop) (Xp : String → PH → Prop) (G : xG) (rm : Room) : State → Prop := match X with
  | (_, _, _, _, s, _, args, below, _, _, σ0, ρ0) => vx_MQ below (xQ G ρ0 σ0 P) (xXC G ρ0 σ0 Xp) args s rm.cells rm.slots (xA G)
end
section
section
variable {G : xG} {X : xX} {Q : State → Prop} {nL : Nat} {rm : Room} {own : String} {cc : ByteArray} {ρ : Nm → Nat} {σ : PH} {k n pc : Nat} {L : List (Nat × Value)} {st : List Value}
/-- a fact of a ref's bit -/
def zb (x : Int32) : Prop := x = 0 ∨ x = 1
theorem zb0 : zb 0 := Or.inl rfl
theorem zb1 : zb 1 := Or.inr rfl
theorem zb_n {x : Int32} (h : zb x) : narrow .boolean (.int x) = .int x := by
  rcases h with rfl | rfl <;> rfl
theorem zb_f {x : Int32} (h : zb x) : fits .boolean (.int x) = true := by
  rcases h with rfl | rfl <;> rfl
theorem xJ.heap {σ' : PH} (h : σ = σ') (kk : xJ G X Q nL ρ σ' k n pc L st) : xJ G X Q nL ρ σ k n pc L st := h ▸ kk
theorem xJ.loc {L' : List (Nat × Value)} (h : L = L') (kk : xJ G X Q nL ρ σ k n pc L' st) : xJ G X Q nL ρ σ k n pc L st := h ▸ kk
theorem xJ.stk {st' : List Value} (h : st = st') (kk : xJ G X Q nL ρ σ k n pc L st') : xJ G X Q nL ρ σ k n pc L st := h ▸ kk
theorem xJ.sub {L' : List (Nat × Value)} (ks : List Nat) (h : lv_pick L ks = L') (kk : xJ G X Q nL ρ σ k n pc L' st) : xJ G X Q nL ρ σ k n pc L st := by
  obtain ⟨p, l, e, R, s, m, args, below, meth, c, σ0, ρ0⟩ := X
  intro H locs ls hH hl
  exact kk H locs ls hH (lv_sub hl ks h)
theorem xJ.wid {k' n' : Nat} (h1 : k ≤ k') (h2 : n ≤ n') (kk : xJ G X Q nL ρ σ k' n' pc L st) : xJ G X Q nL ρ σ k n pc L st := by
  obtain ⟨p, l, e, R, s, m, args, below, meth, c, σ0, ρ0⟩ := X
  intro H locs ls hH hl
  exact W.widen h1 h2 (kk H locs ls hH hl)

theorem x_iconst (hC : xC G X own cc nL rm) {i : Int} {v : Int32} (d : decode cc pc = .ok (.iconst i, 1)) (hv : Int32.ofInt i = v) (kk : xJ G X Q nL ρ σ k n (pc + 1) L (.int v :: st)) : xJ G X Q nL ρ σ k n pc L (st) := by
  obtain ⟨p, l, e, R, s, m, args, below, meth, c, σ0, ρ0⟩ := X
  obtain ⟨hx, hb, -⟩ := hC
  intro H locs ls hH hl
  exact lv_iconst hx hb d hv (kk H locs ls hH hl)
theorem x_bipush (hC : xC G X own cc nL rm) {i : Int} {v : Int32} (d : decode cc pc = .ok (.bipush i, 2)) (hv : (Int8.ofInt i).toInt32 = v) (kk : xJ G X Q nL ρ σ k n (pc + 2) L (.int v :: st)) : xJ G X Q nL ρ σ k n pc L (st) := by
  obtain ⟨p, l, e, R, s, m, args, below, meth, c, σ0, ρ0⟩ := X
  obtain ⟨hx, hb, -⟩ := hC
  intro H locs ls hH hl
  exact lv_bipush hx hb d hv (kk H locs ls hH hl)
theorem x_sipush (hC : xC G X own cc nL rm) {i : Int} {v : Int32} (d : decode cc pc = .ok (.sipush i, 3)) (hv : (Int16.ofInt i).toInt32 = v) (kk : xJ G X Q nL ρ σ k n (pc + 3) L (.int v :: st)) : xJ G X Q nL ρ σ k n pc L (st) := by
  obtain ⟨p, l, e, R, s, m, args, below, meth, c, σ0, ρ0⟩ := X
  obtain ⟨hx, hb, -⟩ := hC
  intro H locs ls hH hl
  exact lv_sipush hx hb d hv (kk H locs ls hH hl)
theorem x_lconst (hC : xC G X own cc nL rm) {i : Fin 2} {v : Int64} (d : decode cc pc = .ok (.lconst i, 1)) (hv : Int64.ofNat (i : Nat) = v) (kk : xJ G X Q nL ρ σ k n (pc + 1) L (.long v :: st)) : xJ G X Q nL ρ σ k n pc L (st) := by
  obtain ⟨p, l, e, R, s, m, args, below, meth, c, σ0, ρ0⟩ := X
  obtain ⟨hx, hb, -⟩ := hC
  intro H locs ls hH hl
  exact lv_lconst hx hb d hv (kk H locs ls hH hl)
theorem x_null (hC : xC G X own cc nL rm) (d : decode cc pc = .ok (.aconst_null, 1)) (kk : xJ G X Q nL ρ σ k n (pc + 1) L (.null :: st)) : xJ G X Q nL ρ σ k n pc L (st) := by
  obtain ⟨p, l, e, R, s, m, args, below, meth, c, σ0, ρ0⟩ := X
  obtain ⟨hx, hb, -⟩ := hC
  intro H locs ls hH hl
  exact lv_null hx hb d (kk H locs ls hH hl)
theorem x_iload (hC : xC G X own cc nL rm) {i : Nat} {v : Int32} (q : Nat) (hL : L[q]? = some (i, .int v)) (d : decode cc pc = .ok (.iload i, 2)) (kk : xJ G X Q nL ρ σ k n (pc + 2) L (.int v :: st)) : xJ G X Q nL ρ σ k n pc L (st) := by
  obtain ⟨p, l, e, R, s, m, args, below, meth, c, σ0, ρ0⟩ := X
  obtain ⟨hx, hb, -⟩ := hC
  intro H locs ls hH hl
  exact lv_iload hx hb d (lv_at hl q hL) (kk H locs ls hH hl)
theorem x_iload_n (hC : xC G X own cc nL rm) {i : Fin 4} {v : Int32} (q : Nat) (hL : L[q]? = some ((i : Nat), .int v)) (d : decode cc pc = .ok (.iload_n i, 1)) (kk : xJ G X Q nL ρ σ k n (pc + 1) L (.int v :: st)) : xJ G X Q nL ρ σ k n pc L (st) := by
  obtain ⟨p, l, e, R, s, m, args, below, meth, c, σ0, ρ0⟩ := X
  obtain ⟨hx, hb, -⟩ := hC
  intro H locs ls hH hl
  exact lv_iload_n hx hb d rfl (lv_at hl q hL) (kk H locs ls hH hl)
theorem x_aload (hC : xC G X own cc nL rm) {i a : Nat} (q : Nat) (hL : L[q]? = some (i, .ref a)) (d : decode cc pc = .ok (.aload i, 2)) (kk : xJ G X Q nL ρ σ k n (pc + 2) L (.ref a :: st)) : xJ G X Q nL ρ σ k n pc L (st) := by
  obtain ⟨p, l, e, R, s, m, args, below, meth, c, σ0, ρ0⟩ := X
  obtain ⟨hx, hb, -⟩ := hC
  intro H locs ls hH hl
  exact lv_aload hx hb d (lv_at hl q hL) (kk H locs ls hH hl)
theorem x_aload_n (hC : xC G X own cc nL rm) {i : Fin 4} {a : Nat} (q : Nat) (hL : L[q]? = some ((i : Nat), .ref a)) (d : decode cc pc = .ok (.aload_n i, 1)) (kk : xJ G X Q nL ρ σ k n (pc + 1) L (.ref a :: st)) : xJ G X Q nL ρ σ k n pc L (st) := by
  obtain ⟨p, l, e, R, s, m, args, below, meth, c, σ0, ρ0⟩ := X
  obtain ⟨hx, hb, -⟩ := hC
  intro H locs ls hH hl
  exact lv_aload_n hx hb d rfl (lv_at hl q hL) (kk H locs ls hH hl)
theorem x_aloadQ (hC : xC G X own cc nL rm) {i : Nat} {o : Option Nm} (q : Nat) (hL : L[q]? = some (i, rv ρ o)) (d : decode cc pc = .ok (.aload i, 2)) (kk : xJ G X Q nL ρ σ k n (pc + 2) L (rv ρ o :: st)) : xJ G X Q nL ρ σ k n pc L st := by
  obtain ⟨p, l, e, R, s, m, args, below, meth, c, σ0, ρ0⟩ := X
  obtain ⟨hx, hb, -⟩ := hC
  intro H locs ls hH hl
  cases o with
  | none => exact lv_aloadN hx hb d (lv_at hl q hL) (kk H locs ls hH hl)
  | some o => exact lv_aload hx hb d (lv_at hl q hL) (kk H locs ls hH hl)
theorem x_aload_nQ (hC : xC G X own cc nL rm) {i : Fin 4} {o : Option Nm} (q : Nat) (hL : L[q]? = some ((i : Nat), rv ρ o)) (d : decode cc pc = .ok (.aload_n i, 1)) (kk : xJ G X Q nL ρ σ k n (pc + 1) L (rv ρ o :: st)) : xJ G X Q nL ρ σ k n pc L st := by
  obtain ⟨p, l, e, R, s, m, args, below, meth, c, σ0, ρ0⟩ := X
  obtain ⟨hx, hb, -⟩ := hC
  intro H locs ls hH hl
  cases o with
  | none => exact lv_aload_nN hx hb d rfl (lv_at hl q hL) (kk H locs ls hH hl)
  | some o => exact lv_aload_n hx hb d rfl (lv_at hl q hL) (kk H locs ls hH hl)
theorem x_istore (hC : xC G X own cc nL rm) {i : Nat} {v : Int32} {L' : List (Nat × Value)} (d : decode cc pc = .ok (.istore i, 2)) (hn : i < nL) (hf : (i, .int v) :: L.filter (fun q => !(q.1 == i) && !(q.1 + 1 == i && q.2.category == 2)) = L') (kk : xJ G X Q nL ρ σ k n (pc + 2) L' st) : xJ G X Q nL ρ σ k n pc L (.int v :: st) := by
  obtain ⟨p, l, e, R, s, m, args, below, meth, c, σ0, ρ0⟩ := X
  obtain ⟨hx, hb, -⟩ := hC
  intro H locs ls hH hl
  exact lv_istore hx hb d hl hn hf (fun ls' hl' => kk H locs ls' hH hl')
theorem x_istore_n (hC : xC G X own cc nL rm) {i : Fin 4} {v : Int32} {L' : List (Nat × Value)} (d : decode cc pc = .ok (.istore_n i, 1)) (hn : (i : Nat) < nL) (hf : ((i : Nat), .int v) :: L.filter (fun q => !(q.1 == (i : Nat)) && !(q.1 + 1 == (i : Nat) && q.2.category == 2)) = L') (kk : xJ G X Q nL ρ σ k n (pc + 1) L' st) : xJ G X Q nL ρ σ k n pc L (.int v :: st) := by
  obtain ⟨p, l, e, R, s, m, args, below, meth, c, σ0, ρ0⟩ := X
  obtain ⟨hx, hb, -⟩ := hC
  intro H locs ls hH hl
  exact lv_istore_n hx hb d rfl hl hn hf (fun ls' hl' => kk H locs ls' hH hl')
theorem x_astore (hC : xC G X own cc nL rm) {i : Nat} {v : Nat} {L' : List (Nat × Value)} (d : decode cc pc = .ok (.astore i, 2)) (hn : i < nL) (hf : (i, .ref v) :: L.filter (fun q => !(q.1 == i) && !(q.1 + 1 == i && q.2.category == 2)) = L') (kk : xJ G X Q nL ρ σ k n (pc + 2) L' st) : xJ G X Q nL ρ σ k n pc L (.ref v :: st) := by
  obtain ⟨p, l, e, R, s, m, args, below, meth, c, σ0, ρ0⟩ := X
  obtain ⟨hx, hb, -⟩ := hC
  intro H locs ls hH hl
  exact lv_astore hx hb d hl hn hf (fun ls' hl' => kk H locs ls' hH hl')
theorem x_astore_n (hC : xC G X own cc nL rm) {i : Fin 4} {v : Nat} {L' : List (Nat × Value)} (d : decode cc pc = .ok (.astore_n i, 1)) (hn : (i : Nat) < nL) (hf : ((i : Nat), .ref v) :: L.filter (fun q => !(q.1 == (i : Nat)) && !(q.1 + 1 == (i : Nat) && q.2.category == 2)) = L') (kk : xJ G X Q nL ρ σ k n (pc + 1) L' st) : xJ G X Q nL ρ σ k n pc L (.ref v :: st) := by
  obtain ⟨p, l, e, R, s, m, args, below, meth, c, σ0, ρ0⟩ := X
  obtain ⟨hx, hb, -⟩ := hC
  intro H locs ls hH hl
  exact lv_astore_n hx hb d rfl hl hn hf (fun ls' hl' => kk H locs ls' hH hl')
theorem x_astoreQ (hC : xC G X own cc nL rm) {i : Nat} {o : Option Nm} {L' : List (Nat × Value)} (d : decode cc pc = .ok (.astore i, 2)) (hn : i < nL) (hf : (i, rv ρ o) :: L.filter (fun q => !(q.1 == i) && !(q.1 + 1 == i && q.2.category == 2)) = L') (kk : xJ G X Q nL ρ σ k n (pc + 2) L' st) : xJ G X Q nL ρ σ k n pc L (rv ρ o :: st) := by
  obtain ⟨p, l, e, R, s, m, args, below, meth, c, σ0, ρ0⟩ := X
  obtain ⟨hx, hb, -⟩ := hC
  intro H locs ls hH hl
  cases o with
  | none => exact lv_astoreN hx hb d hl hn hf (fun ls' hl' => kk H locs ls' hH hl')
  | some o => exact lv_astore hx hb d hl hn hf (fun ls' hl' => kk H locs ls' hH hl')
theorem x_astore_nQ (hC : xC G X own cc nL rm) {i : Fin 4} {o : Option Nm} {L' : List (Nat × Value)} (d : decode cc pc = .ok (.astore_n i, 1)) (hn : (i : Nat) < nL) (hf : ((i : Nat), rv ρ o) :: L.filter (fun q => !(q.1 == (i : Nat)) && !(q.1 + 1 == (i : Nat) && q.2.category == 2)) = L') (kk : xJ G X Q nL ρ σ k n (pc + 1) L' st) : xJ G X Q nL ρ σ k n pc L (rv ρ o :: st) := by
  obtain ⟨p, l, e, R, s, m, args, below, meth, c, σ0, ρ0⟩ := X
  obtain ⟨hx, hb, -⟩ := hC
  intro H locs ls hH hl
  cases o with
  | none => exact lv_astore_nN hx hb d rfl hl hn hf (fun ls' hl' => kk H locs ls' hH hl')
  | some o => exact lv_astore_n hx hb d rfl hl hn hf (fun ls' hl' => kk H locs ls' hH hl')
theorem x_iinc (hC : xC G X own cc nL rm) {i : Nat} {w : Int} {v v' : Int32} {L' : List (Nat × Value)} (q : Nat) (hL : L[q]? = some (i, .int v)) (d : decode cc pc = .ok (.iinc i w, 3)) (hv : v + Int32.ofInt w = v') (hn : i < nL) (hf : (i, .int v') :: L.filter (fun q => !(q.1 == i) && !(q.1 + 1 == i && q.2.category == 2)) = L') (kk : xJ G X Q nL ρ σ k n (pc + 3) L' st) : xJ G X Q nL ρ σ k n pc L st := by
  obtain ⟨p, l, e, R, s, m, args, below, meth, c, σ0, ρ0⟩ := X
  obtain ⟨hx, hb, -⟩ := hC
  intro H locs ls hH hl
  exact lv_iinc hx hb d hl hL hv hn hf (fun ls' hl' => kk H locs ls' hH hl')
theorem x_iadd (hC : xC G X own cc nL rm) {x y : Int32} (d : decode cc pc = .ok (.iadd, 1)) (kk : xJ G X Q nL ρ σ k n (pc + 1) L (.int (x + y) :: st)) : xJ G X Q nL ρ σ k n pc L (.int y :: .int x :: st) := by
  obtain ⟨p, l, e, R, s, m, args, below, meth, c, σ0, ρ0⟩ := X
  obtain ⟨hx, hb, -⟩ := hC
  intro H locs ls hH hl
  exact lv_iadd hx hb d (kk H locs ls hH hl)
theorem x_isub (hC : xC G X own cc nL rm) {x y : Int32} (d : decode cc pc = .ok (.isub, 1)) (kk : xJ G X Q nL ρ σ k n (pc + 1) L (.int (x - y) :: st)) : xJ G X Q nL ρ σ k n pc L (.int y :: .int x :: st) := by
  obtain ⟨p, l, e, R, s, m, args, below, meth, c, σ0, ρ0⟩ := X
  obtain ⟨hx, hb, -⟩ := hC
  intro H locs ls hH hl
  exact lv_isub hx hb d (kk H locs ls hH hl)
theorem x_imul (hC : xC G X own cc nL rm) {x y : Int32} (d : decode cc pc = .ok (.imul, 1)) (kk : xJ G X Q nL ρ σ k n (pc + 1) L (.int (x * y) :: st)) : xJ G X Q nL ρ σ k n pc L (.int y :: .int x :: st) := by
  obtain ⟨p, l, e, R, s, m, args, below, meth, c, σ0, ρ0⟩ := X
  obtain ⟨hx, hb, -⟩ := hC
  intro H locs ls hH hl
  exact lv_imul hx hb d (kk H locs ls hH hl)
theorem x_iand (hC : xC G X own cc nL rm) {x y : Int32} (d : decode cc pc = .ok (.iand, 1)) (kk : xJ G X Q nL ρ σ k n (pc + 1) L (.int (x &&& y) :: st)) : xJ G X Q nL ρ σ k n pc L (.int y :: .int x :: st) := by
  obtain ⟨p, l, e, R, s, m, args, below, meth, c, σ0, ρ0⟩ := X
  obtain ⟨hx, hb, -⟩ := hC
  intro H locs ls hH hl
  exact lv_iand hx hb d (kk H locs ls hH hl)
theorem x_ior (hC : xC G X own cc nL rm) {x y : Int32} (d : decode cc pc = .ok (.ior, 1)) (kk : xJ G X Q nL ρ σ k n (pc + 1) L (.int (x ||| y) :: st)) : xJ G X Q nL ρ σ k n pc L (.int y :: .int x :: st) := by
  obtain ⟨p, l, e, R, s, m, args, below, meth, c, σ0, ρ0⟩ := X
  obtain ⟨hx, hb, -⟩ := hC
  intro H locs ls hH hl
  exact lv_ior hx hb d (kk H locs ls hH hl)
theorem x_ixor (hC : xC G X own cc nL rm) {x y : Int32} (d : decode cc pc = .ok (.ixor, 1)) (kk : xJ G X Q nL ρ σ k n (pc + 1) L (.int (x ^^^ y) :: st)) : xJ G X Q nL ρ σ k n pc L (.int y :: .int x :: st) := by
  obtain ⟨p, l, e, R, s, m, args, below, meth, c, σ0, ρ0⟩ := X
  obtain ⟨hx, hb, -⟩ := hC
  intro H locs ls hH hl
  exact lv_ixor hx hb d (kk H locs ls hH hl)
theorem x_ishl (hC : xC G X own cc nL rm) {x y : Int32} (d : decode cc pc = .ok (.ishl, 1)) (kk : xJ G X Q nL ρ σ k n (pc + 1) L (.int (x <<< (y &&& 31)) :: st)) : xJ G X Q nL ρ σ k n pc L (.int y :: .int x :: st) := by
  obtain ⟨p, l, e, R, s, m, args, below, meth, c, σ0, ρ0⟩ := X
  obtain ⟨hx, hb, -⟩ := hC
  intro H locs ls hH hl
  exact lv_ishl hx hb d (kk H locs ls hH hl)
theorem x_ishr (hC : xC G X own cc nL rm) {x y : Int32} (d : decode cc pc = .ok (.ishr, 1)) (kk : xJ G X Q nL ρ σ k n (pc + 1) L (.int (x >>> (y &&& 31)) :: st)) : xJ G X Q nL ρ σ k n pc L (.int y :: .int x :: st) := by
  obtain ⟨p, l, e, R, s, m, args, below, meth, c, σ0, ρ0⟩ := X
  obtain ⟨hx, hb, -⟩ := hC
  intro H locs ls hH hl
  exact lv_ishr hx hb d (kk H locs ls hH hl)
theorem x_iushr (hC : xC G X own cc nL rm) {x y : Int32} (d : decode cc pc = .ok (.iushr, 1)) (kk : xJ G X Q nL ρ σ k n (pc + 1) L (.int ((x.toUInt32 >>> (y.toUInt32 &&& Int32.toUInt32 31)).toInt32) :: st)) : xJ G X Q nL ρ σ k n pc L (.int y :: .int x :: st) := by
  obtain ⟨p, l, e, R, s, m, args, below, meth, c, σ0, ρ0⟩ := X
  obtain ⟨hx, hb, -⟩ := hC
  intro H locs ls hH hl
  exact lv_iushr hx hb d rfl (kk H locs ls hH hl)
theorem x_idiv (hC : xC G X own cc nL rm) {x y : Int32} (h0 : ¬ y = 0) (d : decode cc pc = .ok (.idiv, 1)) (kk : xJ G X Q nL ρ σ k n (pc + 1) L (.int (x / y) :: st)) : xJ G X Q nL ρ σ k n pc L (.int y :: .int x :: st) := by
  obtain ⟨p, l, e, R, s, m, args, below, meth, c, σ0, ρ0⟩ := X
  obtain ⟨hx, hb, -⟩ := hC
  intro H locs ls hH hl
  exact lv_idiv hx hb d h0 (kk H locs ls hH hl)
theorem x_irem (hC : xC G X own cc nL rm) {x y : Int32} (h0 : ¬ y = 0) (d : decode cc pc = .ok (.irem, 1)) (kk : xJ G X Q nL ρ σ k n (pc + 1) L (.int (x - x / y * y) :: st)) : xJ G X Q nL ρ σ k n pc L (.int y :: .int x :: st) := by
  obtain ⟨p, l, e, R, s, m, args, below, meth, c, σ0, ρ0⟩ := X
  obtain ⟨hx, hb, -⟩ := hC
  intro H locs ls hH hl
  exact lv_irem hx hb d h0 (kk H locs ls hH hl)
theorem x_i2l (hC : xC G X own cc nL rm) {x : Int32} (d : decode cc pc = .ok (.i2l, 1)) (kk : xJ G X Q nL ρ σ k n (pc + 1) L (.long x.toInt64 :: st)) : xJ G X Q nL ρ σ k n pc L (.int x :: st) := by
  obtain ⟨p, l, e, R, s, m, args, below, meth, c, σ0, ρ0⟩ := X
  obtain ⟨hx, hb, -⟩ := hC
  intro H locs ls hH hl
  exact lv_i2l hx hb d rfl (kk H locs ls hH hl)
theorem x_lcmp (hC : xC G X own cc nL rm) {x y : Int64} (d : decode cc pc = .ok (.lcmp, 1)) (kk : xJ G X Q nL ρ σ k n (pc + 1) L (.int (lg_cmp x y) :: st)) : xJ G X Q nL ρ σ k n pc L (.long y :: .long x :: st) := by
  obtain ⟨p, l, e, R, s, m, args, below, meth, c, σ0, ρ0⟩ := X
  obtain ⟨hx, hb, -⟩ := hC
  intro H locs ls hH hl
  exact W.lcmp hx hb d (kk H locs ls hH hl)
theorem x_dup (hC : xC G X own cc nL rm) {v : Value} (hv : v.category = 1) (d : decode cc pc = .ok (.dup, 1)) (kk : xJ G X Q nL ρ σ k n (pc + 1) L (v :: v :: st)) : xJ G X Q nL ρ σ k n pc L (v :: st) := by
  obtain ⟨p, l, e, R, s, m, args, below, meth, c, σ0, ρ0⟩ := X
  obtain ⟨hx, hb, -⟩ := hC
  intro H locs ls hH hl
  exact lv_dup hx hb d hv (kk H locs ls hH hl)
theorem x_dup2 (hC : xC G X own cc nL rm) {v w : Value} (hv : v.category = 1) (hw : w.category = 1) (d : decode cc pc = .ok (.dup2, 1)) (kk : xJ G X Q nL ρ σ k n (pc + 1) L (v :: w :: v :: w :: st)) : xJ G X Q nL ρ σ k n pc L (v :: w :: st) := by
  obtain ⟨p, l, e, R, s, m, args, below, meth, c, σ0, ρ0⟩ := X
  obtain ⟨hx, hb, -⟩ := hC
  intro H locs ls hH hl
  exact lv_dup2_11 hx hb d hv hw (kk H locs ls hH hl)
theorem x_icmp_eq (hC : xC G X own cc nL rm) {x y : Int32} {off : Int} {tgt : Nat} (d : decode cc pc = .ok (.if_icmp .eq off, 3)) (ht : (pc : Int) + off = (tgt : Int)) (kt : x = y → xJ G X Q nL ρ σ k n tgt L st) (kf : ¬ x = y → xJ G X Q nL ρ σ k n (pc + 3) L st) : xJ G X Q nL ρ σ k n pc L (.int y :: .int x :: st) := by
  obtain ⟨p, l, e, R, s, m, args, below, meth, c, σ0, ρ0⟩ := X
  obtain ⟨hx, hb, -⟩ := hC
  intro H locs ls hH hl
  exact lv_icmp_eq hx hb d ht (fun h => kt h H locs ls hH hl) (fun h => kf h H locs ls hH hl)
theorem x_if_eq (hC : xC G X own cc nL rm) {x : Int32} {off : Int} {tgt : Nat} (d : decode cc pc = .ok (.ifCond .eq off, 3)) (ht : (pc : Int) + off = (tgt : Int)) (kt : x = 0 → xJ G X Q nL ρ σ k n tgt L st) (kf : ¬ x = 0 → xJ G X Q nL ρ σ k n (pc + 3) L st) : xJ G X Q nL ρ σ k n pc L (.int x :: st) := by
  obtain ⟨p, l, e, R, s, m, args, below, meth, c, σ0, ρ0⟩ := X
  obtain ⟨hx, hb, -⟩ := hC
  intro H locs ls hH hl
  exact lv_if_eq hx hb d ht (fun h => kt h H locs ls hH hl) (fun h => kf h H locs ls hH hl)
theorem x_icmp_lt (hC : xC G X own cc nL rm) {x y : Int32} {off : Int} {tgt : Nat} (d : decode cc pc = .ok (.if_icmp .lt off, 3)) (ht : (pc : Int) + off = (tgt : Int)) (kt : x < y → xJ G X Q nL ρ σ k n tgt L st) (kf : ¬ x < y → xJ G X Q nL ρ σ k n (pc + 3) L st) : xJ G X Q nL ρ σ k n pc L (.int y :: .int x :: st) := by
  obtain ⟨p, l, e, R, s, m, args, below, meth, c, σ0, ρ0⟩ := X
  obtain ⟨hx, hb, -⟩ := hC
  intro H locs ls hH hl
  exact lv_icmp_lt hx hb d ht (fun h => kt h H locs ls hH hl) (fun h => kf h H locs ls hH hl)
theorem x_if_lt (hC : xC G X own cc nL rm) {x : Int32} {off : Int} {tgt : Nat} (d : decode cc pc = .ok (.ifCond .lt off, 3)) (ht : (pc : Int) + off = (tgt : Int)) (kt : x < 0 → xJ G X Q nL ρ σ k n tgt L st) (kf : ¬ x < 0 → xJ G X Q nL ρ σ k n (pc + 3) L st) : xJ G X Q nL ρ σ k n pc L (.int x :: st) := by
  obtain ⟨p, l, e, R, s, m, args, below, meth, c, σ0, ρ0⟩ := X
  obtain ⟨hx, hb, -⟩ := hC
  intro H locs ls hH hl
  exact lv_if_lt hx hb d ht (fun h => kt h H locs ls hH hl) (fun h => kf h H locs ls hH hl)
theorem x_icmp_ge (hC : xC G X own cc nL rm) {x y : Int32} {off : Int} {tgt : Nat} (d : decode cc pc = .ok (.if_icmp .ge off, 3)) (ht : (pc : Int) + off = (tgt : Int)) (kt : y ≤ x → xJ G X Q nL ρ σ k n tgt L st) (kf : ¬ y ≤ x → xJ G X Q nL ρ σ k n (pc + 3) L st) : xJ G X Q nL ρ σ k n pc L (.int y :: .int x :: st) := by
  obtain ⟨p, l, e, R, s, m, args, below, meth, c, σ0, ρ0⟩ := X
  obtain ⟨hx, hb, -⟩ := hC
  intro H locs ls hH hl
  exact lv_icmp_ge hx hb d ht (fun h => kt h H locs ls hH hl) (fun h => kf h H locs ls hH hl)
theorem x_if_ge (hC : xC G X own cc nL rm) {x : Int32} {off : Int} {tgt : Nat} (d : decode cc pc = .ok (.ifCond .ge off, 3)) (ht : (pc : Int) + off = (tgt : Int)) (kt : 0 ≤ x → xJ G X Q nL ρ σ k n tgt L st) (kf : ¬ 0 ≤ x → xJ G X Q nL ρ σ k n (pc + 3) L st) : xJ G X Q nL ρ σ k n pc L (.int x :: st) := by
  obtain ⟨p, l, e, R, s, m, args, below, meth, c, σ0, ρ0⟩ := X
  obtain ⟨hx, hb, -⟩ := hC
  intro H locs ls hH hl
  exact lv_if_ge hx hb d ht (fun h => kt h H locs ls hH hl) (fun h => kf h H locs ls hH hl)
theorem x_icmp_gt (hC : xC G X own cc nL rm) {x y : Int32} {off : Int} {tgt : Nat} (d : decode cc pc = .ok (.if_icmp .gt off, 3)) (ht : (pc : Int) + off = (tgt : Int)) (kt : y < x → xJ G X Q nL ρ σ k n tgt L st) (kf : ¬ y < x → xJ G X Q nL ρ σ k n (pc + 3) L st) : xJ G X Q nL ρ σ k n pc L (.int y :: .int x :: st) := by
  obtain ⟨p, l, e, R, s, m, args, below, meth, c, σ0, ρ0⟩ := X
  obtain ⟨hx, hb, -⟩ := hC
  intro H locs ls hH hl
  exact lv_icmp_gt hx hb d ht (fun h => kt h H locs ls hH hl) (fun h => kf h H locs ls hH hl)
theorem x_if_gt (hC : xC G X own cc nL rm) {x : Int32} {off : Int} {tgt : Nat} (d : decode cc pc = .ok (.ifCond .gt off, 3)) (ht : (pc : Int) + off = (tgt : Int)) (kt : 0 < x → xJ G X Q nL ρ σ k n tgt L st) (kf : ¬ 0 < x → xJ G X Q nL ρ σ k n (pc + 3) L st) : xJ G X Q nL ρ σ k n pc L (.int x :: st) := by
  obtain ⟨p, l, e, R, s, m, args, below, meth, c, σ0, ρ0⟩ := X
  obtain ⟨hx, hb, -⟩ := hC
  intro H locs ls hH hl
  exact lv_if_gt hx hb d ht (fun h => kt h H locs ls hH hl) (fun h => kf h H locs ls hH hl)
theorem x_icmp_le (hC : xC G X own cc nL rm) {x y : Int32} {off : Int} {tgt : Nat} (d : decode cc pc = .ok (.if_icmp .le off, 3)) (ht : (pc : Int) + off = (tgt : Int)) (kt : x ≤ y → xJ G X Q nL ρ σ k n tgt L st) (kf : ¬ x ≤ y → xJ G X Q nL ρ σ k n (pc + 3) L st) : xJ G X Q nL ρ σ k n pc L (.int y :: .int x :: st) := by
  obtain ⟨p, l, e, R, s, m, args, below, meth, c, σ0, ρ0⟩ := X
  obtain ⟨hx, hb, -⟩ := hC
  intro H locs ls hH hl
  exact lv_icmp_le hx hb d ht (fun h => kt h H locs ls hH hl) (fun h => kf h H locs ls hH hl)
theorem x_if_le (hC : xC G X own cc nL rm) {x : Int32} {off : Int} {tgt : Nat} (d : decode cc pc = .ok (.ifCond .le off, 3)) (ht : (pc : Int) + off = (tgt : Int)) (kt : x ≤ 0 → xJ G X Q nL ρ σ k n tgt L st) (kf : ¬ x ≤ 0 → xJ G X Q nL ρ σ k n (pc + 3) L st) : xJ G X Q nL ρ σ k n pc L (.int x :: st) := by
  obtain ⟨p, l, e, R, s, m, args, below, meth, c, σ0, ρ0⟩ := X
  obtain ⟨hx, hb, -⟩ := hC
  intro H locs ls hH hl
  exact lv_if_le hx hb d ht (fun h => kt h H locs ls hH hl) (fun h => kf h H locs ls hH hl)
theorem x_icmp_ne (hC : xC G X own cc nL rm) {x y : Int32} {off : Int} {tgt : Nat} (d : decode cc pc = .ok (.if_icmp .ne off, 3)) (ht : (pc : Int) + off = (tgt : Int)) (kt : ¬ x = y → xJ G X Q nL ρ σ k n tgt L st) (kf : x = y → xJ G X Q nL ρ σ k n (pc + 3) L st) : xJ G X Q nL ρ σ k n pc L (.int y :: .int x :: st) := by
  obtain ⟨p, l, e, R, s, m, args, below, meth, c, σ0, ρ0⟩ := X
  obtain ⟨hx, hb, -⟩ := hC
  intro H locs ls hH hl
  exact lv_icmp_ne hx hb d ht (fun h => kt h H locs ls hH hl) (fun h => kf h H locs ls hH hl)
theorem x_if_ne (hC : xC G X own cc nL rm) {x : Int32} {off : Int} {tgt : Nat} (d : decode cc pc = .ok (.ifCond .ne off, 3)) (ht : (pc : Int) + off = (tgt : Int)) (kt : ¬ x = 0 → xJ G X Q nL ρ σ k n tgt L st) (kf : x = 0 → xJ G X Q nL ρ σ k n (pc + 3) L st) : xJ G X Q nL ρ σ k n pc L (.int x :: st) := by
  obtain ⟨p, l, e, R, s, m, args, below, meth, c, σ0, ρ0⟩ := X
  obtain ⟨hx, hb, -⟩ := hC
  intro H locs ls hH hl
  exact lv_if_ne hx hb d ht (fun h => kt h H locs ls hH hl) (fun h => kf h H locs ls hH hl)
theorem x_goto (hC : xC G X own cc nL rm) {off : Int} {tgt : Nat} (d : decode cc pc = .ok (.goto off, 3)) (ht : (pc : Int) + off = (tgt : Int)) (kk : xJ G X Q nL ρ σ k n tgt L st) : xJ G X Q nL ρ σ k n pc L st := by
  obtain ⟨p, l, e, R, s, m, args, below, meth, c, σ0, ρ0⟩ := X
  obtain ⟨hx, hb, -⟩ := hC
  intro H locs ls hH hl
  exact lv_goto hx hb d ht (kk H locs ls hH hl)
theorem x_ifnull (hC : xC G X own cc nL rm) {o : Option Nm} {off : Int} {tgt : Nat} (d : decode cc pc = .ok (.ifnull off, 3)) (ht : (pc : Int) + off = (tgt : Int)) (kt : o = none → xJ G X Q nL ρ σ k n tgt L st) (kf : ∀ a, o = some a → xJ G X Q nL ρ σ k n (pc + 3) L st) : xJ G X Q nL ρ σ k n pc L (rv ρ o :: st) := by
  obtain ⟨p, l, e, R, s, m, args, below, meth, c, σ0, ρ0⟩ := X
  obtain ⟨hx, hb, -⟩ := hC
  intro H locs ls hH hl
  cases o with
  | none => exact lv_ifnullN hx hb d ht (kt rfl H locs ls hH hl)
  | some a => exact lv_ifnull hx hb d (kf a rfl H locs ls hH hl)
theorem x_ifnonnull (hC : xC G X own cc nL rm) {o : Option Nm} {off : Int} {tgt : Nat} (d : decode cc pc = .ok (.ifnonnull off, 3)) (ht : (pc : Int) + off = (tgt : Int)) (kt : ∀ a, o = some a → xJ G X Q nL ρ σ k n tgt L st) (kf : o = none → xJ G X Q nL ρ σ k n (pc + 3) L st) : xJ G X Q nL ρ σ k n pc L (rv ρ o :: st) := by
  obtain ⟨p, l, e, R, s, m, args, below, meth, c, σ0, ρ0⟩ := X
  obtain ⟨hx, hb, -⟩ := hC
  intro H locs ls hH hl
  cases o with
  | none => exact lv_ifnonnullN hx hb d (kf rfl H locs ls hH hl)
  | some a => exact lv_ifnonnull hx hb d ht (kt a rfl H locs ls hH hl)
theorem x_acmp_eq (hC : xC G X own cc nL rm) {a b : Nm} (ha : hK σ a ≠ 0) (hb9 : hK σ b ≠ 0) {off : Int} {tgt : Nat} (d : decode cc pc = .ok (.if_acmp .eq off, 3)) (ht : (pc : Int) + off = (tgt : Int)) (kt : a = b → xJ G X Q nL ρ σ k n tgt L st) (kf : ¬ a = b → xJ G X Q nL ρ σ k n (pc + 3) L st) : xJ G X Q nL ρ σ k n pc L (.ref (ρ b) :: .ref (ρ a) :: st) := by
  obtain ⟨p, l, e, R, s, m, args, below, meth, c, σ0, ρ0⟩ := X
  obtain ⟨hx, hb, -⟩ := hC
  intro H locs ls hH hl
  have hinj := hH.1.2.1
  exact lv_acmp_eq (rx := some (ρ a)) (ry := some (ρ b)) hx hb d ht (fun h => kt (hinj a b ha hb9 (Option.some.inj h)) H locs ls hH hl) (fun h => kf (fun q => h (by rw [q])) H locs ls hH hl)
theorem x_acmp_ne (hC : xC G X own cc nL rm) {a b : Nm} (ha : hK σ a ≠ 0) (hb9 : hK σ b ≠ 0) {off : Int} {tgt : Nat} (d : decode cc pc = .ok (.if_acmp .ne off, 3)) (ht : (pc : Int) + off = (tgt : Int)) (kt : ¬ a = b → xJ G X Q nL ρ σ k n tgt L st) (kf : a = b → xJ G X Q nL ρ σ k n (pc + 3) L st) : xJ G X Q nL ρ σ k n pc L (.ref (ρ b) :: .ref (ρ a) :: st) := by
  obtain ⟨p, l, e, R, s, m, args, below, meth, c, σ0, ρ0⟩ := X
  obtain ⟨hx, hb, -⟩ := hC
  intro H locs ls hH hl
  have hinj := hH.1.2.1
  exact lv_acmp_ne (rx := some (ρ a)) (ry := some (ρ b)) hx hb d ht (fun h => kt (fun q => h (by rw [q])) H locs ls hH hl) (fun h => kf (hinj a b ha hb9 (Option.some.inj h)) H locs ls hH hl)
theorem x_ldc (hC : xC G X own cc nL rm) {v : Int32} {i : Nat} (hw : Cond.constant own i v ∈ T0) (d : decode cc pc = .ok (.ldc i, 2)) (kk : xJ G X Q nL ρ σ k n (pc + 2) L (.int v :: st)) : xJ G X Q nL ρ σ k n pc L st := by
  obtain ⟨p, l, e, R, s, m, args, below, meth, c, σ0, ρ0⟩ := X
  obtain ⟨hx, hb, hml, hown, hts, -⟩ := hC
  intro H locs ls hH hl
  exact lv_ldc hx hb hown (hts _ hw) d (kk H locs ls hH hl)
theorem xJ.dia {ct : Prop} {pcJ : Nat} {st' : List Value} (kk : xJ G X Q nL ρ σ k n pcJ L st) (g : xJ G X Q nL ρ σ k n pcJ L st → xJ G X Q nL ρ σ k n pc L st') : xJ G X Q nL ρ σ k n pc L st' := g kk
end
end
section
theorem t0_all {ws : List Cond} (h1 : ∀ w ∈ ws, w ∈ lw_tbl) (h2 : ws.all goodWord = true) : ∀ w ∈ ws, w ∈ T0 := fun w hw => t0_of (h1 w hw) (List.all_eq_true.mp h2 w hw)
theorem inX0 : ∀ w ∈ wsX00, w ∈ T0 := t0_all (by decide +kernel) (by decide +kernel)
theorem inX1 : ∀ w ∈ wsX10, w ∈ T0 := t0_all (by decide +kernel) (by decide +kernel)
theorem inX2 : ∀ w ∈ wsX20, w ∈ T0 := t0_all (by decide +kernel) (by decide +kernel)
theorem inX3 : ∀ w ∈ wsX30, w ∈ T0 := t0_all (by decide +kernel) (by decide +kernel)
theorem inX4 : ∀ w ∈ wsX40, w ∈ T0 := t0_all (by decide +kernel) (by decide +kernel)
theorem inX5 : ∀ w ∈ wsX50, w ∈ T0 := t0_all (by decide +kernel) (by decide +kernel)
theorem inX6 : ∀ w ∈ wsX60, w ∈ T0 := t0_all (by decide +kernel) (by decide +kernel)
theorem xcl {ci : Nat} {C : String} {T : u_T} {N : Nat} (hc : vwCl[ci]? = some (C, T, N)) : (∀ w ∈ u_ws C T N, w ∈ T0) ∧ (∃ ty : Nat → FieldType, ∀ k, k < N → parseFieldDescriptor (T k).2.2.1 = some (ty k)) ∧ (∀ a, a < N → ∀ b, b < N → a ≠ b → (T a).2.1 ≠ (T b).2.1) ∧ ci < 8 := by
  match ci, hc with
  | 0, hc => cases hc; exact ⟨inX0, ⟨_, tyX0_ok⟩, nmX0, by decide⟩
  | 1, hc => cases hc; exact ⟨inX1, ⟨_, tyX1_ok⟩, nmX1, by decide⟩
  | 2, hc => cases hc; exact ⟨inX2, ⟨_, tyX2_ok⟩, nmX2, by decide⟩
  | 3, hc => cases hc; exact ⟨inX3, ⟨_, tyX3_ok⟩, nmX3, by decide⟩
  | 4, hc => cases hc; exact ⟨inX4, ⟨_, tyX4_ok⟩, nmX4, by decide⟩
  | 5, hc => cases hc; exact ⟨inX5, ⟨_, tyX5_ok⟩, nmX5, by decide⟩
  | 6, hc => cases hc; exact ⟨inX6, ⟨_, tyX6_ok⟩, nmX6, by decide⟩
  | k + 7, hc => simp at hc
section
variable {G : xG} {ρ ρ' : Nm → Nat} {σ σ' : PH} {H H' : Heap} {n0 : Nm}
theorem xW.obj (h : xW G ρ σ H) {ci : Nat} {r : vw_C} (hk : hK σ n0 = ci + 1) (hc : vwCl[ci]? = some r) : t_OB (ρ n0) (G.2.1 ci) r.2.2 (G.2.2.1 ci) H (xV ρ σ n0) := by
  obtain ⟨C, T, N⟩ := r
  have h8 := (xcl hc).2.2.2
  have h1 := (h.1 n0 (by omega)).2
  unfold xat at h1
  rw [hk, if_pos (by omega)] at h1
  obtain ⟨r', e1, e2⟩ := h1
  rw [Nat.add_sub_cancel] at e1 e2
  cases Option.some.inj (e1.symm.trans hc)
  exact e2
theorem xW.arr (h : xW G ρ σ H) {t : Nat} (hk : hK σ n0 = t) (h9 : 9 ≤ t) : H[ρ n0]? = some (vp_cell (G.2.2.2.1 t) (xcont ρ σ n0)) := by
  have h1 := (h.1 n0 (by omega)).2
  unfold xat at h1
  rw [hk, if_neg (by omega)] at h1
  exact h1
theorem xat.same (h : xat G ρ σ n0 H) (e1 : hK σ' n0 = hK σ n0) (e2 : hL σ' n0 = hL σ n0) (e3 : ∀ j, hI σ' n0 j = hI σ n0 j) (e4 : ∀ j, (hR σ' n0 j).map ρ' = (hR σ n0 j).map ρ) (e5 : ∀ j, hJ σ' n0 j = hJ σ n0 j) (e6 : ρ' n0 = ρ n0) (e7 : H'[ρ n0]? = H[ρ n0]?) : xat G ρ' σ' n0 H' := by
  have ev : xV ρ' σ' n0 = xV ρ σ n0 := by
    funext j
    unfold xV rv
    rw [e1, e3, e4]
  have ec : xcont ρ' σ' n0 = xcont ρ σ n0 := by
    have f3 : hI σ' n0 = hI σ n0 := funext e3
    have f5 : hJ σ' n0 = hJ σ n0 := funext e5
    unfold xcont
    rw [e1, e2, f3, f5]
    simp only [e4]
  unfold xat at h ⊢
  rw [e1]
  split
  · rename_i h8
    rw [if_pos h8] at h
    obtain ⟨r, r1, r2⟩ := h
    refine ⟨r, r1, ?_⟩
    rw [ev, e6]
    exact r2.kept e7
  · rename_i h8
    rw [if_neg h8] at h
    rw [ec, e6, e7]
    exact h
theorem xW.put (h : xW G ρ σ H) (hz : hK σ n0 ≠ 0) (e1 : hK σ' = hK σ) (e2 : ∀ n, n ≠ n0 → hL σ' n = hL σ n ∧ (∀ j, hI σ' n j = hI σ n j) ∧ (∀ j, hR σ' n j = hR σ n j) ∧ (∀ j, hJ σ' n j = hJ σ n j)) (hat : xat G ρ σ' n0 H') (oq : ∀ q, q ≠ ρ n0 → H'[q]? = H[q]?) (cl : ∀ j m, hR σ' n0 j = some m → hK σ m ≠ 0) : xW G ρ σ' H' := by
  obtain ⟨h1, h2, h3⟩ := h
  refine ⟨fun n hn => ?_, by rw [e1]; exact h2, fun n j m hr => ?_⟩
  · rw [e1] at hn
    refine ⟨(h1 n hn).1, ?_⟩
    by_cases hnn : n = n0
    · subst hnn; exact hat
    · obtain ⟨a1, a2, a3, a4⟩ := e2 n hnn
      exact (h1 n hn).2.same (by rw [e1]) a1 a2 (fun j => by rw [a3]) a4 rfl (oq _ (fun q => hnn (h2 n n0 hn hz q)))
  · rw [e1]
    by_cases hnn : n = n0
    · subst hnn; exact cl j m hr
    · rw [(e2 n hnn).2.2.1] at hr
      exact h3 n j m hr
theorem xW.new (h : xW G ρ σ H) (hz : hK σ n0 = 0) {kd len a : Nat} (hsz : H.size = a) (hG : G.1 ≤ a) (e0 : ρ' n0 = a) (e1 : ∀ n, hK σ n ≠ 0 → ρ' n = ρ n) (hk : kd ≠ 0) (hat : xat G ρ' (sN σ n0 kd len) n0 H') (oq : ∀ q, q < H.size → H'[q]? = H[q]?) : xW G ρ' (sN σ n0 kd len) H' := by
  obtain ⟨h1, h2, h3⟩ := h
  have lt : ∀ n, hK σ n ≠ 0 → ρ n < H.size := by
    intro n hn
    have h4 := (h1 n hn).2
    unfold xat at h4
    split at h4
    · obtain ⟨r, -, cell, r2, -⟩ := h4
      exact (Array.getElem?_eq_some_iff.mp r2).1
    · exact (Array.getElem?_eq_some_iff.mp h4).1
  have hKn : ∀ n, n ≠ n0 → hK (sN σ n0 kd len) n = hK σ n := fun n hn => by rw [hK_sN, if_neg hn]
  have hK0 : hK (sN σ n0 kd len) n0 = kd := by rw [hK_sN, if_pos rfl]
  refine ⟨fun n hn => ?_, fun n m hn hm he => ?_, fun n j m hr => ?_⟩
  · by_cases hnn : n = n0
    · subst hnn; exact ⟨by rw [e0]; exact hG, hat⟩
    · rw [hKn n hnn] at hn
      refine ⟨by rw [e1 n hn]; exact (h1 n hn).1, (h1 n hn).2.same (hKn n hnn) (by rw [hL_sN, if_neg hnn]) (fun j => by rw [hI_sN, if_neg hnn]) (fun j => ?_) (fun j => by rw [hJ_sN, if_neg hnn]) (e1 n hn) (oq _ (lt n hn))⟩
      rw [hR_sN, if_neg hnn]
      cases hr : hR σ n j with
      | none => rfl
      | some m => simp only [Option.map_some]; rw [e1 m (h3 n j m hr)]
  · by_cases hnn : n = n0
    · by_cases hmm : m = n0
      · rw [hnn, hmm]
      · rw [hKn m hmm] at hm
        have := lt m hm
        rw [hnn, e0, e1 m hm] at he
        omega
    · rw [hKn n hnn] at hn
      by_cases hmm : m = n0
      · have := lt n hn
        rw [hmm, e0, e1 n hn] at he
        omega
      · rw [hKn m hmm] at hm
        rw [e1 n hn, e1 m hm] at he
        exact h2 n m hn hm he
  · by_cases hnn : n = n0
    · rw [hR_sN, if_pos hnn] at hr; cases hr
    · rw [hR_sN, if_neg hnn] at hr
      have := h3 n j m hr
      by_cases hmm : m = n0
      · rw [hmm] at this; exact absurd hz this
      · rw [hKn m hmm]; exact this
theorem xAg.new {σ0 : PH} {ρ0 : Nm → Nat} (h : xAg σ0 ρ0 σ ρ) (hz : hK σ n0 = 0) {kd len : Nat} (e1 : ∀ n, hK σ n ≠ 0 → ρ' n = ρ n) : xAg σ0 ρ0 (sN σ n0 kd len) ρ' := by
  intro n hn
  obtain ⟨a1, a2⟩ := h n hn
  have hne : n ≠ n0 := fun q => by rw [q] at a1; exact hn (q ▸ (a1.symm.trans hz))
  exact ⟨by rw [hK_sN, if_neg hne]; exact a1, by rw [e1 n (by rw [a1]; exact hn)]; exact a2⟩
end
section
variable {G : xG} {X : xX} {Q : State → Prop} {nL : Nat} {rm : Room} {own : String} {cc : ByteArray} {ρ : Nm → Nat} {σ : PH} {k n pc : Nat} {L : List (Nat × Value)} {st : List Value}
/-- the frame's method: what it returns, its name, its table -/
def xRt (X : xX) (ret : Option FieldType) : Prop := X.2.2.2.2.2.2.2.2.1.sig.returnType = ret
def xNm (X : xX) (nm : String) : Prop := X.2.2.2.2.2.2.2.2.1.name = nm
def xTab (X : xX) (hh : List (Nat × Nat × Nat × Nat)) : Prop := X.2.2.2.2.2.2.2.2.2.1.exceptionTable.toList = tableOf hh
theorem x_getV (hC : xC G X own cc nL rm) {n0 : Nm} {ci idx : Nat} {C : String} {T : u_T} {N : Nat} (j : Nat) (hk : hK σ n0 = ci + 1) (hc : vwCl[ci]? = some (C, T, N)) (hj : j < N) (hT : (T j).1 = C) (hl : Cond.fieldLink own idx C (T j).2.1 (T j).2.2.1 ∈ T0) (d : decode cc pc = .ok (.getfield idx, 3)) (kk : xJ G X Q nL ρ σ k n (pc + 3) L (xV ρ σ n0 j :: st)) : xJ G X Q nL ρ σ k n pc L (.ref (ρ n0) :: st) := by
  obtain ⟨p, l, e, R, s, m, args, below, meth, c, σ0, ρ0⟩ := X
  obtain ⟨hx, hb, hml, hown, hts, hE, -⟩ := hC
  intro H locs ls hH hlo
  obtain ⟨cell, q1, q2, q3, q4⟩ := hH.1.obj hk hc
  obtain ⟨hS, hfc, kC, hkC, hkind⟩ := hE.1.1 ci _ hc
  obtain ⟨cf, kf, fi, f, hi, hsl⟩ := hS j hj
  have hi' : s.fieldFound? C (T j).2.1 (T j).2.2.1 = some (cf, kf, fi, f) := by rw [← hT]; exact hi
  refine W.getf hx hb hown (hts _ hl) hi' (u_facts hfc hkC (u_lays hts (xcl hc).1 hj) hi).1 q1 (by rw [q3]; exact fun h => by cases h) (v := xV ρ σ n0 j) ?_ rfl rfl d (kk H locs ls hH hlo)
  rw [hsl, q4 j hj]
theorem x_getI (hC : xC G X own cc nL rm) {n0 : Nm} {ci idx : Nat} {C : String} {T : u_T} {N : Nat} (j : Nat) (hk : hK σ n0 = ci + 1) (hc : vwCl[ci]? = some (C, T, N)) (hr : xRef (ci + 1) j = false) (hj : j < N) (hT : (T j).1 = C) (hl : Cond.fieldLink own idx C (T j).2.1 (T j).2.2.1 ∈ T0) (d : decode cc pc = .ok (.getfield idx, 3)) (kk : xJ G X Q nL ρ σ k n (pc + 3) L (.int (hI σ n0 j) :: st)) : xJ G X Q nL ρ σ k n pc L (.ref (ρ n0) :: st) := by
  refine x_getV hC j hk hc hj hT hl d ?_
  have e : xV ρ σ n0 j = .int (hI σ n0 j) := by unfold xV; rw [hk, hr]; rfl
  rw [e]; exact kk
theorem x_getR (hC : xC G X own cc nL rm) {n0 : Nm} {ci idx : Nat} {C : String} {T : u_T} {N : Nat} (j : Nat) (hk : hK σ n0 = ci + 1) (hc : vwCl[ci]? = some (C, T, N)) (hr : xRef (ci + 1) j = true) (hj : j < N) (hT : (T j).1 = C) (hl : Cond.fieldLink own idx C (T j).2.1 (T j).2.2.1 ∈ T0) (d : decode cc pc = .ok (.getfield idx, 3)) (kk : xJ G X Q nL ρ σ k n (pc + 3) L (rv ρ (hR σ n0 j) :: st)) : xJ G X Q nL ρ σ k n pc L (.ref (ρ n0) :: st) := by
  refine x_getV hC j hk hc hj hT hl d ?_
  have e : xV ρ σ n0 j = rv ρ (hR σ n0 j) := by unfold xV; rw [hk, hr]; rfl
  rw [e]; exact kk
/-- the slots of a class's objects are apart -/
theorem x_apart {s : State} {args : Array Value} (hts : ∀ w ∈ T0, w.before args s = true) (hE : va_K (G.2.1, G.2.2.1) vwCl (xtys G) s) {ci : Nat} {C : String} {T : u_T} {N : Nat} (hc : vwCl[ci]? = some (C, T, N)) : ∀ x y, x < N → y < N → x ≠ y → (G.2.2.1 ci) x ≠ (G.2.2.1 ci) y := by
  obtain ⟨h1, ⟨ty, h2⟩, h3, -⟩ := xcl hc
  exact va_apart (own := "") hts h1 ty h2 h3 hE hc
theorem x_putV (hC : xC G X own cc nL rm) {n0 : Nm} {ci idx : Nat} {C : String} {T : u_T} {N : Nat} (j : Nat) (hk : hK σ n0 = ci + 1) (hc : vwCl[ci]? = some (C, T, N)) (hj : j < N) (hT : (T j).1 = C) (hl : Cond.fieldLink own idx C (T j).2.1 (T j).2.2.1 ∈ T0)
    (hfin : (T j).2.2.2 = false ∨ (T j).2.2.2 = true ∧ C = own ∧ xNm X "<init>") {ty : FieldType} {v : Value} (hd : parseFieldDescriptor (T j).2.2.1 = some ty) (hn : narrow ty v = v) (hfit : fits ty v = true) {σ' : PH} (e1 : hK σ' = hK σ) (e2 : ∀ m, m ≠ n0 → hL σ' m = hL σ m ∧ (∀ j, hI σ' m j = hI σ m j) ∧ (∀ j, hR σ' m j = hR σ m j) ∧ (∀ j, hJ σ' m j = hJ σ m j)) (e3 : ∀ i, updV (xV ρ σ n0) j v i = xV ρ σ' n0 i) (cl : ∀ j m, hR σ' n0 j = some m → hK σ m ≠ 0)
    (d : decode cc pc = .ok (.putfield idx, 3)) (kk : xJ G X Q nL ρ σ' k n (pc + 3) L st) : xJ G X Q nL ρ σ k n pc L (v :: .ref (ρ n0) :: st) := by
  obtain ⟨p, l, e, R, s, m, args, below, meth, c, σ0, ρ0⟩ := X
  obtain ⟨hx, hb, hml, hown, hts, hE, -⟩ := hC
  intro H locs ls hH hlo
  have hap := x_apart hts hE.1 hc
  obtain ⟨cell, q1, q2, q3, q4⟩ := hH.1.obj hk hc
  obtain ⟨hS, hfc, kC, hkC, hkind⟩ := hE.1.1 ci _ hc
  obtain ⟨cf, kf, fi, f, hi, hsl⟩ := hS j hj
  have hi' : s.fieldFound? C (T j).2.1 (T j).2.2.1 = some (cf, kf, fi, f) := by rw [← hT]; exact hi
  have hlays := u_lays hts (xcl hc).1 hj
  have hst := (u_facts hfc hkC hlays hi).1
  have h8 := (xcl hc).2.2.2
  have key : ∀ (H' : Heap), H'[ρ n0]? = some (cell.setSlot f.slot v) → H'.size = H.size → (∀ q, q ≠ ρ n0 → H'[q]? = H[q]?) → W p l e R s m args below meth c H' (locs ++ [⟨ρ n0, f.slot⟩]) k n Q (F0 m (pc + 3) ls st) := by
    intro H' f1 f2 f3
    refine kk H' _ ls ⟨hH.1.put (n0 := n0) (by omega) e1 e2 ?_ f3 cl, hH.2.1.put f2 f3 ((hH.1.1 n0 (by omega)).1), hH.2.2.same e1⟩ hlo
    unfold xat
    rw [e1, hk, if_pos (by omega)]
    rw [hsl] at f1
    exact ⟨(C, T, N), hc, t_OB.to (V := updV (xV ρ σ n0) j v) ⟨_, f1, q2, q3, t_set q4 hap hj v⟩ (fun i _ => e3 i)⟩
  have hlay := hts _ ((xcl hc).1 _ (u_in_lay hj))
  rcases hfin with hfin | ⟨hfin, hown2, hinit⟩
  · unfold u_lay at hlay
    rw [if_neg (by rw [hfin]; decide)] at hlay
    have h6 := u_store hfc hkC hkind hlay hi hd hn hfit
    exact W.putK hx hb (f := f) ⟨hown, hts _ hl, ⟨_, _, _, hi'⟩, hst⟩ (by rw [q2]; exact h6) q1 q3 (by rw [hsl]; exact k2_hasslot (q4 j hj)) rfl rfl d key
  · unfold u_lay at hlay
    rw [if_pos hfin] at hlay
    have hcf : m.cls = cf := by
      obtain ⟨_, _, c', _, _, _, -, -, hf', -, -, -, hown3, -⟩ := Cond.laysFinal_spec hlay
      have e9 : c' = cf := by have := hi.symm.trans hf'; simp at this; exact this.1.symm
      rw [hT, hown2] at hown3
      rw [← e9]; exact Option.some.inj (hown.symm.trans hown3)
    have h6 := u_fits hfc hkC hkind (Or.inr hlay) hi hd hn hfit
    exact W.putFinK hx hb hown (hts _ hl) hi' hst hcf hinit (by rw [q2]; exact h6) q1 q3 (by rw [hsl]; exact k2_hasslot (q4 j hj)) rfl rfl d key
end
end
section
section
variable {G : xG} {ρ : Nm → Nat} {σ : PH} {n0 : Nm} {j : Nat}
theorem xV_sI {v : Int32} (hr : xRef (hK σ n0) j = false) (i : Nat) : updV (xV ρ σ n0) j (.int v) i = xV ρ (sI σ n0 j v) n0 i := by
  unfold updV xV
  rw [hK_sI, hR_sI]
  by_cases h : i = j
  · subst h
    simp [hr, hI_sI]
  · simp [h, hI_sI]
theorem xV_sR {o : Option Nm} (hr : xRef (hK σ n0) j = true) (i : Nat) : updV (xV ρ σ n0) j (rv ρ o) i = xV ρ (sR σ n0 j o) n0 i := by
  unfold updV xV
  rw [hK_sR, hI_sR]
  by_cases h : i = j
  · subst h
    simp [hr, hR_sR]
  · simp [h, hR_sR]
theorem xc_i (hk : hK σ n0 ≤ 10) : xcont ρ σ n0 = (hL σ n0, .inl (hI σ n0)) := by unfold xcont; rw [if_pos hk]
theorem xc_q (hk : 11 ≤ hK σ n0) (hk2 : hK σ n0 ≤ 13) : xcont ρ σ n0 = (hL σ n0, .inr (.inr (.inr (.inr (fun j => (hR σ n0 j).map ρ))))) := by unfold xcont; rw [if_neg (by omega), if_pos hk2]
theorem xc_l (hk : hK σ n0 = 14) : xcont ρ σ n0 = (hL σ n0, .inr (.inl (hJ σ n0))) := by unfold xcont; rw [if_neg (by omega), if_neg (by omega)]
end
section
variable {G : xG} {X : xX} {Q : State → Prop} {nL : Nat} {rm : Room} {own : String} {cc : ByteArray} {ρ : Nm → Nat} {σ : PH} {k n pc : Nat} {L : List (Nat × Value)} {st : List Value}
theorem sI_o {n0 : Nm} {j : Nat} {v : Int32} (m : Nm) (hm : m ≠ n0) : hL (sI σ n0 j v) m = hL σ m ∧ (∀ i, hI (sI σ n0 j v) m i = hI σ m i) ∧ (∀ i, hR (sI σ n0 j v) m i = hR σ m i) ∧ (∀ i, hJ (sI σ n0 j v) m i = hJ σ m i) := ⟨rfl, fun i => by rw [hI_sI, if_neg (fun q => hm q.1)], fun _ => rfl, fun _ => rfl⟩
theorem sR_o {n0 : Nm} {j : Nat} {v : Option Nm} (m : Nm) (hm : m ≠ n0) : hL (sR σ n0 j v) m = hL σ m ∧ (∀ i, hI (sR σ n0 j v) m i = hI σ m i) ∧ (∀ i, hR (sR σ n0 j v) m i = hR σ m i) ∧ (∀ i, hJ (sR σ n0 j v) m i = hJ σ m i) := ⟨rfl, fun _ => rfl, fun i => by rw [hR_sR, if_neg (fun q => hm q.1)], fun _ => rfl⟩
theorem sJ_o {n0 : Nm} {j : Nat} {v : Int64} (m : Nm) (hm : m ≠ n0) : hL (sJ σ n0 j v) m = hL σ m ∧ (∀ i, hI (sJ σ n0 j v) m i = hI σ m i) ∧ (∀ i, hR (sJ σ n0 j v) m i = hR σ m i) ∧ (∀ i, hJ (sJ σ n0 j v) m i = hJ σ m i) := ⟨rfl, fun _ => rfl, fun _ => rfl, fun i => by rw [hJ_sJ, if_neg (fun q => hm q.1)]⟩
theorem xH.cl {H : Heap} {locs : List Loc} (h : xH G X ρ σ H locs) : ∀ a i m, hR σ a i = some m → hK σ m ≠ 0 := by
  obtain ⟨p, l, e, R, s, m, args, below, meth, c, σ0, ρ0⟩ := X
  exact h.1.2.2
theorem xJ.withH (kk : (∀ a i m, hR σ a i = some m → hK σ m ≠ 0) → xJ G X Q nL ρ σ k n pc L st) : xJ G X Q nL ρ σ k n pc L st := by
  obtain ⟨p, l, e, R, s, m, args, below, meth, c, σ0, ρ0⟩ := X
  intro H locs ls hH hlo
  exact kk hH.1.2.2 H locs ls hH hlo
theorem x_putI (hC : xC G X own cc nL rm) {n0 : Nm} {ci idx : Nat} {C : String} {T : u_T} {N : Nat} (j : Nat) (hk : hK σ n0 = ci + 1) (hc : vwCl[ci]? = some (C, T, N)) (hr : xRef (ci + 1) j = false) (hj : j < N) (hT : (T j).1 = C) (hl : Cond.fieldLink own idx C (T j).2.1 (T j).2.2.1 ∈ T0) (hfin : (T j).2.2.2 = false) (hd : parseFieldDescriptor (T j).2.2.1 = some .int) {v : Int32} (d : decode cc pc = .ok (.putfield idx, 3)) (kk : xJ G X Q nL ρ (sI σ n0 j v) k n (pc + 3) L st) : xJ G X Q nL ρ σ k n pc L (.int v :: .ref (ρ n0) :: st) := by
  refine xJ.withH (fun hcl => ?_)
  exact x_putV hC j hk hc hj hT hl (Or.inl hfin) hd rfl rfl (σ' := sI σ n0 j v) rfl sI_o (xV_sI (by rw [hk]; exact hr)) (hcl n0) d kk
theorem x_putZ (hC : xC G X own cc nL rm) {n0 : Nm} {ci idx : Nat} {C : String} {T : u_T} {N : Nat} (j : Nat) (hk : hK σ n0 = ci + 1) (hc : vwCl[ci]? = some (C, T, N)) (hr : xRef (ci + 1) j = false) (hj : j < N) (hT : (T j).1 = C) (hl : Cond.fieldLink own idx C (T j).2.1 (T j).2.2.1 ∈ T0) (hfin : (T j).2.2.2 = false) (hd : parseFieldDescriptor (T j).2.2.1 = some .boolean) {v : Int32} (hz : zb v) (d : decode cc pc = .ok (.putfield idx, 3)) (kk : xJ G X Q nL ρ (sI σ n0 j v) k n (pc + 3) L st) : xJ G X Q nL ρ σ k n pc L (.int v :: .ref (ρ n0) :: st) := by
  refine xJ.withH (fun hcl => ?_)
  exact x_putV hC j hk hc hj hT hl (Or.inl hfin) hd (zb_n hz) (zb_f hz) (σ' := sI σ n0 j v) rfl sI_o (xV_sI (by rw [hk]; exact hr)) (hcl n0) d kk
theorem x_putIF (hC : xC G X own cc nL rm) {n0 : Nm} {ci idx : Nat} {C : String} {T : u_T} {N : Nat} (j : Nat) (hk : hK σ n0 = ci + 1) (hc : vwCl[ci]? = some (C, T, N)) (hr : xRef (ci + 1) j = false) (hj : j < N) (hT : (T j).1 = C) (hl : Cond.fieldLink own idx C (T j).2.1 (T j).2.2.1 ∈ T0) (hfin : (T j).2.2.2 = true) (hown2 : C = own) (hin : xNm X "<init>") (hd : parseFieldDescriptor (T j).2.2.1 = some .int) {v : Int32} (d : decode cc pc = .ok (.putfield idx, 3)) (kk : xJ G X Q nL ρ (sI σ n0 j v) k n (pc + 3) L st) : xJ G X Q nL ρ σ k n pc L (.int v :: .ref (ρ n0) :: st) := by
  refine xJ.withH (fun hcl => ?_)
  exact x_putV hC j hk hc hj hT hl (Or.inr ⟨hfin, hown2, hin⟩) hd rfl rfl (σ' := sI σ n0 j v) rfl sI_o (xV_sI (by rw [hk]; exact hr)) (hcl n0) d kk
theorem x_putZF (hC : xC G X own cc nL rm) {n0 : Nm} {ci idx : Nat} {C : String} {T : u_T} {N : Nat} (j : Nat) (hk : hK σ n0 = ci + 1) (hc : vwCl[ci]? = some (C, T, N)) (hr : xRef (ci + 1) j = false) (hj : j < N) (hT : (T j).1 = C) (hl : Cond.fieldLink own idx C (T j).2.1 (T j).2.2.1 ∈ T0) (hfin : (T j).2.2.2 = true) (hown2 : C = own) (hin : xNm X "<init>") (hd : parseFieldDescriptor (T j).2.2.1 = some .boolean) {v : Int32} (hz : zb v) (d : decode cc pc = .ok (.putfield idx, 3)) (kk : xJ G X Q nL ρ (sI σ n0 j v) k n (pc + 3) L st) : xJ G X Q nL ρ σ k n pc L (.int v :: .ref (ρ n0) :: st) := by
  refine xJ.withH (fun hcl => ?_)
  exact x_putV hC j hk hc hj hT hl (Or.inr ⟨hfin, hown2, hin⟩) hd (zb_n hz) (zb_f hz) (σ' := sI σ n0 j v) rfl sI_o (xV_sI (by rw [hk]; exact hr)) (hcl n0) d kk
theorem x_putRF (hC : xC G X own cc nL rm) {n0 : Nm} {ci idx : Nat} {C : String} {T : u_T} {N : Nat} (j : Nat) (hk : hK σ n0 = ci + 1) (hc : vwCl[ci]? = some (C, T, N)) (hr : xRef (ci + 1) j = true) (hj : j < N) (hT : (T j).1 = C) (hl : Cond.fieldLink own idx C (T j).2.1 (T j).2.2.1 ∈ T0) (hfin : (T j).2.2.2 = true) (hown2 : C = own) (hin : xNm X "<init>") {ty : FieldType} (hd : parseFieldDescriptor (T j).2.2.1 = some ty) {m0 : Nm} (hn : narrow ty (.ref (ρ m0)) = .ref (ρ m0)) (hfit : fits ty (.ref (ρ m0)) = true) (hm0 : hK σ m0 ≠ 0) (d : decode cc pc = .ok (.putfield idx, 3)) (kk : xJ G X Q nL ρ (sR σ n0 j (some m0)) k n (pc + 3) L st) : xJ G X Q nL ρ σ k n pc L (.ref (ρ m0) :: .ref (ρ n0) :: st) := by
  refine xJ.withH (fun hcl => ?_)
  refine x_putV hC j hk hc hj hT hl (Or.inr ⟨hfin, hown2, hin⟩) hd hn hfit (σ' := sR σ n0 j (some m0)) rfl sR_o (xV_sR (o := some m0) (by rw [hk]; exact hr)) (fun i m h => ?_) d kk
  rw [hR_sR] at h
  split at h
  · cases h; exact hm0
  · exact hcl n0 i m h
/-- one array changed -/
theorem x_arrW {p : Program} {l : Launch} {e : Env} {R : Room} {s : State} {m : MethodId} {args : Array Value} {below : List Frame} {meth : Method} {c : Code} {σ0 : PH} {ρ0 : Nm → Nat} {H : Heap} {locs : List Loc} (hH : xH G (p, l, e, R, s, m, args, below, meth, c, σ0, ρ0) ρ σ H locs) {a : Nm} {σ' : PH} {j : Nat} (h9 : 9 ≤ hK σ a) (e1 : hK σ' = hK σ) (e2 : ∀ m, m ≠ a → hL σ' m = hL σ m ∧ (∀ j, hI σ' m j = hI σ m j) ∧ (∀ j, hR σ' m j = hR σ m j) ∧ (∀ j, hJ σ' m j = hJ σ m j)) (cl : ∀ j m, hR σ' a j = some m → hK σ m ≠ 0) {H' : Heap} (f1 : H'[ρ a]? = some (vp_cell (G.2.2.2.1 (hK σ a)) (xcont ρ σ' a))) (f2 : H'.size = H.size) (f3 : ∀ q, q ≠ ρ a → H'[q]? = H[q]?) : xH G (p, l, e, R, s, m, args, below, meth, c, σ0, ρ0) ρ σ' H' (locs ++ [⟨ρ a, j⟩]) := by
  refine ⟨hH.1.put (n0 := a) (by omega) e1 e2 ?_ f3 cl, hH.2.1.put f2 f3 ((hH.1.1 a (by omega)).1), hH.2.2.same e1⟩
  unfold xat
  rw [e1, if_neg (by omega)]
  exact f1
theorem x_iald (hC : xC G X own cc nL rm) {a : Nm} {i : Int32} (hk : hK σ a = 9) (hin : vp_in i (hL σ a)) (d : decode cc pc = .ok (.iaload, 1)) (kk : xJ G X Q nL ρ σ k n (pc + 1) L (.int (hI σ a i.toNatClampNeg) :: st)) : xJ G X Q nL ρ σ k n pc L (.int i :: .ref (ρ a) :: st) := by
  obtain ⟨p, l, e, R, s, m, args, below, meth, c, σ0, ρ0⟩ := X
  obtain ⟨hx, hb, hml, hown, hts, hE, -⟩ := hC
  intro H locs ls hH hlo
  have hlt : i.toNatClampNeg < hL σ a := Nat.not_le.mp fun q => hin (Or.inr q)
  have hcell := hH.1.arr hk (by decide)
  rw [xc_i (by omega)] at hcell
  refine W.iald (v := .int (hI σ a i.toNatClampNeg)) hx hb hcell ((hE.1.2 0 _ rfl).1 (hL σ a) (fun j => .int (hI σ a j))) (fun q => by cases q) (by show ¬ (i < 0 ∨ (arrV _ _ _).slots.size ≤ _); rw [arrV_size]; exact hin) (by show (arrV _ _ _).slots[_]? = _; rw [arrV_read _ _ hlt]) rfl rfl d (kk H locs ls hH hlo)
theorem x_zald (hC : xC G X own cc nL rm) {a : Nm} {i : Int32} (hk : hK σ a = 10) (hin : vp_in i (hL σ a)) (d : decode cc pc = .ok (.baload, 1)) (kk : xJ G X Q nL ρ σ k n (pc + 1) L (.int (hI σ a i.toNatClampNeg) :: st)) : xJ G X Q nL ρ σ k n pc L (.int i :: .ref (ρ a) :: st) := by
  obtain ⟨p, l, e, R, s, m, args, below, meth, c, σ0, ρ0⟩ := X
  obtain ⟨hx, hb, hml, hown, hts, hE, -⟩ := hC
  intro H locs ls hH hlo
  have hlt : i.toNatClampNeg < hL σ a := Nat.not_le.mp fun q => hin (Or.inr q)
  have hcell := hH.1.arr hk (by decide)
  rw [xc_i (by omega)] at hcell
  refine W.zald (v := .int (hI σ a i.toNatClampNeg)) hx hb hcell ((hE.1.2 1 _ rfl).1 (hL σ a) (fun j => .int (hI σ a j))) (fun q => by cases q) (by show ¬ (i < 0 ∨ (arrV _ _ _).slots.size ≤ _); rw [arrV_size]; exact hin) (by show (arrV _ _ _).slots[_]? = _; rw [arrV_read _ _ hlt]) rfl rfl d (kk H locs ls hH hlo)
theorem x_aald11 (hC : xC G X own cc nL rm) {a : Nm} {i : Int32} (hk : hK σ a = 11) (hin : vp_in i (hL σ a)) (d : decode cc pc = .ok (.aaload, 1)) (kk : xJ G X Q nL ρ σ k n (pc + 1) L (rv ρ (hR σ a i.toNatClampNeg) :: st)) : xJ G X Q nL ρ σ k n pc L (.int i :: .ref (ρ a) :: st) := by
  obtain ⟨p, l, e, R, s, m, args, below, meth, c, σ0, ρ0⟩ := X
  obtain ⟨hx, hb, hml, hown, hts, hE, -⟩ := hC
  intro H locs ls hH hlo
  have hlt : i.toNatClampNeg < hL σ a := Nat.not_le.mp fun q => hin (Or.inr q)
  have hcell := hH.1.arr hk (by decide)
  rw [xc_q (by omega) (by omega)] at hcell
  refine W.aald (v := rv ρ (hR σ a i.toNatClampNeg)) hx hb hcell ((hE.1.2 2 _ rfl).1 (hL σ a) (fun j => rv ρ (hR σ a j))) rfl (fun q => by cases q) (by show ¬ (i < 0 ∨ (arrV _ _ _).slots.size ≤ _); rw [arrV_size]; exact hin) (by show (arrV _ _ _).slots[_]? = _; rw [arrV_read _ _ hlt]; rfl) rfl rfl d (kk H locs ls hH hlo)
theorem x_aald12 (hC : xC G X own cc nL rm) {a : Nm} {i : Int32} (hk : hK σ a = 12) (hin : vp_in i (hL σ a)) (d : decode cc pc = .ok (.aaload, 1)) (kk : xJ G X Q nL ρ σ k n (pc + 1) L (rv ρ (hR σ a i.toNatClampNeg) :: st)) : xJ G X Q nL ρ σ k n pc L (.int i :: .ref (ρ a) :: st) := by
  obtain ⟨p, l, e, R, s, m, args, below, meth, c, σ0, ρ0⟩ := X
  obtain ⟨hx, hb, hml, hown, hts, hE, -⟩ := hC
  intro H locs ls hH hlo
  have hlt : i.toNatClampNeg < hL σ a := Nat.not_le.mp fun q => hin (Or.inr q)
  have hcell := hH.1.arr hk (by decide)
  rw [xc_q (by omega) (by omega)] at hcell
  refine W.aald (v := rv ρ (hR σ a i.toNatClampNeg)) hx hb hcell ((hE.1.2 3 _ rfl).1 (hL σ a) (fun j => rv ρ (hR σ a j))) rfl (fun q => by cases q) (by show ¬ (i < 0 ∨ (arrV _ _ _).slots.size ≤ _); rw [arrV_size]; exact hin) (by show (arrV _ _ _).slots[_]? = _; rw [arrV_read _ _ hlt]; rfl) rfl rfl d (kk H locs ls hH hlo)
theorem x_aald13 (hC : xC G X own cc nL rm) {a : Nm} {i : Int32} (hk : hK σ a = 13) (hin : vp_in i (hL σ a)) (d : decode cc pc = .ok (.aaload, 1)) (kk : xJ G X Q nL ρ σ k n (pc + 1) L (rv ρ (hR σ a i.toNatClampNeg) :: st)) : xJ G X Q nL ρ σ k n pc L (.int i :: .ref (ρ a) :: st) := by
  obtain ⟨p, l, e, R, s, m, args, below, meth, c, σ0, ρ0⟩ := X
  obtain ⟨hx, hb, hml, hown, hts, hE, -⟩ := hC
  intro H locs ls hH hlo
  have hlt : i.toNatClampNeg < hL σ a := Nat.not_le.mp fun q => hin (Or.inr q)
  have hcell := hH.1.arr hk (by decide)
  rw [xc_q (by omega) (by omega)] at hcell
  refine W.aald (v := rv ρ (hR σ a i.toNatClampNeg)) hx hb hcell ((hE.1.2 4 _ rfl).1 (hL σ a) (fun j => rv ρ (hR σ a j))) rfl (fun q => by cases q) (by show ¬ (i < 0 ∨ (arrV _ _ _).slots.size ≤ _); rw [arrV_size]; exact hin) (by show (arrV _ _ _).slots[_]? = _; rw [arrV_read _ _ hlt]; rfl) rfl rfl d (kk H locs ls hH hlo)
theorem x_lald (hC : xC G X own cc nL rm) {a : Nm} {i : Int32} (hk : hK σ a = 14) (hin : vp_in i (hL σ a)) (d : decode cc pc = .ok (.laload, 1)) (kk : xJ G X Q nL ρ σ k n (pc + 1) L (.long (hJ σ a i.toNatClampNeg) :: st)) : xJ G X Q nL ρ σ k n pc L (.int i :: .ref (ρ a) :: st) := by
  obtain ⟨p, l, e, R, s, m, args, below, meth, c, σ0, ρ0⟩ := X
  obtain ⟨hx, hb, hml, hown, hts, hE, -⟩ := hC
  intro H locs ls hH hlo
  have hlt : i.toNatClampNeg < hL σ a := Nat.not_le.mp fun q => hin (Or.inr q)
  have hcell := hH.1.arr hk (by decide)
  rw [xc_l hk] at hcell
  refine W.lald (v := .long (hJ σ a i.toNatClampNeg)) hx hb hcell ((hE.1.2 5 _ rfl).1 (hL σ a) (fun j => .long (hJ σ a j))) (fun q => by cases q) (by show ¬ (i < 0 ∨ (arrV _ _ _).slots.size ≤ _); rw [arrV_size]; exact hin) (by show (arrV _ _ _).slots[_]? = _; rw [arrV_read _ _ hlt]) rfl rfl d (kk H locs ls hH hlo)
theorem x_iast (hC : xC G X own cc nL rm) {a : Nm} {i : Int32} {v : Int32} (hk : hK σ a = 9) (hin : vp_in i (hL σ a)) (d : decode cc pc = .ok (.iastore, 1)) (kk : xJ G X Q nL ρ (sI σ a i.toNatClampNeg v) k n (pc + 1) L st) : xJ G X Q nL ρ σ k n pc L (.int v :: .int i :: .ref (ρ a) :: st) := by
  obtain ⟨p, l, e, R, s, m, args, below, meth, c, σ0, ρ0⟩ := X
  obtain ⟨hx, hb, hml, hown, hts, hE, -⟩ := hC
  intro H locs ls hH hlo
  have hlt : i.toNatClampNeg < hL σ a := Nat.not_le.mp fun q => hin (Or.inr q)
  have hcell := hH.1.arr hk (by decide)
  rw [xc_i (by omega)] at hcell
  refine W.iast hx hb hcell ((hE.1.2 0 _ rfl).1 (hL σ a) (fun j => .int (hI σ a j))) (fun q => by cases q) (by show ¬ (i < 0 ∨ (arrV _ _ _).slots.size ≤ _); rw [arrV_size]; exact hin) rfl rfl d fun H1 e9 z oq => ?_
  refine kk H1 _ ls (x_arrW (a := a) (σ' := sI σ a i.toNatClampNeg v) hH (by omega) rfl sI_o (hH.1.2.2 a) ?_ z oq) hlo
  rw [e9, xc_i (by rw [hK_sI]; omega), hk]
  rw [vp_cell_i, vp_cell_i, arrV_store]
  congr 2
  funext q
  by_cases hq : q = i.toNatClampNeg
  · subst hq; simp [updV, hI_sI]
  · simp [updV, hI_sI, hq]
theorem x_zast (hC : xC G X own cc nL rm) {a : Nm} {i : Int32} {v : Int32} (hz : zb v) (hk : hK σ a = 10) (hin : vp_in i (hL σ a)) (d : decode cc pc = .ok (.bastore, 1)) (kk : xJ G X Q nL ρ (sI σ a i.toNatClampNeg v) k n (pc + 1) L st) : xJ G X Q nL ρ σ k n pc L (.int v :: .int i :: .ref (ρ a) :: st) := by
  obtain ⟨p, l, e, R, s, m, args, below, meth, c, σ0, ρ0⟩ := X
  obtain ⟨hx, hb, hml, hown, hts, hE, -⟩ := hC
  intro H locs ls hH hlo
  have hlt : i.toNatClampNeg < hL σ a := Nat.not_le.mp fun q => hin (Or.inr q)
  have hcell := hH.1.arr hk (by decide)
  rw [xc_i (by omega)] at hcell
  refine W.zast hx hb hcell ((hE.1.2 1 _ rfl).1 (hL σ a) (fun j => .int (hI σ a j))) (fun q => by cases q) (by show ¬ (i < 0 ∨ (arrV _ _ _).slots.size ≤ _); rw [arrV_size]; exact hin) rfl rfl d fun H1 e9 z oq => ?_
  refine kk H1 _ ls (x_arrW (a := a) (σ' := sI σ a i.toNatClampNeg v) hH (by omega) rfl sI_o (hH.1.2.2 a) ?_ z oq) hlo
  rw [e9, xc_i (by rw [hK_sI]; omega), hk]
  rw [zb_n hz]
  rw [vp_cell_i, vp_cell_i, arrV_store]
  congr 2
  funext q
  by_cases hq : q = i.toNatClampNeg
  · subst hq; simp [updV, hI_sI]
  · simp [updV, hI_sI, hq]
theorem x_last (hC : xC G X own cc nL rm) {a : Nm} {i : Int32} {v : Int64} (hk : hK σ a = 14) (hin : vp_in i (hL σ a)) (d : decode cc pc = .ok (.lastore, 1)) (kk : xJ G X Q nL ρ (sJ σ a i.toNatClampNeg v) k n (pc + 1) L st) : xJ G X Q nL ρ σ k n pc L (.long v :: .int i :: .ref (ρ a) :: st) := by
  obtain ⟨p, l, e, R, s, m, args, below, meth, c, σ0, ρ0⟩ := X
  obtain ⟨hx, hb, hml, hown, hts, hE, -⟩ := hC
  intro H locs ls hH hlo
  have hlt : i.toNatClampNeg < hL σ a := Nat.not_le.mp fun q => hin (Or.inr q)
  have hcell := hH.1.arr hk (by decide)
  rw [xc_l hk] at hcell
  refine W.last hx hb hcell ((hE.1.2 5 _ rfl).1 (hL σ a) (fun j => .long (hJ σ a j))) (fun q => by cases q) (by show ¬ (i < 0 ∨ (arrV _ _ _).slots.size ≤ _); rw [arrV_size]; exact hin) rfl rfl d fun H1 e9 z oq => ?_
  refine kk H1 _ ls (x_arrW (a := a) (σ' := sJ σ a i.toNatClampNeg v) hH (by omega) rfl sJ_o (hH.1.2.2 a) ?_ z oq) hlo
  rw [e9, xc_l (by rw [hK_sJ]; exact hk), hk]
  rw [vp_cell_l, vp_cell_l, arrV_store]
  congr 2
  funext q
  by_cases hq : q = i.toNatClampNeg
  · subst hq; simp [updV, hJ_sJ]
  · simp [updV, hJ_sJ, hq]
theorem x_aast11 (hC : xC G X own cc nL rm) {a : Nm} {i : Int32} {o : Option Nm} (ho : ∀ m, o = some m → hK σ m = 2) (hk : hK σ a = 11) (hin : vp_in i (hL σ a)) (d : decode cc pc = .ok (.aastore, 1)) (kk : xJ G X Q nL ρ (sR σ a i.toNatClampNeg o) k n (pc + 1) L st) : xJ G X Q nL ρ σ k n pc L (rv ρ o :: .int i :: .ref (ρ a) :: st) := by
  obtain ⟨p, l, e, R, s, m, args, below, meth, c, σ0, ρ0⟩ := X
  obtain ⟨hx, hb, hml, hown, hts, hE, -⟩ := hC
  intro H locs ls hH hlo
  have hlt : i.toNatClampNeg < hL σ a := Nat.not_le.mp fun q => hin (Or.inr q)
  have h0 : ¬ i < 0 := fun q => hin (Or.inl q)
  have hcell := hH.1.arr hk (by decide)
  rw [xc_q (by omega) (by omega)] at hcell
  have hcl : ∀ j m, hR (sR σ a i.toNatClampNeg o) a j = some m → hK σ m ≠ 0 := by
    intro j m h
    rw [hR_sR] at h
    split at h
    · rw [ho m h]; decide
    · exact hH.1.2.2 a j m h
  have hfin : ∀ (H1 : Heap), H1[ρ a]? = some (vp_cell (G.2.2.2.1 11) (hL σ a, .inr (.inr (.inr (.inr (fun j => (hR (sR σ a i.toNatClampNeg o) a j).map ρ)))))) → H1.size = H.size → (∀ q, q ≠ ρ a → H1[q]? = H[q]?) → W p l e R s m args below meth c H1 (locs ++ [⟨ρ a, i.toNatClampNeg⟩]) k n Q (F0 m (pc + 1) ls st) := by
    intro H1 e9 z oq
    refine kk H1 _ ls (x_arrW (a := a) (σ' := sR σ a i.toNatClampNeg o) hH (by omega) rfl sR_o hcl ?_ z oq) hlo
    rw [e9, xc_q (by rw [hK_sR]; omega) (by rw [hK_sR]; omega), hk]
    rfl
  have heq : ∀ w : Value, w = rv ρ o → (vp_cell (G.2.2.2.1 11) (hL σ a, .inr (.inr (.inr (.inr (fun j => (hR σ a j).map ρ)))))).setSlot i.toNatClampNeg w = vp_cell (G.2.2.2.1 11) (hL σ a, .inr (.inr (.inr (.inr (fun j => (hR (sR σ a i.toNatClampNeg o) a j).map ρ))))) := by
    intro w hw
    rw [vp_cell_q, vp_cell_q, arrV_store]
    congr 1
    funext q
    by_cases hq : q = i.toNatClampNeg
    · subst hq; simp [updV, hR_sR, hw, rv]
    · simp [updV, hR_sR, hq]
  cases o with
  | none => exact va_WaastN (C := "PlantServer$Item") hx hb hcell ((hE.1.2 2 _ rfl).1 (hL σ a) (fun j => rv ρ (hR σ a j))) (fun h => by cases h) (by show ¬ (i < 0 ∨ (arrV _ _ _).slots.size ≤ _); rw [arrV_size]; exact hin) rfl rfl d fun H1 e9 z oq => hfin H1 (by rw [e9, heq .null rfl]) z oq
  | some v =>
    have hv := ho v rfl
    obtain ⟨cellV, g1, g2, g3, -⟩ := hH.1.obj (ci := 1) hv rfl
    have hcls := (hE.1.1 1 _ rfl).2
    obtain ⟨kA, comp, k1, k2, k3, -⟩ := (hE.1.2 2 _ rfl).2
    have hcomp : comp = G.2.1 1 := Option.some.inj (k3.symm.trans hcls.1)
    subst hcomp
    obtain ⟨kC, hkC, -⟩ := hcls.2
    exact W.aast hx hb hcell (fun q h => by cases h) (fun h => by cases h) k1 k2 rfl hkC ⟨h0, by show _ < (arrV _ _ _).slots.size; rw [arrV_size]; exact hlt⟩ g1 (fun q h => by rw [g3] at h; cases h) (by rw [g2]; exact hkC) (by rw [g2]; exact va_assign hcls) rfl rfl d fun H1 e9 z oq => hfin H1 (by rw [e9, heq (.ref (ρ v)) rfl]) z oq
theorem x_aast12 (hC : xC G X own cc nL rm) {a : Nm} {i : Int32} {o : Option Nm} (ho : ∀ m, o = some m → hK σ m = 3) (hk : hK σ a = 12) (hin : vp_in i (hL σ a)) (d : decode cc pc = .ok (.aastore, 1)) (kk : xJ G X Q nL ρ (sR σ a i.toNatClampNeg o) k n (pc + 1) L st) : xJ G X Q nL ρ σ k n pc L (rv ρ o :: .int i :: .ref (ρ a) :: st) := by
  obtain ⟨p, l, e, R, s, m, args, below, meth, c, σ0, ρ0⟩ := X
  obtain ⟨hx, hb, hml, hown, hts, hE, -⟩ := hC
  intro H locs ls hH hlo
  have hlt : i.toNatClampNeg < hL σ a := Nat.not_le.mp fun q => hin (Or.inr q)
  have h0 : ¬ i < 0 := fun q => hin (Or.inl q)
  have hcell := hH.1.arr hk (by decide)
  rw [xc_q (by omega) (by omega)] at hcell
  have hcl : ∀ j m, hR (sR σ a i.toNatClampNeg o) a j = some m → hK σ m ≠ 0 := by
    intro j m h
    rw [hR_sR] at h
    split at h
    · rw [ho m h]; decide
    · exact hH.1.2.2 a j m h
  have hfin : ∀ (H1 : Heap), H1[ρ a]? = some (vp_cell (G.2.2.2.1 12) (hL σ a, .inr (.inr (.inr (.inr (fun j => (hR (sR σ a i.toNatClampNeg o) a j).map ρ)))))) → H1.size = H.size → (∀ q, q ≠ ρ a → H1[q]? = H[q]?) → W p l e R s m args below meth c H1 (locs ++ [⟨ρ a, i.toNatClampNeg⟩]) k n Q (F0 m (pc + 1) ls st) := by
    intro H1 e9 z oq
    refine kk H1 _ ls (x_arrW (a := a) (σ' := sR σ a i.toNatClampNeg o) hH (by omega) rfl sR_o hcl ?_ z oq) hlo
    rw [e9, xc_q (by rw [hK_sR]; omega) (by rw [hK_sR]; omega), hk]
    rfl
  have heq : ∀ w : Value, w = rv ρ o → (vp_cell (G.2.2.2.1 12) (hL σ a, .inr (.inr (.inr (.inr (fun j => (hR σ a j).map ρ)))))).setSlot i.toNatClampNeg w = vp_cell (G.2.2.2.1 12) (hL σ a, .inr (.inr (.inr (.inr (fun j => (hR (sR σ a i.toNatClampNeg o) a j).map ρ))))) := by
    intro w hw
    rw [vp_cell_q, vp_cell_q, arrV_store]
    congr 1
    funext q
    by_cases hq : q = i.toNatClampNeg
    · subst hq; simp [updV, hR_sR, hw, rv]
    · simp [updV, hR_sR, hq]
  cases o with
  | none => exact va_WaastN (C := "PlantServer$Message") hx hb hcell ((hE.1.2 3 _ rfl).1 (hL σ a) (fun j => rv ρ (hR σ a j))) (fun h => by cases h) (by show ¬ (i < 0 ∨ (arrV _ _ _).slots.size ≤ _); rw [arrV_size]; exact hin) rfl rfl d fun H1 e9 z oq => hfin H1 (by rw [e9, heq .null rfl]) z oq
  | some v =>
    have hv := ho v rfl
    obtain ⟨cellV, g1, g2, g3, -⟩ := hH.1.obj (ci := 2) hv rfl
    have hcls := (hE.1.1 2 _ rfl).2
    obtain ⟨kA, comp, k1, k2, k3, -⟩ := (hE.1.2 3 _ rfl).2
    have hcomp : comp = G.2.1 2 := Option.some.inj (k3.symm.trans hcls.1)
    subst hcomp
    obtain ⟨kC, hkC, -⟩ := hcls.2
    exact W.aast hx hb hcell (fun q h => by cases h) (fun h => by cases h) k1 k2 rfl hkC ⟨h0, by show _ < (arrV _ _ _).slots.size; rw [arrV_size]; exact hlt⟩ g1 (fun q h => by rw [g3] at h; cases h) (by rw [g2]; exact hkC) (by rw [g2]; exact va_assign hcls) rfl rfl d fun H1 e9 z oq => hfin H1 (by rw [e9, heq (.ref (ρ v)) rfl]) z oq
theorem x_aast13 (hC : xC G X own cc nL rm) {a : Nm} {i : Int32} {o : Option Nm} (ho : ∀ m, o = some m → hK σ m = 5) (hk : hK σ a = 13) (hin : vp_in i (hL σ a)) (d : decode cc pc = .ok (.aastore, 1)) (kk : xJ G X Q nL ρ (sR σ a i.toNatClampNeg o) k n (pc + 1) L st) : xJ G X Q nL ρ σ k n pc L (rv ρ o :: .int i :: .ref (ρ a) :: st) := by
  obtain ⟨p, l, e, R, s, m, args, below, meth, c, σ0, ρ0⟩ := X
  obtain ⟨hx, hb, hml, hown, hts, hE, -⟩ := hC
  intro H locs ls hH hlo
  have hlt : i.toNatClampNeg < hL σ a := Nat.not_le.mp fun q => hin (Or.inr q)
  have h0 : ¬ i < 0 := fun q => hin (Or.inl q)
  have hcell := hH.1.arr hk (by decide)
  rw [xc_q (by omega) (by omega)] at hcell
  have hcl : ∀ j m, hR (sR σ a i.toNatClampNeg o) a j = some m → hK σ m ≠ 0 := by
    intro j m h
    rw [hR_sR] at h
    split at h
    · rw [ho m h]; decide
    · exact hH.1.2.2 a j m h
  have hfin : ∀ (H1 : Heap), H1[ρ a]? = some (vp_cell (G.2.2.2.1 13) (hL σ a, .inr (.inr (.inr (.inr (fun j => (hR (sR σ a i.toNatClampNeg o) a j).map ρ)))))) → H1.size = H.size → (∀ q, q ≠ ρ a → H1[q]? = H[q]?) → W p l e R s m args below meth c H1 (locs ++ [⟨ρ a, i.toNatClampNeg⟩]) k n Q (F0 m (pc + 1) ls st) := by
    intro H1 e9 z oq
    refine kk H1 _ ls (x_arrW (a := a) (σ' := sR σ a i.toNatClampNeg o) hH (by omega) rfl sR_o hcl ?_ z oq) hlo
    rw [e9, xc_q (by rw [hK_sR]; omega) (by rw [hK_sR]; omega), hk]
    rfl
  have heq : ∀ w : Value, w = rv ρ o → (vp_cell (G.2.2.2.1 13) (hL σ a, .inr (.inr (.inr (.inr (fun j => (hR σ a j).map ρ)))))).setSlot i.toNatClampNeg w = vp_cell (G.2.2.2.1 13) (hL σ a, .inr (.inr (.inr (.inr (fun j => (hR (sR σ a i.toNatClampNeg o) a j).map ρ))))) := by
    intro w hw
    rw [vp_cell_q, vp_cell_q, arrV_store]
    congr 1
    funext q
    by_cases hq : q = i.toNatClampNeg
    · subst hq; simp [updV, hR_sR, hw, rv]
    · simp [updV, hR_sR, hq]
  cases o with
  | none => exact va_WaastN (C := "PlantServer$Subscription") hx hb hcell ((hE.1.2 4 _ rfl).1 (hL σ a) (fun j => rv ρ (hR σ a j))) (fun h => by cases h) (by show ¬ (i < 0 ∨ (arrV _ _ _).slots.size ≤ _); rw [arrV_size]; exact hin) rfl rfl d fun H1 e9 z oq => hfin H1 (by rw [e9, heq .null rfl]) z oq
  | some v =>
    have hv := ho v rfl
    obtain ⟨cellV, g1, g2, g3, -⟩ := hH.1.obj (ci := 4) hv rfl
    have hcls := (hE.1.1 4 _ rfl).2
    obtain ⟨kA, comp, k1, k2, k3, -⟩ := (hE.1.2 4 _ rfl).2
    have hcomp : comp = G.2.1 4 := Option.some.inj (k3.symm.trans hcls.1)
    subst hcomp
    obtain ⟨kC, hkC, -⟩ := hcls.2
    exact W.aast hx hb hcell (fun q h => by cases h) (fun h => by cases h) k1 k2 rfl hkC ⟨h0, by show _ < (arrV _ _ _).slots.size; rw [arrV_size]; exact hlt⟩ g1 (fun q h => by rw [g3] at h; cases h) (by rw [g2]; exact hkC) (by rw [g2]; exact va_assign hcls) rfl rfl d fun H1 e9 z oq => hfin H1 (by rw [e9, heq (.ref (ρ v)) rfl]) z oq
end
end
section
section
variable {G : xG} {X : xX} {Q : State → Prop} {nL : Nat} {rm : Room} {own : String} {cc : ByteArray} {ρ : Nm → Nat} {σ : PH} {k n pc : Nat} {L : List (Nat × Value)} {st : List Value}
/-- 'new': a name that nothing has yet, and an address -/
theorem x_new (hC : xC G X own cc nL rm) {ci idx : Nat} {C : String} {T : u_T} {N : Nat} (n0 : Nm) (hz : hK σ n0 = 0) (hc : vwCl[ci]? = some (C, T, N)) (hdef : ∀ (ty : Nat → FieldType), (∀ k, k < N → parseFieldDescriptor (T k).2.2.1 = some (ty k)) → ∀ j, j < N → defaultValue (ty j) = if xRef (ci + 1) j = true then .null else .int 0) (w1 : Cond.classLink own idx C ∈ T0) (w2 : Cond.instantiable C N ∈ T0) (w3 : Cond.initialized C ∈ T0) (h1 : k + 1 ≤ rm.cells) (h2 : n + N ≤ rm.slots) (d : decode cc pc = .ok (.new idx, 3))
    (kk : ∀ ρ' : Nm → Nat, (∀ m, hK σ m ≠ 0 → ρ' m = ρ m) → xJ G X Q nL ρ' (sN σ n0 (ci + 1) 0) (k + 1) (n + N) (pc + 3) L (.ref (ρ' n0) :: st)) : xJ G X Q nL ρ σ k n pc L st := by
  obtain ⟨p, l, e, R, s, m, args, below, meth, c, σ0, ρ0⟩ := X
  obtain ⟨hx, hb, hml, hown, hts, hE, hlk, hst, hR⟩ := hC
  intro H locs ls hH hlo
  subst hR
  have hKn := hE.1.1 ci _ hc
  obtain ⟨g1, ⟨ty, g2⟩, g3, g4⟩ := xcl hc
  have hGH : G.1 ≤ H.size := Nat.le_trans hE.2.2.2.2.2.2.2.1 hH.2.1.1
  refine W.newcK hx hb hown (hts _ w1) (hts _ w2) (hts _ w3) rfl d h1 h2 hKn.2.1 rfl fun H1 kC hkC e1 z1 o1 => ?_
  obtain ⟨ρ', e0, hne⟩ : ∃ ρ' : Nm → Nat, ρ' n0 = H.size ∧ ∀ m, hK σ m ≠ 0 → ρ' m = ρ m := ⟨fun m => if m = n0 then H.size else ρ m, if_pos rfl, fun m hm => if_neg (fun q => hm (by rw [q]; exact hz))⟩
  have hob := u_born ty hts g1 hKn hkC e1 g2
  refine W.eq (g2 := F0 m (pc + 3) ls (.ref H.size :: st)) rfl ?_
  rw [← e0]
  refine kk ρ' hne H1 locs ls ⟨hH.1.new (kd := ci + 1) (len := 0) hz rfl hGH e0 hne (by omega) ?_ o1, ⟨Nat.le_trans hH.2.1.1 (by omega), fun x q1 q2 => (o1 x (Nat.lt_of_lt_of_le q1 hH.2.1.1)).trans (hH.2.1.2.1 x q1 q2), hH.2.1.2.2⟩, hH.2.2.new hz hne⟩ hlo
  have hkn : hK (sN σ n0 (ci + 1) 0) n0 = ci + 1 := by rw [hK_sN, if_pos rfl]
  unfold xat
  rw [hkn, if_pos (by omega)]
  refine ⟨(C, T, N), hc, ?_⟩
  rw [e0]
  refine t_OB.to hob (fun j hj => ?_)
  rw [hdef ty g2 j hj]
  unfold xV
  rw [hkn]
  cases hr : xRef (ci + 1) j
  · simp [hI_sN]
  · simp [hR_sN, rv_none]
theorem x_newa {kd : Nat} (hkd : kd = 9 ∨ kd = 10 ∨ kd = 14) (hC : xC G X own cc nL rm) {v : Int32} {N : Nat} (n0 : Nm) (hz : hK σ n0 = 0) (at9 : ArrayType) (hat : newarray.typeOf at9 = xTy kd) (hv : v = nI N) (hN : N < 2 ^ 20) (w1 : Cond.arrayClass (newarray.typeOf at9) ∈ T0) (h1 : k + 1 ≤ rm.cells) (h2 : n + N ≤ rm.slots) (d : decode cc pc = .ok (.newarray at9, 2))
    (kk : ∀ ρ' : Nm → Nat, (∀ m, hK σ m ≠ 0 → ρ' m = ρ m) → xJ G X Q nL ρ' (sN σ n0 kd N) (k + 1) (n + N) (pc + 2) L (.ref (ρ' n0) :: st)) : xJ G X Q nL ρ σ k n pc L (.int v :: st) := by
  obtain ⟨p, l, e, R, s, m, args, below, meth, c, σ0, ρ0⟩ := X
  obtain ⟨hx, hb, hml, hown, hts, hE, hlk, hst, hR⟩ := hC
  intro H locs ls hH hlo
  subst hR
  have hGH : G.1 ≤ H.size := Nat.le_trans hE.2.2.2.2.2.2.2.1 hH.2.1.1
  have hcb : componentBytes (xTy kd) ≤ 8 := by rcases hkd with rfl | rfl | rfl <;> decide
  refine va_newaK hx hb (hts _ w1) (g := F0 m pc ls (.int v :: st)) rfl d (n := v) (N := N) rfl (by rw [hv]; exact nI_pos (by omega)) (by rw [hv]; exact nI_clamp (by omega)) (by rw [hat]; exact Nat.le_trans (Nat.mul_le_mul (Nat.le_of_lt hN) hcb) (by decide)) h1 h2 rfl fun H1 cA e1 z1 o1 hAr hNm => ?_
  obtain ⟨ρ', e0, hne⟩ : ∃ ρ' : Nm → Nat, ρ' n0 = H.size ∧ ∀ m, hK σ m ≠ 0 → ρ' m = ρ m := ⟨fun m => if m = n0 then H.size else ρ m, if_pos rfl, fun m hm => if_neg (fun q => hm (by rw [q]; exact hz))⟩
  have hcA : cA = G.2.2.2.1 kd := by
    rw [hat] at hNm
    rcases hkd with rfl | rfl | rfl
    · exact Option.some.inj (hNm.symm.trans (hE.1.2 0 _ rfl).2)
    · exact Option.some.inj (hNm.symm.trans (hE.1.2 1 _ rfl).2)
    · exact Option.some.inj (hNm.symm.trans (hE.1.2 5 _ rfl).2)
  refine W.eq (g2 := F0 m (pc + 2) ls (.ref H.size :: st)) rfl ?_
  rw [← e0]
  refine kk ρ' hne H1 locs ls ⟨hH.1.new (kd := kd) (len := N) hz rfl hGH e0 hne (by omega) ?_ o1, ⟨Nat.le_trans hH.2.1.1 (by omega), fun x q1 q2 => (o1 x (Nat.lt_of_lt_of_le q1 hH.2.1.1)).trans (hH.2.1.2.1 x q1 q2), hH.2.1.2.2⟩, hH.2.2.new hz hne⟩ hlo
  have hkn : hK (sN σ n0 kd N) n0 = kd := by rw [hK_sN, if_pos rfl]
  have hln : hL (sN σ n0 kd N) n0 = N := by rw [hL_sN, if_pos rfl]
  have hin : hI (sN σ n0 kd N) n0 = fun _ => 0 := by funext j; rw [hI_sN, if_pos rfl]
  have hjn : hJ (sN σ n0 kd N) n0 = fun _ => 0 := by funext j; rw [hJ_sN, if_pos rfl]
  unfold xat
  rw [hkn, if_neg (by omega), e0, e1, ← hcA, hat]
  rcases hkd with rfl | rfl | rfl
  · rw [xc_i (by omega), hln, hin]; rfl
  · rw [xc_i (by omega), hln, hin]; rfl
  · rw [xc_l hkn, hln, hjn]; rfl
theorem x_newq {kd : Nat} {C : String} (hkd : kd = 11 ∧ C = "PlantServer$Item" ∨ kd = 12 ∧ C = "PlantServer$Message" ∨ kd = 13 ∧ C = "PlantServer$Subscription") (hC : xC G X own cc nL rm) {v : Int32} {N idx : Nat} (n0 : Nm) (hz : hK σ n0 = 0) (hv : v = nI N) (hN : N < 2 ^ 20) (w1 : Cond.classLink own idx C ∈ T0) (h1 : k + 1 ≤ rm.cells) (h2 : n + N ≤ rm.slots) (d : decode cc pc = .ok (.anewarray idx, 3))
    (kk : ∀ ρ' : Nm → Nat, (∀ m, hK σ m ≠ 0 → ρ' m = ρ m) → xJ G X Q nL ρ' (sN σ n0 kd N) (k + 1) (n + N) (pc + 3) L (.ref (ρ' n0) :: st)) : xJ G X Q nL ρ σ k n pc L (.int v :: st) := by
  obtain ⟨p, l, e, R, s, m, args, below, meth, c, σ0, ρ0⟩ := X
  obtain ⟨hx, hb, hml, hown, hts, hE, hlk, hst, hR⟩ := hC
  intro H locs ls hH hlo
  subst hR
  have hGH : G.1 ≤ H.size := Nat.le_trans hE.2.2.2.2.2.2.2.1 hH.2.1.1
  have hao : va_AO C s := hE.2.2.2.2.2.2.1 C (by rcases hkd with ⟨-, rfl⟩ | ⟨-, rfl⟩ | ⟨-, rfl⟩ <;> simp)
  refine W.anew hx hb hown (hts _ w1) (va_AO.use hao) (g := F0 m pc ls (.int v :: st)) rfl d (n := v) rfl (by rw [hv]; exact nI_pos (by omega)) (by rw [hv, nI_clamp (by omega)]; omega) h1 (by rw [hv, nI_clamp (by omega)]; exact h2) fun cA kA comp f1 f2 f3 f4 => ?_
  obtain ⟨ρ', e0, hne⟩ : ∃ ρ' : Nm → Nat, ρ' n0 = H.size ∧ ∀ m, hK σ m ≠ 0 → ρ' m = ρ m := ⟨fun m => if m = n0 then H.size else ρ m, if_pos rfl, fun m hm => if_neg (fun q => hm (by rw [q]; exact hz))⟩
  have hvN : v.toNatClampNeg = N := by rw [hv]; exact nI_clamp (by omega)
  rw [hvN]
  generalize hH1 : H.push ({ cls := cA, slots := Array.replicate N .null, vm := .none } : Cell) = H1
  have z1 : H1.size = H.size + 1 := by rw [← hH1, Array.size_push]
  have e1 : H1[H.size]? = some (arrV cA N (fun _ => .null)) := by rw [← hH1, Array.getElem?_push_size, ← arrV_new]
  have o1 : ∀ q : Nat, q < H.size → H1[q]? = H[q]? := fun q hq => by rw [← hH1, Array.getElem?_push, if_neg (Nat.ne_of_lt hq)]
  have hcA : cA = G.2.2.2.1 kd := by
    rcases hkd with ⟨rfl, rfl⟩ | ⟨rfl, rfl⟩ | ⟨rfl, rfl⟩
    · obtain ⟨kA', comp', -, -, -, k4⟩ := (hE.1.2 2 _ rfl).2
      exact Option.some.inj (f1.symm.trans k4)
    · obtain ⟨kA', comp', -, -, -, k4⟩ := (hE.1.2 3 _ rfl).2
      exact Option.some.inj (f1.symm.trans k4)
    · obtain ⟨kA', comp', -, -, -, k4⟩ := (hE.1.2 4 _ rfl).2
      exact Option.some.inj (f1.symm.trans k4)
  refine W.eq (g2 := F0 m (pc + 3) ls (.ref H.size :: st)) rfl ?_
  rw [← e0]
  have hkk : 11 ≤ kd ∧ kd ≤ 13 := by rcases hkd with ⟨rfl, -⟩ | ⟨rfl, -⟩ | ⟨rfl, -⟩ <;> decide
  refine kk ρ' hne H1 locs ls ⟨hH.1.new (kd := kd) (len := N) hz rfl hGH e0 hne (by omega) ?_ o1, ⟨Nat.le_trans hH.2.1.1 (by omega), fun x q1 q2 => (o1 x (Nat.lt_of_lt_of_le q1 hH.2.1.1)).trans (hH.2.1.2.1 x q1 q2), hH.2.1.2.2⟩, hH.2.2.new hz hne⟩ hlo
  have hkn : hK (sN σ n0 kd N) n0 = kd := by rw [hK_sN, if_pos rfl]
  have hln : hL (sN σ n0 kd N) n0 = N := by rw [hL_sN, if_pos rfl]
  unfold xat
  rw [hkn, if_neg (by omega), e0, e1, ← hcA]
  rw [xc_q (by omega) (by omega), hln, vp_cell_q]
  congr 2
  funext j
  rw [hR_sN, if_pos rfl]
  rfl
end
end
section
def xR0 (X : xX) (ρ : Nm → Nat) : Prop := X.2.2.2.2.2.2.2.2.2.2.2 = ρ
section
variable {G : xG} {X : xX} {Q : State → Prop} {nL : Nat} {rm : Room} {own : String} {cc : ByteArray} {ρ : Nm → Nat} {σ : PH} {k n pc : Nat} {L : List (Nat × Value)} {st : List Value} {P : Option Value → PH → (Nm → Nat) → Prop} {Xp : String → PH → Prop}
theorem x_iret (hC : xC G X own cc nL rm) (hr : xRt X (some .int)) {v : Int32} (d : decode cc pc = .ok (.ireturn, 1)) (h1 : k ≤ rm.cells) (h2 : n ≤ rm.slots) (hp : P (some (.int v)) σ ρ) : xJ G X (xT X P Xp G rm) nL ρ σ k n pc L [.int v] := by
  obtain ⟨p, l, e, R, s, m, args, below, meth, c, σ0, ρ0⟩ := X
  obtain ⟨hx, hb, hml, hown, hts, hE, hlk, hst, hR⟩ := hC
  intro H locs ls hH hlo
  exact vx_ret (W.widen h1 h2 (W.iret hx hb hr (fun t ht hW => ⟨⟨_, σ, ρ, rfl, hp, by rw [ht]; exact hH.1, hH.2.2⟩, hH.2.1.F ht⟩) hH.2.1.2.2 d hlk))
theorem x_zret (hC : xC G X own cc nL rm) (hr : xRt X (some .boolean)) {v : Int32} (hz : zb v) (d : decode cc pc = .ok (.ireturn, 1)) (h1 : k ≤ rm.cells) (h2 : n ≤ rm.slots) (hp : P (some (.int v)) σ ρ) : xJ G X (xT X P Xp G rm) nL ρ σ k n pc L [.int v] := by
  obtain ⟨p, l, e, R, s, m, args, below, meth, c, σ0, ρ0⟩ := X
  obtain ⟨hx, hb, hml, hown, hts, hE, hlk, hst, hR⟩ := hC
  intro H locs ls hH hlo
  exact vx_ret (W.widen h1 h2 (W.zret hx hb hr (zb_n hz) (fun t ht hW => ⟨⟨_, σ, ρ, rfl, hp, by rw [ht]; exact hH.1, hH.2.2⟩, hH.2.1.F ht⟩) hH.2.1.2.2 d hlk))
theorem x_vret (hC : xC G X own cc nL rm) (hr : xRt X none) (d : decode cc pc = .ok (.return_, 1)) (h1 : k ≤ rm.cells) (h2 : n ≤ rm.slots) (hp : P none σ ρ) : xJ G X (xT X P Xp G rm) nL ρ σ k n pc L [] := by
  obtain ⟨p, l, e, R, s, m, args, below, meth, c, σ0, ρ0⟩ := X
  obtain ⟨hx, hb, hml, hown, hts, hE, hlk, hst, hR⟩ := hC
  intro H locs ls hH hlo
  exact vx_ret (W.widen h1 h2 (W.vret hx hb hr (fun t ht hW => ⟨⟨_, σ, ρ, rfl, hp, by rw [ht]; exact hH.1, hH.2.2⟩, hH.2.1.F ht⟩) hH.2.1.2.2 d hlk))
theorem x_aret (hC : xC G X own cc nL rm) {C : String} (hr : xRt X (some (.object C))) {o : Option Nm} (d : decode cc pc = .ok (.areturn, 1)) (h1 : k ≤ rm.cells) (h2 : n ≤ rm.slots) (hp : P (some (rv ρ o)) σ ρ) : xJ G X (xT X P Xp G rm) nL ρ σ k n pc L [rv ρ o] := by
  obtain ⟨p, l, e, R, s, m, args, below, meth, c, σ0, ρ0⟩ := X
  obtain ⟨hx, hb, hml, hown, hts, hE, hlk, hst, hR⟩ := hC
  intro H locs ls hH hlo
  exact vx_ret (W.widen h1 h2 (W.aret hx hb hr (Or.inl ⟨C, rfl⟩) (by cases o with | none => exact Or.inl rfl | some a => exact Or.inr ⟨_, rfl⟩) (fun t ht hW => ⟨⟨_, σ, ρ, rfl, hp, by rw [ht]; exact hH.1, hH.2.2⟩, hH.2.1.F ht⟩) hH.2.1.2.2 d hlk))
/-- an exception that goes on to the caller -/
theorem x_out (hC : xC G X own cc nL rm) {E : String} (h0 : xR0 X ρ) (htab : xTab X []) (h1 : k ≤ rm.cells) (h2 : n ≤ rm.slots) (hp : Xp E σ) : xE G X (xT X P Xp G rm) nL ρ σ k n pc L E := by
  obtain ⟨p, l, e, R, s, m, args, below, meth, c, σ0, ρ0⟩ := X
  obtain ⟨hx, hb, hml, hown, hts, hE, hlk, hst, hR⟩ := hC
  intro H locs ls rest q ce hH hlo g1 g2 g3
  cases (show ρ0 = ρ from h0)
  have htab : c.exceptionTable.toList = [] := htab
  exact vx_out (by rw [htab]; intro x hx; cases hx) hlk g1 g2 g3 (fun t ht hW => ⟨⟨σ, hp, by rw [ht]; exact hH.1, hH.2.2⟩, hH.2.1.F ht⟩) hH.2.1.2.2 h1 h2
theorem x_catch (hC : xC G X own cc nL rm) {E name : String} (pre suf : List (Nat × Nat × Nat × Nat)) (x : Nat × Nat × Nat × Nat) (htab : xTab X (pre ++ x :: suf)) (hpass : ∀ z ∈ pre, z.2.2.2 ≠ 0 ∧ ∃ nm, Cond.classLink own z.2.2.2 nm ∈ T0 ∧ (E, nm) ∈ xNcs) (hcov : covers ⟨x.1, x.2.1, x.2.2.1, x.2.2.2⟩ pc = true) (h0 : x.2.2.2 ≠ 0) (hlink : Cond.classLink own x.2.2.2 name ∈ T0) (hcast : Cond.castable E name ∈ T1) (kk : ∀ q : Nat, xJ G X Q nL ρ σ k n x.2.2.1 L [.ref q]) : xE G X Q nL ρ σ k n pc L E := by
  obtain ⟨p, l, e, R, s, m, args, below, meth, c, σ0, ρ0⟩ := X
  obtain ⟨hx, hb, hml, hown, hts, hE, hlk, hst, hR⟩ := hC
  intro H locs ls rest q ce hH hlo g1 g2 g3
  have htab : c.exceptionTable.toList = tableOf (pre ++ x :: suf) := htab
  refine vx_catch hown (tableOf pre) ⟨x.1, x.2.1, x.2.2.1, x.2.2.2⟩ (tableOf suf) (by rw [htab]; simp [tableOf]) (fun z hz => Or.inr ?_) hcov h0 (hts _ hlink) (va_Nw.use rfl (hE.2.2.2.2.1 _ hcast)) g1 g2 g3 (kk q H locs ls hH hlo)
  obtain ⟨z', hz', rfl⟩ := List.mem_map.mp hz
  obtain ⟨a1, nm, a2, a3⟩ := hpass z' hz'
  exact ⟨a1, nm, hts _ a2, hE.2.2.2.2.2.1 _ a3⟩
/-- behind a call -/
theorem x_callG {p : Program} {l : Launch} {e : Env} {R : Room} {s : State} {m : MethodId} {args : Array Value} {below : List Frame} {meth : Method} {c : Code} {σ0 : PH} {ρ0 : Nm → Nat} {H : Heap} {locs : List Loc} {ls : Array Slot} {mc ms : Nat} {st0 rest : List Value} {a : Array Value}
    (hr : vx_Run p l e R s m args below meth c H locs k n mc ms (F0 m pc ls st0) rest (xQ G ρ σ P a) (xXC G ρ σ Xp) (xA G)) (hH : xH G (p, l, e, R, s, m, args, below, meth, c, σ0, ρ0) ρ σ H locs) (hlo : lv_has ls nL L)
    (kx : ∀ (E : String) (σ' : PH), Xp E σ' → xE G (p, l, e, R, s, m, args, below, meth, c, σ0, ρ0) Q nL ρ σ' (k + mc) (n + ms) pc L E)
    (kk : ∀ (v : Option Value) (σ' : PH) (ρ' : Nm → Nat), P v σ' ρ' → xAg σ ρ σ' ρ' → xJ G (p, l, e, R, s, m, args, below, meth, c, σ0, ρ0) Q nL ρ' σ' (k + mc) (n + ms) (pc + 3) L (v.toList ++ rest)) : W p l e R s m args below meth c H locs k n Q (F0 m pc ls st0) := by
  intro T hT X
  rcases hr T hT X with ⟨v, st₀, t, T', Lc, h0, X1, hLc, e1, e2, ⟨⟨v', σ', ρ', hv, hp, hw, hag⟩, hF⟩, stp⟩ | ⟨q, st₀, t, T', Lc, E, ce, h0, X1, hLc, e1, e2, ⟨⟨σ', hp, hw, hag⟩, hF⟩, hce, hcv, hcl, stp⟩
  · cases hv
    obtain ⟨k1, k2, k3⟩ := vx_keep (A0 := xA G) (A1 := xA G) (free := xA G) h0 e1 hH.2.1 (fun _ _ h => h) (fun _ h => h) hLc hF
    obtain ⟨t2, a1, b1⟩ := kk v σ' ρ' hp hag T'.heap (locs ++ Lc) ls ⟨by rw [e1]; exact hw, k3, hH.2.2.tr hag⟩ hlo T' rfl X1
    exact ⟨t2, stp t2 a1, b1⟩
  · obtain ⟨k1, k2, k3⟩ := vx_keep (A0 := xA G) (A1 := xA G) (free := xA G) h0 e1 hH.2.1 (fun _ _ h => h) (fun _ h => h) hLc hF
    obtain ⟨t2, a1, b1⟩ := kx E σ' hp T'.heap (locs ++ Lc) ls rest q ce ⟨by rw [e1]; exact hw, k3, hH.2.2.tr hag⟩ hlo (by rw [e1]; exact hce) hcv hcl T' rfl X1
    exact ⟨t2, stp.trans a1, b1⟩
theorem x_preS {p : Program} {l : Launch} {e : Env} {R : Room} {s : State} {m : MethodId} {args : Array Value} {below : List Frame} {meth : Method} {c : Code} {σ0 : PH} {ρ0 : Nm → Nat} {H : Heap} {locs : List Loc} {as : List Value} (hE : xEnv G s) (hH : xH G (p, l, e, R, s, m, args, below, meth, c, σ0, ρ0) ρ σ H locs) : PreS s H (va_Pc as (xPre G ρ σ)) as :=
  ⟨x_blind, fun U hU hW => ⟨rfl, by rw [hU]; exact hH.1, xEnv.moved hW (by rw [hU]; exact hH.2.1.1) (fun q h1 h2 => by rw [hU]; exact hH.2.1.2.1 q h1 h2) hE⟩⟩
theorem t0_in {Ts ws : List Cond} (h1 : ∀ w ∈ Ts, w ∈ T0) (h2 : ∀ w ∈ ws, w ∈ Ts) : GoodIn Ts ws := fun w hw => ⟨h2 w hw, good_of_word (t0_good (h1 w (h2 w hw)))⟩
theorem goodV {idx : Nat} {C : String} {y : MethodName} {w0 : Cond} (h1 : Cond.methodLink own idx y ∈ T0) (h2 : Cond.instanceMethod y ∈ T0) (h3 : Cond.selects C y y ∈ T0) (h4 : Cond.initialized C ∈ T0) (h5 : w0 ∈ T0) : GoodIn T0 (wsV own idx C y (w0 :: T0)) := by
  refine t0_in (fun w h => h) (fun w hw => ?_)
  simp only [wsV, List.cons_append, List.nil_append, List.mem_cons] at hw
  rcases hw with rfl | rfl | rfl | rfl | rfl | hw
  · exact h1
  · exact h2
  · exact h3
  · exact h4
  · exact h5
  · exact hw
theorem goodS {idx : Nat} {y : MethodName} {w0 : Cond} (h1 : Cond.methodLink own idx y ∈ T0) (h2 : Cond.static y ∈ T0) (h4 : Cond.initialized y.cls ∈ T0) (h5 : w0 ∈ T0) : GoodIn T0 (va_wsS own idx y (w0 :: T0)) := by
  refine t0_in (fun w h => h) (fun w hw => ?_)
  simp only [va_wsS, List.cons_append, List.nil_append, List.mem_cons] at hw
  rcases hw with rfl | rfl | rfl | rfl | hw
  · exact h1
  · exact h2
  · exact h4
  · exact h5
  · exact hw
theorem good0 {w0 : Cond} (h5 : w0 ∈ T0) : GoodIn T0 (w0 :: T0) := t0_in (fun w h => h) (fun w hw => by
  rcases List.mem_cons.mp hw with rfl | hw
  · exact h5
  · exact hw)
theorem x_callV (hC : xC G X own cc nL rm) {n0 : Nm} {ci idx maxL : Nat} {r : vw_C} {y : MethodName} {bytes : ByteArray} {ret : Option FieldType} {rm' : Room} {as rest st0 : List Value} (hk : hK σ n0 = ci + 1) (hc : vwCl[ci]? = some r) (hM : ∀ l : Launch, l.stackTraces = false → xMet l y (.code y bytes maxL ret) rm' G ρ σ (.ref (ρ n0) :: as) P Xp)
    (w1 : Cond.methodLink own idx y ∈ T0) (w2 : Cond.instanceMethod y ∈ T0) (w3 : Cond.selects r.1 y y ∈ T0) (w4 : Cond.initialized r.1 ∈ T0) (w5 : Cond.code y bytes maxL ret ∈ T0) (hd : y.cls = r.1 ∧ y.cls ≠ "java/lang/invoke/MethodHandle" ∧ y.cls ≠ "java/lang/invoke/VarHandle" ∧ (parseMethodDescriptor y.desc).map (fun d => d.parameters.length) = some as.length) (hR : rm'.frames + 1 ≤ rm.frames ∧ 8 + (maxL + 11) + rm'.locals ≤ rm.locals) (hf : k + rm'.cells ≤ rm.cells ∧ n + rm'.slots ≤ rm.slots)
    (hst : (rest.map fun v => v.category).sum ≤ 8) (hs0 : st0 = as.reverse ++ .ref (ρ n0) :: rest) (d : decode cc pc = .ok (.invokevirtual idx, 3))
    (kx : ∀ (E : String) (σ' : PH), Xp E σ' → xE G X Q nL ρ σ' (k + rm'.cells) (n + rm'.slots) pc L E) (kk : ∀ (v : Option Value) (σ' : PH) (ρ' : Nm → Nat), P v σ' ρ' → xAg σ ρ σ' ρ' → xJ G X Q nL ρ' σ' (k + rm'.cells) (n + rm'.slots) (pc + 3) L (v.toList ++ rest)) : xJ G X Q nL ρ σ k n pc L st0 := by
  obtain ⟨p, l, e, R, s, m, args, below, meth, c, σ0, ρ0⟩ := X
  obtain ⟨hx, hb, hml, hown, hts, hE, hlk, hst9, hRR⟩ := hC
  subst hRR
  intro H locs ls hH hlo
  obtain ⟨cell, q1, q2, q3, -⟩ := hH.1.obj hk hc
  have hpre := x_preS (as := .ref (ρ n0) :: as) hE hH
  exact x_callG (vx_runV (As := as) (rest := rest) (C := r.1) ⟨hx, hb, hml, hown, hts⟩ (hM l hst9) (cwV as.length hts (goodV w1 w2 w3 w4 w5) rfl rfl rfl hd hR) ⟨hpre.1, ⟨cell, q1, by rw [q3]; rfl, by rw [q2]; exact (hE.1.1 ci r hc).2.1⟩, hpre.2⟩ rfl rfl hlo.1 hs0 (lv_room hst) d hf) hH hlo kx kk
theorem x_callS (hC : xC G X own cc nL rm) {idx maxL : Nat} {y : MethodName} {bytes : ByteArray} {ret : Option FieldType} {rm' : Room} {as rest st0 : List Value} (hM : ∀ l : Launch, l.stackTraces = false → xMet l y (.code y bytes maxL ret) rm' G ρ σ as P Xp)
    (w1 : Cond.methodLink own idx y ∈ T0) (w2 : Cond.static y ∈ T0) (w4 : Cond.initialized y.cls ∈ T0) (w5 : Cond.code y bytes maxL ret ∈ T0) (hd : y.cls ≠ "java/lang/invoke/MethodHandle" ∧ y.cls ≠ "java/lang/invoke/VarHandle" ∧ (parseMethodDescriptor y.desc).map (fun d => d.parameters.length) = some as.length) (hR : rm'.frames + 1 ≤ rm.frames ∧ 8 + (maxL + 11) + rm'.locals ≤ rm.locals) (hf : k + rm'.cells ≤ rm.cells ∧ n + rm'.slots ≤ rm.slots)
    (hst : (rest.map fun v => v.category).sum ≤ 8) (hs0 : st0 = as.reverse ++ rest) (d : decode cc pc = .ok (.invokestatic idx, 3))
    (kx : ∀ (E : String) (σ' : PH), Xp E σ' → xE G X Q nL ρ σ' (k + rm'.cells) (n + rm'.slots) pc L E) (kk : ∀ (v : Option Value) (σ' : PH) (ρ' : Nm → Nat), P v σ' ρ' → xAg σ ρ σ' ρ' → xJ G X Q nL ρ' σ' (k + rm'.cells) (n + rm'.slots) (pc + 3) L (v.toList ++ rest)) : xJ G X Q nL ρ σ k n pc L st0 := by
  obtain ⟨p, l, e, R, s, m, args, below, meth, c, σ0, ρ0⟩ := X
  obtain ⟨hx, hb, hml, hown, hts, hE, hlk, hst9, hRR⟩ := hC
  subst hRR
  intro H locs ls hH hlo
  exact x_callG (vx_runS (As := as) (rest := rest) ⟨hx, hb, hml, hown, hts⟩ (hM l hst9) (va_cwS as.length hts (goodS w1 w2 w4 w5) rfl rfl rfl hd hR) (x_preS (as := as) hE hH) rfl rfl hlo.1 hs0 (lv_room hst) d hf) hH hlo kx kk
theorem x_callSW (hC : xC G X own cc nL rm) {idx maxL : Nat} {y : MethodName} {bytes : ByteArray} {ret : Option FieldType} {hh : List (Nat × Nat × Nat × Nat)} {rm' : Room} {as rest st0 : List Value} (hM : ∀ l : Launch, l.stackTraces = false → xMet l y (.codeWith y bytes maxL ret hh) rm' G ρ σ as P Xp)
    (w1 : Cond.methodLink own idx y ∈ T0) (w2 : Cond.static y ∈ T0) (w4 : Cond.initialized y.cls ∈ T0) (w5 : Cond.codeWith y bytes maxL ret hh ∈ T0) (hd : y.cls ≠ "java/lang/invoke/MethodHandle" ∧ y.cls ≠ "java/lang/invoke/VarHandle" ∧ (parseMethodDescriptor y.desc).map (fun d => d.parameters.length) = some as.length) (hR : rm'.frames + 1 ≤ rm.frames ∧ 8 + (maxL + 11) + rm'.locals ≤ rm.locals) (hf : k + rm'.cells ≤ rm.cells ∧ n + rm'.slots ≤ rm.slots)
    (hst : (rest.map fun v => v.category).sum ≤ 8) (hs0 : st0 = as.reverse ++ rest) (d : decode cc pc = .ok (.invokestatic idx, 3))
    (kx : ∀ (E : String) (σ' : PH), Xp E σ' → xE G X Q nL ρ σ' (k + rm'.cells) (n + rm'.slots) pc L E) (kk : ∀ (v : Option Value) (σ' : PH) (ρ' : Nm → Nat), P v σ' ρ' → xAg σ ρ σ' ρ' → xJ G X Q nL ρ' σ' (k + rm'.cells) (n + rm'.slots) (pc + 3) L (v.toList ++ rest)) : xJ G X Q nL ρ σ k n pc L st0 := by
  obtain ⟨p, l, e, R, s, m, args, below, meth, c, σ0, ρ0⟩ := X
  obtain ⟨hx, hb, hml, hown, hts, hE, hlk, hst9, hRR⟩ := hC
  subst hRR
  intro H locs ls hH hlo
  exact x_callG (vx_runSX (As := as) (rest := rest) ⟨hx, hb, hml, hown, hts⟩ (hM l hst9) (vx_cwSW as.length hts (goodS w1 w2 w4 w5) rfl rfl rfl hd hR) (x_preS (as := as) hE hH) rfl rfl hlo.1 hs0 (lv_room hst) d hf) hH hlo kx kk
theorem x_callI (hC : xC G X own cc nL rm) {b idx maxL : Nat} {y : MethodName} {bytes : ByteArray} {rm' : Room} {as rest st0 : List Value} (hM : ∀ l : Launch, l.stackTraces = false → xMet l y (.code y bytes maxL none) rm' G ρ σ (.ref b :: as) P Xp)
    (w1 : Cond.methodLink own idx y ∈ T0) (w2 : Cond.instanceMethod y ∈ T0) (w4 : Cond.initialized y.cls ∈ T0) (w5 : Cond.code y bytes maxL none ∈ T0) (hy : y.name = "<init>") (hd : y.cls ≠ "java/lang/invoke/MethodHandle" ∧ y.cls ≠ "java/lang/invoke/VarHandle" ∧ (parseMethodDescriptor y.desc).map (fun d => d.parameters.length) = some as.length) (hR : rm'.frames + 1 ≤ rm.frames ∧ 8 + (maxL + 11) + rm'.locals ≤ rm.locals) (hf : k + rm'.cells ≤ rm.cells ∧ n + rm'.slots ≤ rm.slots)
    (hst : (rest.map fun v => v.category).sum ≤ 8) (hs0 : st0 = as.reverse ++ .ref b :: rest) (d : decode cc pc = .ok (.invokespecial idx, 3))
    (kx : ∀ (E : String) (σ' : PH), Xp E σ' → xE G X Q nL ρ σ' (k + rm'.cells) (n + rm'.slots) pc L E) (kk : ∀ (v : Option Value) (σ' : PH) (ρ' : Nm → Nat), P v σ' ρ' → xAg σ ρ σ' ρ' → xJ G X Q nL ρ' σ' (k + rm'.cells) (n + rm'.slots) (pc + 3) L (v.toList ++ rest)) : xJ G X Q nL ρ σ k n pc L st0 := by
  obtain ⟨p, l, e, R, s, m, args, below, meth, c, σ0, ρ0⟩ := X
  obtain ⟨hx, hb, hml, hown, hts, hE, hlk, hst9, hRR⟩ := hC
  subst hRR
  intro H locs ls hH hlo
  exact x_callG (vx_runI (As := as) (rest := rest) ⟨hx, hb, hml, hown, hts⟩ (hM l hst9) (cwI as.length hts (good0 w5) rfl rfl rfl (hts _ w4) (hts _ w1) (hts _ w2) hy hd hR) (x_preS (as := .ref b :: as) hE hH) rfl rfl hlo.1 hs0 (lv_room hst) d hf) hH hlo kx kk
theorem x_callIN (hC : xC G X own cc nL rm) {b idx maxL : Nat} {y : MethodName} {host : String} {bytes : ByteArray} {rm' : Room} {as rest st0 : List Value} (hM : ∀ l : Launch, l.stackTraces = false → xMet l y (.code y bytes maxL none) rm' G ρ σ (.ref b :: as) P Xp)
    (w1 : Cond.methodLinkNest own idx y host ∈ T1) (w2 : Cond.instanceMethod y ∈ T0) (w4 : Cond.initialized y.cls ∈ T0) (w5 : Cond.code y bytes maxL none ∈ T0) (hy : y.name = "<init>") (hd : y.cls ≠ "java/lang/invoke/MethodHandle" ∧ y.cls ≠ "java/lang/invoke/VarHandle" ∧ (parseMethodDescriptor y.desc).map (fun d => d.parameters.length) = some as.length) (hR : rm'.frames + 1 ≤ rm.frames ∧ 8 + (maxL + 11) + rm'.locals ≤ rm.locals) (hf : k + rm'.cells ≤ rm.cells ∧ n + rm'.slots ≤ rm.slots)
    (hst : (rest.map fun v => v.category).sum ≤ 8) (hs0 : st0 = as.reverse ++ .ref b :: rest) (d : decode cc pc = .ok (.invokespecial idx, 3))
    (kx : ∀ (E : String) (σ' : PH), Xp E σ' → xE G X Q nL ρ σ' (k + rm'.cells) (n + rm'.slots) pc L E) (kk : ∀ (v : Option Value) (σ' : PH) (ρ' : Nm → Nat), P v σ' ρ' → xAg σ ρ σ' ρ' → xJ G X Q nL ρ' σ' (k + rm'.cells) (n + rm'.slots) (pc + 3) L (v.toList ++ rest)) : xJ G X Q nL ρ σ k n pc L st0 := by
  obtain ⟨p, l, e, R, s, m, args, below, meth, c, σ0, ρ0⟩ := X
  obtain ⟨hx, hb, hml, hown, hts, hE, hlk, hst9, hRR⟩ := hC
  subst hRR
  intro H locs ls hH hlo
  exact x_callG (vx_runIN (As := as) (rest := rest) ⟨hx, hb, hml, hown, hts⟩ (hM l hst9) ⟨va_cnB as.length hts (good0 w5) rfl rfl rfl (hE.2.2.2.2.1 _ w1) (hts _ w4) hd hR, hy, hts _ w2⟩ (x_preS (as := .ref b :: as) hE hH) rfl rfl hlo.1 hs0 (lv_room hst) d hf) hH hlo kx kk
theorem x_oinit (hC : xC G X own cc nL rm) {b idx : Nat} (w1 : Cond.methodLink own idx Lib.objectInit ∈ T0) (w2 : Cond.instanceMethod Lib.objectInit ∈ T0) (w3 : Cond.code Lib.objectInit ⟨#[0xb1]⟩ 1 none ∈ T0) (hR : 1 ≤ rm.frames) (hR2 : (st.map fun v => v.category).sum + 12 ≤ rm.locals) (d : decode cc pc = .ok (.invokespecial idx, 3)) (kk : xJ G X Q nL ρ σ k n (pc + 3) L st) : xJ G X Q nL ρ σ k n pc L (.ref b :: st) := by
  obtain ⟨p, l, e, R, s, m, args, below, meth, c, σ0, ρ0⟩ := X
  obtain ⟨hx, hb, hml, hown, hts, hE, hlk, hst9, hRR⟩ := hC
  subst hRR
  intro H locs ls hH hlo
  exact W.objInit hx hb hown (hts _ w1) (hts _ w2) (hts _ w3) rfl (by rw [hml]; exact hlo.1) rfl d hR (by show 2 * 0 + _ + 12 ≤ _; omega) (W.eq (g2 := F0 m (pc + 3) ls st) rfl (kk H locs ls hH hlo))
theorem x_abs (hC : xC G X own cc nL rm) {idx : Nat} {v : Int32} (w1 : Cond.methodLink own idx Lib.Math.abs.name ∈ T0) (w2 : Cond.static Lib.Math.abs.name ∈ T0) (w3 : Cond.initialized "java/lang/Math" ∈ T0) (w4 : Cond.code Lib.Math.abs.name Lib.Math.abs.code 1 (some .int) ∈ T0) (hR : 1 ≤ rm.frames) (hR2 : (st.map fun v => v.category).sum + 13 ≤ rm.locals) (h1 : k ≤ rm.cells) (h2 : n ≤ rm.slots) (d : decode cc pc = .ok (.invokestatic idx, 3)) (kk : xJ G X Q nL ρ σ k n (pc + 3) L (.int (if 0 ≤ v then v else 0 - v) :: st)) : xJ G X Q nL ρ σ k n pc L (.int v :: st) := by
  obtain ⟨p, l, e, R, s, m, args, below, meth, c, σ0, ρ0⟩ := X
  obtain ⟨hx, hb, hml, hown, hts, hE, hlk, hst9, hRR⟩ := hC
  subst hRR
  intro H locs ls hH hlo
  exact va_mabs hx hb (hml.trans hlo.1.symm) hown (hts _ w1) (hts _ w2) (hts _ w3) (hts _ w4) hR hR2 h1 h2 d (kk H locs ls hH hlo)
theorem x_min (hC : xC G X own cc nL rm) {idx : Nat} {v w : Int32} (w1 : Cond.methodLink own idx Lib.Math.min.name ∈ T0) (w2 : Cond.static Lib.Math.min.name ∈ T0) (w3 : Cond.initialized "java/lang/Math" ∈ T0) (w4 : Cond.code Lib.Math.min.name Lib.Math.min.code 2 (some .int) ∈ T0) (hR : 1 ≤ rm.frames) (hR2 : (st.map fun v => v.category).sum + 13 ≤ rm.locals) (h1 : k ≤ rm.cells) (h2 : n ≤ rm.slots) (d : decode cc pc = .ok (.invokestatic idx, 3)) (kk : xJ G X Q nL ρ σ k n (pc + 3) L (.int (if w < v then w else v) :: st)) : xJ G X Q nL ρ σ k n pc L (.int w :: .int v :: st) := by
  obtain ⟨p, l, e, R, s, m, args, below, meth, c, σ0, ρ0⟩ := X
  obtain ⟨hx, hb, hml, hown, hts, hE, hlk, hst9, hRR⟩ := hC
  subst hRR
  intro H locs ls hH hlo
  exact va_mmin hx hb (hml.trans hlo.1.symm) hown (hts _ w1) (hts _ w2) (hts _ w3) (hts _ w4) hR hR2 h1 h2 d (kk H locs ls hH hlo)
/-- 'throw new E(text)' in PlantServer -/
def xEx : List (String × Nat × Nat) := [(xIO, 185, 189), (xIA, 109, 113), (xIS, 59, 63), (xNE, 198, 202)]
def xNs : List String := ["java/lang/RuntimeException", "java/lang/Exception"]
theorem x_throw (hC : xC G X "PlantServer" cc nL rm) (h0 : xR0 X ρ) (htab : xTab X []) {E text : String} {ik is ic : Nat} (hq : ("PlantServer", is, text) ∈ xStrs) (hcls : Bundle.fit E = true) (w1 : Cond.classLink "PlantServer" ik E ∈ T0) (w2 : Cond.initialized E ∈ T0) (hat : ∀ w ∈ vx_atS "PlantServer" ic E xNs, w ∈ lw_tbl ∧ (goodWord w || isCD w) = true) (hgood : ∀ w ∈ Cond.classLink "PlantServer" ik E :: Cond.initialized E :: vx_atS "PlantServer" ic E xNs, vx_ot w = true)
    (d0 : decode cc pc = .ok (.new ik, 3)) (d3 : decode cc (pc + 3) = .ok (.dup, 1)) (d4 : decode cc (pc + 4) = .ok (.ldc is, 2)) (d6 : decode cc (pc + 6) = .ok (.invokespecial ic, 3)) (d9 : decode cc (pc + 9) = .ok (.athrow, 1)) (hF : 5 < rm.frames) (hL9 : (st.map fun v => v.category).sum + 82 ≤ rm.locals) (h1 : k + 1 ≤ rm.cells) (h2 : n + 6 ≤ rm.slots) (hp : Xp E σ) : xJ G X (xT X P Xp G rm) nL ρ σ k n pc L st := by
  obtain ⟨p, l, e, R, s, m, args, below, meth, c, σ0, ρ0⟩ := X
  obtain ⟨hx, hb, hml, hown, hts, hE, hlk, hst9, hRR⟩ := hC
  subst hRR
  intro H locs ls hH hlo
  cases (show ρ0 = ρ from h0)
  have htab : c.exceptionTable.toList = [] := htab
  obtain ⟨sa, hsa⟩ := hE.2.2.2.1 _ hq
  refine vx_throwS (A := xA G) hx hb hst9 (ik := ik) (is := is) (ic := ic) (cls := E) (text := text) (names := xNs) hown hcls (by decide +kernel) (hts _ w1) (hts _ w2) hsa (fun w hw => ?_) hgood hE.2.1 hE.2.2.1 hH.2.1 (by rw [hml]; exact hlo.1) d0 d3 d4 d6 d9 (by rw [htab]; intro x hx; cases hx) hF hL9 h1 h2 hlk (fun t hal hz hk => ⟨⟨σ, hp, ⟨fun n hn => ?_, hH.1.2.1, hH.1.2.2⟩, hH.2.2⟩, ⟨Nat.le_trans hH.2.1.1 hz, fun q q1 q2 => (hk q (Nat.lt_of_lt_of_le q1 hH.2.1.1)).trans (hH.2.1.2.1 q q1 q2)⟩⟩) hH.2.1.2.2 h1 h2
  · obtain ⟨a1, a2⟩ := hat w hw
    rw [Bool.or_eq_true] at a2
    rcases a2 with a2 | a2
    · exact hts w (t0_of a1 a2)
    · exact va_Nw.use (by cases w <;> simp [isCD] at a2 <;> rfl) (hE.2.2.2.2.1 w (List.mem_filter.mpr ⟨a1, a2⟩))
  · obtain ⟨b1, b2⟩ := hH.1.1 n hn
    refine ⟨b1, b2.same rfl rfl (fun _ => rfl) (fun _ => rfl) (fun _ => rfl) rfl (hk _ ?_)⟩
    unfold xat at b2
    split at b2
    · obtain ⟨r, -, cell, r2, -⟩ := b2
      exact (Array.getElem?_eq_some_iff.mp r2).1
    · exact (Array.getElem?_eq_some_iff.mp b2).1
end
/-- a method's contract out of the walk of its body -/
theorem xMet.of {l : Launch} {y : MethodName} {cc : ByteArray} {maxL : Nat} {ret : Option FieldType} {rm : Room} {G : xG} {ρ : Nm → Nat} {σ : PH} {as : List Value} {P : Option Value → PH → (Nm → Nat) → Prop} {Xp : String → PH → Prop} (hl : l.stackTraces = false) (hy : plainName y.cls = true) (hlen : (lg_sl as).length ≤ maxL)
    (body : ∀ X : xX, xC G X y.cls cc maxL rm → xRt X ret → xNm X y.name → xTab X [] → xR0 X ρ → xJ G X (xT X P Xp G rm) maxL ρ σ 0 0 0 (lv_args 0 as) []) : xMet l y (.code y cc maxL ret) rm G ρ σ as P Xp := by
  refine vx_ofW (cc := cc) (maxL := maxL) (ret := ret) hy rfl ?_
  intro p e s m args below meth c s₁ B hml ht hv
  obtain ⟨rfl, hw, hE⟩ := hv
  have hts := atoms_spec (ws := Cond.code y cc maxL ret :: T0) B.pre
  have h := body (p, l, e, rm, s, m, as.toArray, below, meth, c, σ, ρ) ⟨B.exec, B.bytes, hml, findClass_of_methodNamed B.named, fun w hw => hts w (List.mem_cons_of_mem _ hw), hE, B.notSynchronized, hl, rfl⟩ B.returns (name_of_methodNamed B.named B.method).1 (List.eq_nil_iff_forall_not_mem.mpr ht) rfl
  rw [lg_entry_eq]
  exact h s.heap [] _ ⟨hw, va_S.rf, xAg.rf⟩ (lv_entry as hlen)
theorem xMet.ofW {l : Launch} {y : MethodName} {cc : ByteArray} {maxL : Nat} {ret : Option FieldType} {hh : List (Nat × Nat × Nat × Nat)} {rm : Room} {G : xG} {ρ : Nm → Nat} {σ : PH} {as : List Value} {P : Option Value → PH → (Nm → Nat) → Prop} {Xp : String → PH → Prop} (hl : l.stackTraces = false) (hy : plainName y.cls = true) (hlen : (lg_sl as).length ≤ maxL)
    (body : ∀ X : xX, xC G X y.cls cc maxL rm → xRt X ret → xNm X y.name → xTab X hh → xR0 X ρ → xJ G X (xT X P Xp G rm) maxL ρ σ 0 0 0 (lv_args 0 as) []) : xMet l y (.codeWith y cc maxL ret hh) rm G ρ σ as P Xp := by
  refine vx_ofWH (cc := cc) (maxL := maxL) (ret := ret) (hh := hh) hy rfl ?_
  intro p e s m args below meth c s₁ B hml hv
  obtain ⟨rfl, hw, hE⟩ := hv
  have hts := atoms_spec (ws := Cond.codeWith y cc maxL ret hh :: T0) B.pre
  have h := body (p, l, e, rm, s, m, as.toArray, below, meth, c, σ, ρ) ⟨B.exec, B.bytes, hml, findClass_of_methodNamed B.named, fun w hw => hts w (List.mem_cons_of_mem _ hw), hE, B.notSynchronized, hl, rfl⟩ B.returns (name_of_methodNamed B.named B.method).1 (vx_table (x := y) B (hts _ List.mem_cons_self)) rfl
  rw [lg_entry_eq]
  exact h s.heap [] _ ⟨hw, va_S.rf, xAg.rf⟩ (lv_entry as hlen)
end
section
theorem rv_cat {ρ : Nm → Nat} {o : Option Nm} : (rv ρ o).category = 1 := by cases o <;> rfl
theorem sN_c {σ : PH} {n : Nm} {k len : Nat} : hK (sN σ n k len) n = k := by rw [hK_sN, if_pos rfl]
theorem sN_k {σ : PH} {c n : Nm} {kd len k : Nat} (hz : hK σ c = 0) (h : hK σ n = k) (h0 : k ≠ 0) : hK (sN σ c kd len) n = k := by
  rw [hK_sN, if_neg (fun q => h0 (by rw [← h, q]; exact hz))]; exact h
section
variable {G : xG} {X : xX} {Q : State → Prop} {nL : Nat} {rm : Room} {own : String} {cc : ByteArray} {ρ : Nm → Nat} {σ : PH} {k n pc : Nat} {L : List (Nat × Value)} {st : List Value}
theorem xJ.nmH (kk : ∀ σ' : PH, σ' = σ → xJ G X Q nL ρ σ' k n pc L st) : xJ G X Q nL ρ σ k n pc L st := kk σ rfl
theorem xJ.nmT {v : Int32} (kk : ∀ y : Int32, y = v → xJ G X Q nL ρ σ k n pc L (.int y :: st)) : xJ G X Q nL ρ σ k n pc L (.int v :: st) := kk v rfl
theorem xJ.nrm {k' n' pc' : Nat} {st' : List Value} (h1 : k = k') (h2 : n = n') (h3 : pc = pc') (h4 : st = st') (kk : xJ G X Q nL ρ σ k' n' pc' L st') : xJ G X Q nL ρ σ k n pc L st := by subst h1; subst h2; subst h3; subst h4; exact kk
theorem x_cases20 (x : Int32) : x = 0 ∨ x = 1 ∨ x = 2 ∨ x = 3 ∨ x = 4 ∨ x = 5 ∨ x = 6 ∨ x = 7 ∨ x = 8 ∨ x = 9 ∨ x = 10 ∨ x = 11 ∨ x = 12 ∨ x = 13 ∨ x = 14 ∨ x = 15 ∨ x = 16 ∨ x = 17 ∨ x = 18 ∨ x = 19 ∨ x = 20 ∨ ((∀ j : Nat, j ≤ 20 → ¬ x = nI j) ∧ (x.toInt < 0 ∨ 20 < x.toInt)) := by
  by_cases h : 0 ≤ x.toInt ∧ x.toInt ≤ 20
  · obtain ⟨j, hj, e⟩ : ∃ j : Nat, j ≤ 20 ∧ x = nI j := ⟨x.toInt.toNat, by omega, Int32.toInt_inj.mp (by rw [nI_toInt (by omega)]; omega)⟩
    have hj' : j = 0 ∨ j = 1 ∨ j = 2 ∨ j = 3 ∨ j = 4 ∨ j = 5 ∨ j = 6 ∨ j = 7 ∨ j = 8 ∨ j = 9 ∨ j = 10 ∨ j = 11 ∨ j = 12 ∨ j = 13 ∨ j = 14 ∨ j = 15 ∨ j = 16 ∨ j = 17 ∨ j = 18 ∨ j = 19 ∨ j = 20 := by omega
    subst e
    rcases hj' with rfl | rfl | rfl | rfl | rfl | rfl | rfl | rfl | rfl | rfl | rfl | rfl | rfl | rfl | rfl | rfl | rfl | rfl | rfl | rfl | rfl <;> decide
  · have h9 : (∀ j : Nat, j ≤ 20 → ¬ x = nI j) ∧ (x.toInt < 0 ∨ 20 < x.toInt) := ⟨fun j hj e => h (by rw [e, nI_toInt (by omega)]; omega), by omega⟩
    exact Or.inr (Or.inr (Or.inr (Or.inr (Or.inr (Or.inr (Or.inr (Or.inr (Or.inr (Or.inr (Or.inr (Or.inr (Or.inr (Or.inr (Or.inr (Or.inr (Or.inr (Or.inr (Or.inr (Or.inr (Or.inr h9))))))))))))))))))))
theorem x_tabIn (hC : xC G X own cc nL rm) {dflt lo hi : Int} {offs : Array Int} {len : Nat} {x : Int32} {off : Int} {tgt : Nat} (j : Nat) {v : Int32} (he : x = v) (d : decode cc pc = .ok (.tableswitch dflt lo hi offs, len)) (h1 : ¬ v.toInt < lo) (h2 : ¬ hi < v.toInt) (ho : offs[(v.toInt - lo).toNat]? = some off) (ht : (pc : Int) + off = (tgt : Int)) (kk : xJ G X Q nL ρ σ k n tgt L st) : xJ G X Q nL ρ σ k n pc L (.int x :: st) := by
  subst he
  obtain ⟨p, l, e, R, s, m, args, below, meth, c, σ0, ρ0⟩ := X
  obtain ⟨hx, hb, -⟩ := hC
  intro H locs ls hH hl
  exact lv_tableIn hx hb d h1 h2 ho ht (kk H locs ls hH hl)
theorem x_tabOut (hC : xC G X own cc nL rm) {dflt lo hi : Int} {offs : Array Int} {len : Nat} {x : Int32} {tgt : Nat} (h : x.toInt < lo ∨ hi < x.toInt) (d : decode cc pc = .ok (.tableswitch dflt lo hi offs, len)) (ht : (pc : Int) + dflt = (tgt : Int)) (kk : xJ G X Q nL ρ σ k n tgt L st) : xJ G X Q nL ρ σ k n pc L (.int x :: st) := by
  obtain ⟨p, l, e, R, s, m, args, below, meth, c, σ0, ρ0⟩ := X
  obtain ⟨hx, hb, -⟩ := hC
  intro H locs ls hH hl
  exact lv_tableOut hx hb d h ht (kk H locs ls hH hl)
/-- the law's script, no cell of ours -/
def xScr (G : xG) (X : xX) (b Lx : Nat) (xs : Nat → Int32) : Prop := va_X b Lx xs X.2.2.2.2.1 X.2.2.2.2.1.heap ∧ b < X.2.2.2.2.1.heap.size ∧ ¬ xA G b
theorem xC.scr (hC : xC G X own cc nL rm) : xScr G X (gb G) (gL G) (gx G) := by
  obtain ⟨p, l, e, R, s, m, args, below, meth, c, σ0, ρ0⟩ := X
  obtain ⟨hx, hb, hml, hown, hts, hE, -⟩ := hC
  exact ⟨hE.2.2.2.2.2.2.2.2.1, Nat.lt_of_lt_of_le hE.2.2.2.2.2.2.2.2.2 hE.2.2.2.2.2.2.2.1, Nat.not_le.mpr hE.2.2.2.2.2.2.2.2.2⟩
theorem x_sld (hC : xC G X own cc nL rm) {b Lx : Nat} {xs : Nat → Int32} (hS : xScr G X b Lx xs) {i : Int32} (hin : vp_in i Lx) (d : decode cc pc = .ok (.iaload, 1)) (kk : xJ G X Q nL ρ σ k n (pc + 1) L (.int (xs i.toNatClampNeg) :: st)) : xJ G X Q nL ρ σ k n pc L (.int i :: .ref b :: st) := by
  obtain ⟨p, l, e, R, s, m, args, below, meth, c, σ0, ρ0⟩ := X
  obtain ⟨hx, hb, -⟩ := hC
  intro H locs ls hH hl
  exact va_sld hx hb hS.1 hS.2.1 hS.2.2 hH.2.1 hin d (kk H locs ls hH hl)
theorem x_slen (hC : xC G X own cc nL rm) {b Lx : Nat} {xs : Nat → Int32} (hS : xScr G X b Lx xs) (d : decode cc pc = .ok (.arraylength, 1)) (kk : xJ G X Q nL ρ σ k n (pc + 1) L (.int (nI Lx) :: st)) : xJ G X Q nL ρ σ k n pc L (.ref b :: st) := by
  obtain ⟨p, l, e, R, s, m, args, below, meth, c, σ0, ρ0⟩ := X
  obtain ⟨hx, hb, -⟩ := hC
  intro H locs ls hH hl
  exact va_slen hx hb hS.1 hS.2.1 hS.2.2 hH.2.1 d (kk H locs ls hH hl)
end
theorem xpass1 {own E n1 : String} {i1 a1 b1 c1 : Nat} (w1 : Cond.classLink own i1 n1 ∈ T0) (h1 : i1 ≠ 0) (g1 : (E, n1) ∈ xNcs) : ∀ z ∈ [(a1, b1, c1, i1)], z.2.2.2 ≠ 0 ∧ ∃ nm, Cond.classLink own z.2.2.2 nm ∈ T0 ∧ (E, nm) ∈ xNcs := by
  intro z hz
  rw [List.mem_singleton] at hz
  subst hz
  exact ⟨h1, n1, w1, g1⟩
theorem xpass2 {own E n1 n2 : String} {i1 i2 a1 b1 c1 a2 b2 c2 : Nat} (w1 : Cond.classLink own i1 n1 ∈ T0) (h1 : i1 ≠ 0) (g1 : (E, n1) ∈ xNcs ∧ (E, n2) ∈ xNcs) (w2 : Cond.classLink own i2 n2 ∈ T0) (h2 : i2 ≠ 0) : ∀ z ∈ [(a1, b1, c1, i1), (a2, b2, c2, i2)], z.2.2.2 ≠ 0 ∧ ∃ nm, Cond.classLink own z.2.2.2 nm ∈ T0 ∧ (E, nm) ∈ xNcs := by
  intro z hz
  rw [List.mem_cons, List.mem_singleton] at hz
  rcases hz with rfl | rfl
  · exact ⟨h1, n1, w1, g1.1⟩
  · exact ⟨h2, n2, w2, g1.2⟩
theorem t1_of {w : Cond} (h : w ∈ lw_tbl) (g : isCD w = true) : w ∈ T1 := List.mem_filter.mpr ⟨h, g⟩
theorem xcast_xIO : Cond.castable xIO "java/lang/IndexOutOfBoundsException" ∈ T1 := t1_of (by decide +kernel) rfl
theorem xcast_xIA : Cond.castable xIA "java/lang/IllegalArgumentException" ∈ T1 := t1_of (by decide +kernel) rfl
theorem xcast_xIS : Cond.castable xIS "java/lang/IllegalStateException" ∈ T1 := t1_of (by decide +kernel) rfl
theorem xcast_xNE : Cond.castable xNE "java/util/NoSuchElementException" ∈ T1 := t1_of (by decide +kernel) rfl
theorem qn_0 : Cond.methodLinkNest "PlantServer" 30 ⟨"PlantServer$History", "<init>", "()V"⟩ "PlantServer" ∈ T1 := t1_of (by decide +kernel) rfl
theorem qn_2 : Cond.methodLinkNest "PlantServer$Subscription" 104 ⟨"PlantServer$Message", "<init>", "()V"⟩ "PlantServer" ∈ T1 := t1_of (by decide +kernel) rfl
theorem xhat_xIO : ∀ w ∈ vx_atS "PlantServer" 189 xIO xNs, w ∈ lw_tbl ∧ (goodWord w || isCD w) = true := by decide +kernel
theorem xhat_xIA : ∀ w ∈ vx_atS "PlantServer" 113 xIA xNs, w ∈ lw_tbl ∧ (goodWord w || isCD w) = true := by decide +kernel
theorem xhat_xIS : ∀ w ∈ vx_atS "PlantServer" 63 xIS xNs, w ∈ lw_tbl ∧ (goodWord w || isCD w) = true := by decide +kernel
theorem xgood_xIO : ∀ w ∈ Cond.classLink "PlantServer" 185 xIO :: Cond.initialized xIO :: vx_atS "PlantServer" 189 xIO xNs, vx_ot w = true := by decide +kernel
theorem xgood_xIA : ∀ w ∈ Cond.classLink "PlantServer" 109 xIA :: Cond.initialized xIA :: vx_atS "PlantServer" 113 xIA xNs, vx_ot w = true := by decide +kernel
theorem xgood_xIS : ∀ w ∈ Cond.classLink "PlantServer" 59 xIS :: Cond.initialized xIS :: vx_atS "PlantServer" 63 xIS xNs, vx_ot w = true := by decide +kernel
theorem xdf_of {ci N : Nat} {T : u_T} {tyX : Nat → FieldType} (h1 : ∀ k, k < N → parseFieldDescriptor (T k).2.2.1 = some (tyX k)) (h2 : ∀ j, j < N → defaultValue (tyX j) = if xRef (ci + 1) j = true then .null else .int 0) : ∀ (ty : Nat → FieldType), (∀ k, k < N → parseFieldDescriptor (T k).2.2.1 = some (ty k)) → ∀ j, j < N → defaultValue (ty j) = if xRef (ci + 1) j = true then .null else .int 0 := by
  intro ty h j hj
  rw [show ty j = tyX j from Option.some.inj ((h j hj).symm.trans (h1 j hj))]
  exact h2 j hj
theorem xdf0 : ∀ (ty : Nat → FieldType), (∀ k, k < 4 → parseFieldDescriptor (TX0 k).2.2.1 = some (ty k)) → ∀ j, j < 4 → defaultValue (ty j) = if xRef (0 + 1) j = true then .null else .int 0 := xdf_of tyX0_ok (by decide +kernel)
theorem xdf1 : ∀ (ty : Nat → FieldType), (∀ k, k < 12 → parseFieldDescriptor (TX1 k).2.2.1 = some (ty k)) → ∀ j, j < 12 → defaultValue (ty j) = if xRef (1 + 1) j = true then .null else .int 0 := xdf_of tyX1_ok (by decide +kernel)
theorem xdf2 : ∀ (ty : Nat → FieldType), (∀ k, k < 5 → parseFieldDescriptor (TX2 k).2.2.1 = some (ty k)) → ∀ j, j < 5 → defaultValue (ty j) = if xRef (2 + 1) j = true then .null else .int 0 := xdf_of tyX2_ok (by decide +kernel)
theorem xdf3 : ∀ (ty : Nat → FieldType), (∀ k, k < 5 → parseFieldDescriptor (TX3 k).2.2.1 = some (ty k)) → ∀ j, j < 5 → defaultValue (ty j) = if xRef (3 + 1) j = true then .null else .int 0 := xdf_of tyX3_ok (by decide +kernel)
theorem xdf4 : ∀ (ty : Nat → FieldType), (∀ k, k < 14 → parseFieldDescriptor (TX4 k).2.2.1 = some (ty k)) → ∀ j, j < 14 → defaultValue (ty j) = if xRef (4 + 1) j = true then .null else .int 0 := xdf_of tyX4_ok (by decide +kernel)
theorem xdf5 : ∀ (ty : Nat → FieldType), (∀ k, k < 2 → parseFieldDescriptor (TX5 k).2.2.1 = some (ty k)) → ∀ j, j < 2 → defaultValue (ty j) = if xRef (5 + 1) j = true then .null else .int 0 := xdf_of tyX5_ok (by decide +kernel)
theorem xdf6 : ∀ (ty : Nat → FieldType), (∀ k, k < 9 → parseFieldDescriptor (TX6 k).2.2.1 = some (ty k)) → ∀ j, j < 9 → defaultValue (ty j) = if xRef (6 + 1) j = true then .null else .int 0 := xdf_of tyX6_ok (by decide +kernel)
end
section
/-! NoSuchElementException's constructor names its own in another place of its pool than the other three: the same throw, with the first link's place as a premise (it follows the library's law of a throw without stack traces). -/
def nS : String → MethodName := fun X => ⟨X, "<init>", "(Ljava/lang/String;)V"⟩
def at13 (own : String) (ic : Nat) (cls sup : String) (ix : Nat) (rx : ByteArray) (names : List String) : List Cond :=
  Bundle.throwableAtoms ++ Bundle.throwableSAtoms ++ (Bundle.passSAtoms cls sup ix rx ++ Bundle.chainSAtoms sup names) ++
  [.methodLink own ic (Bundle.initS cls), .instantiable cls 6, .castable cls cls, .selects cls Bundle.tFill0 Bundle.tFill0, .selects cls Bundle.tFill Bundle.tFill,
   .lays cls Bundle.tN "cause" "Ljava/lang/Throwable;", .lays cls Bundle.tN "stackTrace" Bundle.steD, .lays cls Bundle.tN "suppressedExceptions" Bundle.listD, .lays cls Bundle.tN "detailMessage" "Ljava/lang/String;",
   .isRef (.static Bundle.tN "UNASSIGNED_STACK" Bundle.steD), .isRef (.static Bundle.tN "SUPPRESSED_SENTINEL" Bundle.listD),
   .fieldLink Bundle.tN 198 Bundle.tN "backtrace" "Ljava/lang/Object;", .lays Bundle.tN Bundle.tN "backtrace" "Ljava/lang/Object;", .lays cls Bundle.tN "backtrace" "Ljava/lang/Object;"]
section
variable {p : Program} {l : Launch} {e : Env} {R : Room} {s : State} {m₀ : MethodId} {args : Array Value} {below : List Frame} {meth : Method} {c : Code} {W : State} {locs : List Loc} {cells slots : Nat}
set_option maxHeartbeats 1000000 in
theorem x_ctor13 (X : Stand p l e R s m₀ args below meth c W locs cells slots) (hexec : p.tables.exec = Jvm.exec) (htr : e.platform.stackTraces = false) {own cls sup : String} {ix : Nat} {rx : ByteArray} {names : List String} {ic : Nat}
    (x0 : decode rx 0 = .ok (.aload_n 0, 1)) (x1 : decode rx 1 = .ok (.aload_n 1, 1)) (x2 : decode rx 2 = .ok (.invokespecial ix, 3)) (x5 : decode rx 5 = .ok (.return_, 1))
    (hown : s.vm.findClass own = some m₀.cls) (hcls : Bundle.fit cls = true) (hsup : Bundle.fit sup = true) (hnames : ∀ n ∈ names, Bundle.fit n = true)
    (h : ∀ a ∈ at13 own ic cls sup ix rx names, a.before args s = true)
    (hlocs : ∀ x ∈ locs, ∀ cell, s.heap[x.base]? = some cell → cell.vm.isStatics = false)
    {a : Addr} {cX : ClassId} {kX : Class} (hfoundX : s.vm.findClass cls = some cX) (hkX : s.vm.classes[cX]? = some kX) (hcell : W.heap[a]? = some (freshCell cX kX)) (hnew : s.heap.size ≤ a)
    {msg : Value} (hmsg : msg.isRef = true)
    {g : JFrame} (hg : g.method = m₀) (hsize : g.locals.size = c.maxLocals) (hlocked : g.locked = none) (hentered : g.entered = []) {rest : List Value} (hstack : g.stack = msg :: .ref a :: .ref a :: rest)
    (hd6 : decode c.code g.pc = .ok (.invokespecial ic, 3)) (hd9 : decode c.code (g.pc + 3) = .ok (.athrow, 1)) (hout : ∀ x ∈ c.exceptionTable.toList, covers x (g.pc + 3) = false)
    (hRframes : names.length + 4 < R.frames) (hRlocals : 2 * g.monitorRoom + ((Value.ref a :: rest).map fun v => v.category).sum + (13 * (names.length + 2) + 42) ≤ R.locals) (hlocks : meth.locks = false) :
    ∃ U : State, Steps p.tables e below (W.setTop g) U ∧ U.status = .running ∧ Ended U below (.threw a) ∧ s.WarmedH U.vm ∧ s.sameButNew ({ U with vm := s.vm } : State) locs cells slots ∧
      ∃ ce, U.heap[a]? = some ce ∧ ce.vm = .none ∧ ce.cls = cX := by
  have howns : e.platform.frameOwnsMonitors = true := by rw [X.admits.platform]
  have hfin : e.platform.finalization = false := by rw [X.admits.platform]
  have hpl : e.platform.magicAccessors = ({} : Platform).magicAccessors := by rw [X.admits.platform]
  have a' : ∀ x, x ∈ at13 own ic cls sup ix rx names → x.holds args s none s [] = true := fun x hx => h x hx
  obtain ⟨T, Z0, L, -, Y⟩ := ThrowableC.of_atoms (args := args) howns hfin hpl (fun x hx => h x (by simp [at13, hx]))
  obtain ⟨Z, M, LZ, LM, hnZ⟩ := Init0T.ofS_atoms (args := args) hpl L Y (fun x hx => h x (by simp [at13, hx]))
  obtain ⟨P1, L1, hP1m, hs1⟩ := PassC.ofS_atoms (args := args) (s := s) hpl (X := cls) (Y := sup) (Bundle.fit_spec hcls).1 (Bundle.fit_spec hsup).2 x0 x1 x2 x5 (fun x hx => h x (by simp [at13, hx]))
  obtain ⟨P2, Ps, hlen, L2, hL, hP2m, hlink2, hlink⟩ := Bundle.chainS (args := args) hpl hnZ names sup hsup hnames (fun x hx => h x (by simp [at13, hx]))
  have hlink1 : P1.sup = P2.m := Option.some.inj (hs1.symm.trans hP2m)
  have hfound : s.vm.findClass cls = some P1.m.cls := findClass_of_methodNamed hP1m
  cases Option.some.inj (hfoundX.symm.trans hfound)
  obtain ⟨c1, kX', hc1, hk, hord, -, -, hn6⟩ := Cond.instantiable_spec (a' (.instantiable cls 6) (by simp [at13]))
  cases Option.some.inj (hc1.symm.trans hfound)
  cases Option.some.inj (hkX.symm.trans hk)
  have hsel0 : selectMethod e.platform s.vm P1.m.cls T.fill0 = .method T.fill0 := by
    obtain ⟨c2, r2, m2, q1, q2, q3, q4, -⟩ := Cond.selects_spec (a' (.selects cls Bundle.tFill0 Bundle.tFill0) (by simp [at13]))
    cases Option.some.inj (q1.symm.trans hfound)
    cases Option.some.inj (q2.symm.trans (State.methodFound?_of_named Y.fill0 (by decide)))
    cases Option.some.inj (q3.symm.trans Y.fill0)
    rw [Launch.admits_selectMethod X.admits]; exact q4
  have hselF : selectMethod e.platform s.vm P1.m.cls T.fill = .method T.fill := by
    obtain ⟨c2, r2, m2, q1, q2, q3, q4, -⟩ := Cond.selects_spec (a' (.selects cls Bundle.tFill Bundle.tFill) (by simp [at13]))
    cases Option.some.inj (q1.symm.trans hfound)
    cases Option.some.inj (q2.symm.trans (State.methodFound?_of_named Y.fill (by decide)))
    cases Option.some.inj (q3.symm.trans Y.fill)
    rw [Launch.admits_selectMethod X.admits]; exact q4
  obtain ⟨cellS0, hcS0, hiss⟩ := Y.statics
  obtain ⟨u0, hu0⟩ := Cond.staticRefV Y.unassigned L.unassignedStatic L.statics hcS0 hiss (a' (.isRef (.static Bundle.tN "UNASSIGNED_STACK" Bundle.steD)) (by simp [at13]))
  obtain ⟨sen, hsen⟩ := Cond.staticRefV Y.sentinel L.sentinelStatic L.statics hcS0 hiss (a' (.isRef (.static Bundle.tN "SUPPRESSED_SENTINEL" Bundle.listD)) (by simp [at13]))
  obtain ⟨ci198, i198, fB, hk198, hg198, ha198, hsB, -, hnB, htB, hffB⟩ := Cond.ownField (t := .object "java/lang/Object") Y.found L.cls (by decide +kernel) (a' (.fieldLink Bundle.tN 198 Bundle.tN "backtrace" "Ljava/lang/Object;") (by simp [at13])) (a' (.lays Bundle.tN Bundle.tN "backtrace" "Ljava/lang/Object;") (by simp [at13])) e.platform hpl
  obtain ⟨cellS, hcS', heS, -, hkeep⟩ := X.same.2.2.2.2.2 T.aS cellS0 hcS0
  have hcellS : W.heap[T.aS]? = some cellS := hcS'
  have hout' : ∀ i, (⟨T.aS, i⟩ : Loc) ∉ locs := fun i hmem => by
    have := hlocs _ hmem cellS0 hcS0
    rw [hiss] at this; cases this
  have hknownS : cellS.vm ≠ .unknown := by
    rw [heS]; intro hu
    rw [show cellS0.vm = .unknown from hu] at hiss
    cases hiss
  have hneS : T.aS ≠ a := Nat.ne_of_lt (Nat.lt_of_lt_of_le (Array.getElem?_eq_some_iff.mp hcS0).1 hnew)
  obtain ⟨iM, hffM⟩ := Y.msg
  obtain ⟨tyC, dC, hdC, hdnC⟩ := Cond.laysAt hfound hk Y.cause (a' (.lays cls Bundle.tN "cause" "Ljava/lang/Throwable;") (by simp [at13]))
  obtain ⟨tyS, dS, hdS, hdnS⟩ := Cond.laysAt hfound hk Y.stack (a' (.lays cls Bundle.tN "stackTrace" Bundle.steD) (by simp [at13]))
  obtain ⟨tyP, dP, hdP, hdnP⟩ := Cond.laysAt hfound hk Y.supp (a' (.lays cls Bundle.tN "suppressedExceptions" Bundle.listD) (by simp [at13]))
  obtain ⟨tyM, dM, hdM, hdnM⟩ := Cond.laysAt hfound hk hffM (a' (.lays cls Bundle.tN "detailMessage" "Ljava/lang/String;") (by simp [at13]))
  obtain ⟨tyB, dB, hdB, hdnB⟩ := Cond.laysAt hfound hk hffB (a' (.lays cls Bundle.tN "backtrace" "Ljava/lang/Object;") (by simp [at13]))
  have bC := Cond.laysApart hdB hdC hdnB hdnC (by rw [hnB, Y.causeName]; decide)
  have bS := Cond.laysApart hdB hdS hdnB hdnS (by rw [hnB, Y.stackName]; decide)
  have bP := Cond.laysApart hdB hdP hdnB hdnP (by rw [hnB, Y.suppName]; decide)
  have hskip : SkipFacts T e.platform s (fun u => u) u0 ((preparedCellV T.toThrowableT (freshCell P1.m.cls kX) a u0 sen).withEntry W.cur) :=
    ⟨{ ci198 := ci198, i198 := i198, fBack := fB }, ⟨hk198, hg198, ha198, hsB⟩, by
      have := fresh_default (c := P1.m.cls) tyB
      rw [htB] at this
      simpa [preparedCellV, Cell.setSlot, Cell.withEntry, Array.getElem?_setIfInBounds, bC, bS, bP, bC.symm, bS.symm, bP.symm, defaultValue] using this, fun _ _ => rfl⟩
  obtain ⟨tm, methC, cdC, kC, vm₁, hnC, -, -, -, -, -, -, -, hW₁, st1⟩ := Steps.initColdS (tb := p.tables) (e := e) (below := below) (s := s) (U := W) X.here hexec X.warmed hpl hown (t := Bundle.initS cls) rfl rfl (Bundle.fit_spec hcls).2
    (a' (.methodLink own ic (Bundle.initS cls)) (by simp [at13])) (h (.instanceMethod (Bundle.initS cls)) (by simp [at13, Bundle.passSAtoms])) (bytes := rx) (maxL := 2) (h (.code (Bundle.initS cls) rx 2 none) (by simp [at13, Bundle.passSAtoms]))
    (f := g) hg (a := a) (msg := msg) (rest := .ref a :: rest) hstack hd6
  cases Option.some.inj (hnC.symm.trans hP1m)
  have X₁ := X.noted hW₁
  obtain ⟨vm₂, X₂, st2⟩ := X₁.ctorMessageOffV hexec (g := { g with stack := .ref a :: rest }) hg hsize T L Z LZ M LM (P1 :: P2 :: Ps)
    (fun P hP => by rcases List.mem_cons.mp hP with rfl | hP; exact L1; rcases List.mem_cons.mp hP with rfl | hP; exact L2; exact hL P hP) ⟨hlink1, hlink2, hlink⟩ (u0 := u0) (sen := sen) (self := a) hmsg (cell := freshCell P1.m.cls kX) (cellS := cellS)
    hcell (fun _ => by simp) (by simp) rfl rfl hsel0 hselF hcellS hneS hknownS (by rw [hkeep _ (hout' _)]; exact hu0) (by rw [hkeep _ (hout' _)]; exact hsen)
    (Takes.of_laid hk hord tyC (by rw [Y.causeType]; rfl)) (Takes.of_laid hk hord tyS (by rw [Y.stackType]; exact fits_refV_array _ u0)) (Takes.of_laid hk hord tyP (by rw [Y.suppType]; exact fits_refV_object _ sen))
    (Takes.of_laid hk hord tyM (by rw [Y.msgType]; exact fits_refV_object _ ⟨msg, hmsg⟩)) Y.objLocals hskip htr [] hd6
    (by simp only [List.length_cons, hlen]; omega) (by simp only [List.length_cons, hlen]; exact hRlocals)
  obtain ⟨hwalk, hrun, hended, hWU, hsame⟩ := X₂.athrowLeaves hexec (g := { g with stack := .ref a :: rest, pc := g.pc + 3 }) hg hlocked hentered hout (a := a) (rest := rest) rfl hd9
  have hlt : a < ((W.setVm vm₁).setVm vm₂).heap.size := (Array.getElem?_eq_some_iff.mp hcell).1
  have hU := heapAt_setCell_self (s := (W.setVm vm₁).setVm vm₂) (plainBareV T.toThrowableT (freshCell P1.m.cls kX) a u0 sen msg) hlt
  refine ⟨_, st1 _ (fun acts => ?_), hrun, hended, hWU, hsame.weaken (fun y hy hlt' => ?_) (Nat.le_refl _) (Nat.le_refl _), _, hU, rfl, rfl⟩
  · rw [doInvoke_state]
    exact st2 _ hwalk
  · rcases List.mem_append.mp hy with h1 | h1
    · exact h1
    · exfalso
      have hb : y.base = a := by
        simp only [List.mem_cons, List.not_mem_nil, or_false] at h1
        rcases h1 with rfl | rfl | rfl | rfl | rfl <;> rfl
      rw [hb] at hlt'
      exact Nat.not_lt.mpr hnew hlt'
end
end
section
def vat13 (own : String) (ic : Nat) (cls sup : String) (ix : Nat) (rx : ByteArray) (names : List String) : List Cond := (at13 own ic cls sup ix rx names).filter vx_no
section
variable {p : Program} {l : Launch} {e : Env} {R : Room} {s : State} {m : MethodId} {args : Array Value} {below : List Frame} {meth : Method} {c : Code} {H : Heap} {locs : List Loc} {cells slots : Nat} {free : Addr → Prop} {ls : Array Slot} {rest : List Value} {Qc : Array Value → State → Outcome → State → Prop} {XC : String → State → State → Prop}
theorem w_throw13 {cc : ByteArray} {pc : Nat} (hexec : p.tables.exec = Jvm.exec) (hb : c.code = cc) (hl : l.stackTraces = false) {own cls sup text : String} {ix : Nat} {rx : ByteArray} {names : List String} {ik is ic mc ms sa : Nat} {A : Nat → Prop}
    (x0 : decode rx 0 = .ok (.aload_n 0, 1)) (x1 : decode rx 1 = .ok (.aload_n 1, 1)) (x2 : decode rx 2 = .ok (.invokespecial ix, 3)) (x5 : decode rx 5 = .ok (.return_, 1))
    (hown : s.vm.findClass own = some m.cls) (hcls : Bundle.fit cls = true) (hsup : Bundle.fit sup = true) (hnames : ∀ n ∈ names, Bundle.fit n = true)
    (hk : (Cond.classLink own ik cls).before args s = true) (hini : (Cond.initialized cls).before args s = true) (hstr : vk_R own is text sa s) (hat : ∀ w ∈ vat13 own ic cls sup ix rx names, w.before args s = true)
    (hgood : ∀ w ∈ Cond.classLink own ik cls :: Cond.initialized cls :: vat13 own ic cls sup ix rx names, vx_ot w = true)
    (hU : vx_Zq Bundle.tN "UNASSIGNED_STACK" Bundle.steD A s s.heap) (hN : vx_Zq Bundle.tN "SUPPRESSED_SENTINEL" Bundle.listD A s s.heap) (hS : va_S A s.heap H locs) (hsize : ls.size = c.maxLocals)
    (d0 : decode cc pc = .ok (.new ik, 3)) (d3 : decode cc (pc + 3) = .ok (.dup, 1)) (d4 : decode cc (pc + 4) = .ok (.ldc is, 2)) (d6 : decode cc (pc + 6) = .ok (.invokespecial ic, 3)) (d9 : decode cc (pc + 9) = .ok (.athrow, 1))
    (hout : ∀ x ∈ c.exceptionTable.toList, covers x (pc + 9) = false)
    (hRframes : names.length + 4 < R.frames) (hRlocals : (rest.map fun v => v.category).sum + (13 * (names.length + 2) + 43) ≤ R.locals) (hRcells : cells + 1 ≤ R.cells) (hRslots : slots + 6 ≤ R.slots) (hlocks : meth.locks = false)
    (hx : ∀ t : State, s.vm.Alike t.vm → H.size ≤ t.heap.size → (∀ q : Nat, q < H.size → t.heap[q]? = H[q]?) → XC cls s t)
    (hf : ∀ z ∈ locs, free z.base) (hc : cells + 1 ≤ mc) (hs : slots + 6 ≤ ms) :
    W p l e R s m args below meth c H locs cells slots (vx_MQ below Qc XC args s mc ms free) (F0 m pc ls rest) := by
  intro T hT X
  have htr : e.platform.stackTraces = false := (show e.platform.stackTraces = l.stackTraces by rw [X.admits.platform]).trans hl
  have Y := vx_rebase X (R' := { frames := R.frames, locals := R.locals, cells := 1, slots := 6 }) (Nat.le_refl _) (Nat.le_refl _) hRcells hRslots
  obtain ⟨s', hA⟩ : ∃ z, z = (T.setVm s.vm).setFrames (.invoking m args :: below) := ⟨_, rfl⟩
  rw [← hA] at Y
  have hvm : s'.vm = s.vm := by rw [hA]; rfl
  have hhp : s'.heap = H := by rw [hA]; exact hT
  have hW0 : s.WarmedH s'.vm := by rw [hvm]; exact State.WarmedH.refl s
  have hat' : ∀ w ∈ vat13 own ic cls sup ix rx names, w.before args s' = true := fun w hw => vx_ot_at hW0 hvm.symm (hgood w (List.mem_cons_of_mem _ (List.mem_cons_of_mem _ hw))) (hat w hw)
  have hk' : (Cond.classLink own ik cls).before args s' = true := vx_ot_at hW0 hvm.symm (hgood _ List.mem_cons_self) hk
  have hini' : (Cond.initialized cls).before args s' = true := vx_ot_at hW0 hvm.symm (hgood _ (List.mem_cons_of_mem _ List.mem_cons_self)) hini
  have hU' : vx_Zq Bundle.tN "UNASSIGNED_STACK" Bundle.steD A s' s'.heap := by rw [hhp]; exact vx_Zq.moved hW0.alike (hU.kept hS.2.1)
  have hN' : vx_Zq Bundle.tN "SUPPRESSED_SENTINEL" Bundle.listD A s' s'.heap := by rw [hhp]; exact vx_Zq.moved hW0.alike (hN.kept hS.2.1)
  have h : ∀ w ∈ at13 own ic cls sup ix rx names, w.before args s' = true := vx_own hat' (vx_isRefq hU'.1) (vx_isRefq hN'.1) hU'.2.word hN'.2.word
  have hown' : s'.vm.findClass own = some m.cls := by rw [hvm]; exact hown
  have hins : (Cond.instantiable cls 6).before args s' = true := h _ (by simp [at13])
  obtain ⟨vm₁, cX, kX, hfX, hkX, -, -, X₁, st1⟩ := Y.newCold hexec (own := own) (C := cls) (index := ik) (n := 6) hown' hk' hins hini'
    (g := F0 m pc ls rest) rfl (by rw [hb]; exact d0) (Nat.le_refl _) (Nat.le_refl _)
  generalize hT1 : (T.setVm vm₁).pushCell { cls := cX, slots := kX.instanceTypes.map defaultValue, vm := .none } = T1 at X₁ st1
  have hcat : (Value.ref T.heap.size).category = 1 := rfl
  have hcellA : T1.heap[T.heap.size]? = some (freshCell cX kX) := by rw [← hT1]; exact State.heap_pushCell_size _ _
  have d3' : decode c.code (pc + 3) = .ok (.dup, 1) := by rw [hb]; exact d3
  have d4' : decode c.code (pc + 4) = .ok (.ldc is, 2) := by rw [hb]; exact d4
  have hstr' : vk_R own is text sa s' := vk_R.warm hW0 hstr
  obtain ⟨U, hsteps, hrun, hend, hW, hsame, ce, hce, hcv, hcc⟩ := x_ctor13 X₁ hexec htr (own := own) (cls := cls) (sup := sup) (names := names) (ic := ic) x0 x1 x2 x5 hown' hcls hsup hnames h (fun x hx => nomatch hx) hfX hkX hcellA (by rw [hhp, hT]; exact Nat.le_refl _) (msg := .ref sa) rfl
    (g := { method := m, pc := pc + 6, locals := ls, stack := .ref sa :: .ref T.heap.size :: .ref T.heap.size :: rest, locked := none }) rfl hsize rfl rfl (rest := rest) rfl
    (by rw [hb]; exact d6) (by rw [hb]; exact d9) hout hRframes (by simp only [List.map_cons, List.sum_cons, hcat]; omega) hlocks
  obtain ⟨f1, f2⟩ := vx_frame hsame
  rw [hhp] at f1 f2
  have hWs : s.WarmedH U.vm := State.WarmedH.trans hW0 hW
  have hcl : s.vm.findClass cls = some ce.cls := by
    rw [hcc, ← hvm]; exact hfX
  have hall : s.sameButNew ({ U with vm := s.vm } : State) locs mc ms := by
    subst hA
    obtain ⟨e1, e2⟩ := hsame
    rw [State.setFrames_setFrames] at e1
    have h2 : (T.setVm s.vm).sameButNew ({ U with vm := s.vm } : State) [] (0 + 1) (0 + 6) := ⟨e1, e2⟩
    have h3 := X.same.trans h2
    rw [List.append_nil] at h3
    exact h3.mono hc hs
  refine ⟨U, ?_, .threw T.heap.size, hrun, hend, Or.inr ⟨T.heap.size, rfl, cls, ce, locs, hx U hWs.alike f1 (fun q hq => f2 q hq (fun z hz => nomatch hz)), hce, hcv, hcl, hWs, hall, hf⟩⟩
  refine st1 _ ?_
  show Steps p.tables e below (T1.setTop { method := m, pc := pc + 3, locals := ls, stack := .ref T.heap.size :: rest, locked := none }) _
  jvm_step X₁.here [X₁.here.top, hexec, d3', Value.category]
  exact X₁.ldcString hexec (own := own) (text := text) (index := is) (a := sa) hown' hstr'.1 hstr'.2
    (g := { method := m, pc := pc + 4, locals := ls, stack := .ref T.heap.size :: .ref T.heap.size :: rest, locked := none }) rfl d4' _ hsteps
end
section
variable {G : xG} {X : xX} {nL : Nat} {rm : Room} {cc : ByteArray} {ρ : Nm → Nat} {σ : PH} {k n pc : Nat} {L : List (Nat × Value)} {st : List Value} {P : Option Value → PH → (Nm → Nat) → Prop} {Xp : String → PH → Prop}
theorem xhat_xNE : ∀ w ∈ vat13 "PlantServer" 202 xNE "java/lang/RuntimeException" 13 prog_19_method_4_code ["java/lang/Exception"], w ∈ lw_tbl ∧ (goodWord w || isCD w) = true := by decide +kernel
theorem xgood_xNE : ∀ w ∈ Cond.classLink "PlantServer" 198 xNE :: Cond.initialized xNE :: vat13 "PlantServer" 202 xNE "java/lang/RuntimeException" 13 prog_19_method_4_code ["java/lang/Exception"], vx_ot w = true := by decide +kernel
theorem x_throwN (hC : xC G X "PlantServer" cc nL rm) (h0 : xR0 X ρ) (htab : xTab X []) {text : String} {is : Nat} (hq : ("PlantServer", is, text) ∈ xStrs) (w1 : Cond.classLink "PlantServer" 198 xNE ∈ T0) (w2 : Cond.initialized xNE ∈ T0)
    (d0 : decode cc pc = .ok (.new 198, 3)) (d3 : decode cc (pc + 3) = .ok (.dup, 1)) (d4 : decode cc (pc + 4) = .ok (.ldc is, 2)) (d6 : decode cc (pc + 6) = .ok (.invokespecial 202, 3)) (d9 : decode cc (pc + 9) = .ok (.athrow, 1)) (hF : 5 < rm.frames) (hL9 : (st.map fun v => v.category).sum + 82 ≤ rm.locals) (h1 : k + 1 ≤ rm.cells) (h2 : n + 6 ≤ rm.slots) (hp : Xp xNE σ) : xJ G X (xT X P Xp G rm) nL ρ σ k n pc L st := by
  obtain ⟨p, l, e, R, s, m, args, below, meth, c, σ0, ρ0⟩ := X
  obtain ⟨hx, hb, hml, hown, hts, hE, hlk, hst9, hRR⟩ := hC
  subst hRR
  intro H locs ls hH hlo
  cases (show ρ0 = ρ from h0)
  have htab : c.exceptionTable.toList = [] := htab
  obtain ⟨sa, hsa⟩ := hE.2.2.2.1 _ hq
  refine w_throw13 (A := xA G) hx hb hst9 (ik := 198) (is := is) (ic := 202) (cls := xNE) (sup := "java/lang/RuntimeException") (ix := 13) (rx := prog_19_method_4_code) (text := text) (names := ["java/lang/Exception"]) (by decide +kernel) (by decide +kernel) (by decide +kernel) (by decide +kernel) hown (by decide +kernel) (by decide +kernel) (by decide +kernel) (hts _ w1) (hts _ w2) hsa (fun w hw => ?_) xgood_xNE hE.2.1 hE.2.2.1 hH.2.1 (by rw [hml]; exact hlo.1) d0 d3 d4 d6 d9 (by rw [htab]; intro x hx; cases hx) hF hL9 h1 h2 hlk (fun t hal hz hk => ⟨⟨σ, hp, ⟨fun n hn => ?_, hH.1.2.1, hH.1.2.2⟩, hH.2.2⟩, ⟨Nat.le_trans hH.2.1.1 hz, fun q q1 q2 => (hk q (Nat.lt_of_lt_of_le q1 hH.2.1.1)).trans (hH.2.1.2.1 q q1 q2)⟩⟩) hH.2.1.2.2 h1 h2
  · obtain ⟨a1, a2⟩ := xhat_xNE w hw
    rw [Bool.or_eq_true] at a2
    rcases a2 with a2 | a2
    · exact hts w (t0_of a1 a2)
    · exact va_Nw.use (by cases w <;> simp [isCD] at a2 <;> rfl) (hE.2.2.2.2.1 w (List.mem_filter.mpr ⟨a1, a2⟩))
  · obtain ⟨b1, b2⟩ := hH.1.1 n hn
    refine ⟨b1, b2.same rfl rfl (fun _ => rfl) (fun _ => rfl) (fun _ => rfl) rfl (hk _ ?_)⟩
    unfold xat at b2
    split at b2
    · obtain ⟨r, -, cell, r2, -⟩ := b2
      exact (Array.getElem?_eq_some_iff.mp r2).1
    · exact (Array.getElem?_eq_some_iff.mp b2).1
end
end
