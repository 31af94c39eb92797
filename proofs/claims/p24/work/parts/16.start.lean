/-! THE CLAIM OUT OF ONE WALK OF THE LAW'S BODY. Your part is whole_start (and what it stands on); all else here is the same for every law, but numbers. -/
def R_law : String := "PlantServerLaw"
def lw_P (b : Addr) (xs : List Int32) (args : Array Value) (s : State) : Prop := args = #[.ref b] ∧ s.IntsAt b xs ∧ xs.length ≤ 260 ∧ (Jvm.Cond.and given_1 narrow_1).before args s = true
def lw_Q (_ : Array Value) (s : State) (o : Outcome) (t : State) : Prop := o = .returned (some (.int 1)) ∧ Framed s o t [] 773686 6780712
def lw_Z (below : List Frame) (a : Array Value) (s : State) : State → Prop := fun t => ∃ o, t.status = .running ∧ Ended t below o ∧ lw_Q a s o t
/-- the law's own end, with 1 on the stack, nothing written that was there before, its room as the claim has it -/
theorem lw_ret {p : Program} {l : Launch} {e : Env} {s : State} {m : MethodId} {below : List Frame} {meth : Method} {c : Code} {b : Nat} (hx : p.tables.exec = Jvm.exec) (hb : c.code = code) (hr : meth.sig.returnType = ret) (hlocks : meth.locks = false) {pc : Nat} {H : Heap} {ls : Array Slot} (hdg : decode code pc = .ok (.ireturn, 1)) : W p l e room_1 s m #[Value.ref b] below meth c H [] 773686 6780712 (lw_Z below #[Value.ref b] s) (F0 m pc ls [.int 1]) := by
  intro T hT X
  obtain ⟨fs, hret, hrun, hended, hW, hframe⟩ := X.leave (v := some (.int 1)) (hlocks := hlocks) (fun h => by rw [hr] at h; cases h)
  have hmeth' : T.vm.method? m = some meth := X.method'
  refine ⟨T.setFrames fs, ?_, .returned (some (.int 1)), hrun, hended, rfl, ⟨_, rfl⟩, hW, hframe⟩
  jvm_step X.here [X.here.top, hx, hb, hdg, hmeth', hr, ret, narrow_b1]
  (try refine ⟨rfl, ?_⟩); (try refine ⟨rfl, ?_⟩)
  first | (intro acts; rw [hret _ acts rfl rfl rfl]) | rw [hret _ _ rfl rfl rfl]
  exact Steps.refl _
/-- what holds at the law's entry: the machine, the code, the tables' words (any of lw_tbl by 'hts w (by decide +kernel)'), the script of L ints xs at the cell b, what the Statement gives of the start (any of its parts by flat_of_before) -/
def lw_At (p : Program) (s : State) (m : MethodId) (meth : Method) (c : Code) (b L : Nat) (xs : Nat → Int32) : Prop :=
  p.tables.exec = Jvm.exec ∧ c.code = code ∧ meth.sig.returnType = ret ∧ c.maxLocals = 20 ∧ s.vm.findClass R_law = some m.cls ∧ (∀ w ∈ lw_tbl, w.before #[Value.ref b] s = true) ∧ va_X b L xs s s.heap ∧ b < s.heap.size ∧ meth.locks = false ∧ (Jvm.Cond.and given_1 narrow_1).before #[Value.ref b] s = true
theorem st_arrP {s : State} {args : Array Value} {ty : FieldType} (hty : ∀ C, ty ≠ .object C) (h : (Cond.arrayClass ty).before args s = true) : ∃ c : ClassId, ArrOfT s c ty ∧ va_RA s c ty := by
  obtain ⟨c, k, comp, h1, h2, h3⟩ := Cond.arrayClass_spec h
  refine ⟨c, fun N z => ⟨(fun k h => by cases h), k, h2, comp, h3⟩, ?_⟩
  cases ty <;> first | exact h1 | exact absurd rfl (hty _)
theorem st_arrO {s : State} {args : Array Value} {C : String} (h : (Cond.arrayOver (.object C)).before args s = true) : ∃ c : ClassId, ArrOfT s c (.object C) ∧ va_RA s c (.object C) := by
  obtain ⟨comp, c, k, h1, h2, h3, h4, h5⟩ := Cond.arrayOver_spec h
  exact ⟨c, fun N z => ⟨(fun k h => by cases h), k, h3, comp, h4⟩, k, comp, h3, h4, h1, h5⟩
theorem st_cls {s : State} {args : Array Value} (hts : ∀ w ∈ T0, w.before args s = true) : ∃ (dC : Nat → ClassId) (dI : Nat → Nat → Nat), ∀ (k : Nat) (q : vw_C), vwCl[k]? = some q → u_Kn s q.1 q.2.1 q.2.2 (dC k) (dI k) := by
  have key : ∀ k : Nat, ∃ (c : ClassId) (i : Nat → Nat), ∀ q : vw_C, vwCl[k]? = some q → u_Kn s q.1 q.2.1 q.2.2 c i := by
    intro k
    match k with
    | 0 => obtain ⟨c, i, h⟩ := u_known (C := RX0) (T := TX0) (N := 4) (n := 4) hts (xcl (ci := 0) rfl).1 (hts _ q29); exact ⟨c, i, fun q hq => by cases hq; exact h⟩
    | 1 => obtain ⟨c, i, h⟩ := u_known (C := RX1) (T := TX1) (N := 12) (n := 12) hts (xcl (ci := 1) rfl).1 (hts _ q307); exact ⟨c, i, fun q hq => by cases hq; exact h⟩
    | 2 => obtain ⟨c, i, h⟩ := u_known (C := RX2) (T := TX2) (N := 5) (n := 5) hts (xcl (ci := 2) rfl).1 (hts _ q559); exact ⟨c, i, fun q hq => by cases hq; exact h⟩
    | 3 => obtain ⟨c, i, h⟩ := u_known (C := RX3) (T := TX3) (N := 5) (n := 5) hts (xcl (ci := 3) rfl).1 (hts _ q309); exact ⟨c, i, fun q hq => by cases hq; exact h⟩
    | 4 => obtain ⟨c, i, h⟩ := u_known (C := RX4) (T := TX4) (N := 14) (n := 14) hts (xcl (ci := 4) rfl).1 (hts _ q184); exact ⟨c, i, fun q hq => by cases hq; exact h⟩
    | 5 => obtain ⟨c, i, h⟩ := u_known (C := RX5) (T := TX5) (N := 2) (n := 2) hts (xcl (ci := 5) rfl).1 (hts _ q193); exact ⟨c, i, fun q hq => by cases hq; exact h⟩
    | 6 => obtain ⟨c, i, h⟩ := u_known (C := RX6) (T := TX6) (N := 9) (n := 9) hts (xcl (ci := 6) rfl).1 (hts _ q17); exact ⟨c, i, fun q hq => by cases hq; exact h⟩
    | k + 7 => obtain ⟨c, i, h⟩ := u_known (C := RX0) (T := TX0) (N := 4) (n := 4) hts (xcl (ci := 0) rfl).1 (hts _ q29); exact ⟨c, i, fun q hq => by simp at hq⟩
  exact ⟨fun k => (key k).choose, fun k => (key k).choose_spec.choose, fun k q h => (key k).choose_spec.choose_spec q h⟩
set_option maxRecDepth 100000 in
set_option maxHeartbeats 4000000 in
theorem st_env {s : State} {b : Nat} (hts : ∀ w ∈ lw_tbl, w.before #[Value.ref b] s = true) (hgv : (Jvm.Cond.and given_1 narrow_1).before #[Value.ref b] s = true) {L : Nat} {xs : Nat → Int32} (hX : va_X b L xs s s.heap) (hbl : b < s.heap.size) : ∃ G : xG, G.1 = s.heap.size ∧ gb G = b ∧ gL G = L ∧ gx G = xs ∧ xEnv G s := by
  have hs := flat_of_before _ hgv
  have ht0 : ∀ w ∈ T0, w.before #[Value.ref b] s = true := fun w hw => hts w (List.mem_filter.mp hw).1
  obtain ⟨dC, dI, hcl⟩ := st_cls ht0
  obtain ⟨c9, h9⟩ := st_arrP (ty := .int) (fun C h => by cases h) (hts (.arrayClass .int) (by decide +kernel))
  obtain ⟨c10, h10⟩ := st_arrP (ty := .boolean) (fun C h => by cases h) (hts (.arrayClass .boolean) (by decide +kernel))
  have o11 := hts (.arrayOver (.object "PlantServer$Item")) (by decide +kernel)
  have o12 := hts (.arrayOver (.object "PlantServer$Message")) (by decide +kernel)
  have o13 := hts (.arrayOver (.object "PlantServer$Subscription")) (by decide +kernel)
  obtain ⟨c11, h11⟩ := st_arrO o11
  obtain ⟨c12, h12⟩ := st_arrO o12
  obtain ⟨c13, h13⟩ := st_arrO o13
  refine ⟨(s.heap.size, dC, dI, fun k => if k = 9 then c9 else if k = 10 then c10 else if k = 11 then c11 else if k = 12 then c12 else c13, b, L, xs), rfl, rfl, rfl, rfl, ⟨hcl, ?_⟩, ?_, ?_, ?_, ?_, ?_, ?_, Nat.le_refl _, hX, hbl⟩
  · intro k q hq
    match k, hq with
    | 0, hq => cases hq; exact h9
    | 1, hq => cases hq; exact h10
    | 2, hq => cases hq; exact h11
    | 3, hq => cases hq; exact h12
    | 4, hq => cases hq; exact h13
    | k + 5, hq => simp [xtys] at hq
  · exact vx_Zqof (hts _ (by decide +kernel)) (ht0 _ q3) (hs _ (by decide +kernel)) (fun a ha => Nat.not_le.mpr ha)
  · exact vx_Zqof (hts _ (by decide +kernel)) (ht0 _ q3) (hs _ (by decide +kernel)) (fun a ha => Nat.not_le.mpr ha)
  · have e1 : ∀ q ∈ xStrs, Cond.stringRef q.1 q.2.1 q.2.2 ∈ lw_tbl := by decide +kernel
    have e2 : ∀ q ∈ xStrs, (Cond.exactly (.string q.1 q.2.1) "java/lang/String").before #[Value.ref b] s = true := by
      intro q hq
      simp only [xStrs, List.mem_cons, List.not_mem_nil, or_false] at hq
      rcases hq with rfl | rfl | rfl | rfl | rfl | rfl | rfl | rfl | rfl | rfl | rfl | rfl | rfl | rfl <;> exact hs _ (by decide +kernel)
    intro q hq
    obtain ⟨a, c, cell, k, h1, -⟩ := Cond.exactly_spec (e2 q hq)
    exact ⟨a, vk_R.of (hts _ (e1 q hq)) h1⟩
  · intro w hw
    obtain ⟨h1, h2⟩ := List.mem_filter.mp hw
    exact va_Nw.of (by cases w <;> first | rfl | simp [isCD] at h2) (hts w h1)
  · intro q hq
    simp only [xNcs, List.mem_cons, List.not_mem_nil, or_false] at hq
    rcases hq with rfl | rfl | rfl | rfl <;> exact va_Nc.of (hs _ (by decide +kernel))
  · intro C hC
    simp only [List.mem_cons, List.not_mem_nil, or_false] at hC
    rcases hC with rfl | rfl | rfl
    · exact va_AO.of o11
    · exact va_AO.of o12
    · exact va_AO.of o13
/-- the empty named heap -/
def sE : PH := (fun _ => 0, fun _ => 0, fun _ _ => 0, fun _ _ => none, fun _ _ => 0)
theorem xW_empty {G : xG} {ρ : Nm → Nat} {H : Heap} : xW G ρ sE H := ⟨fun n h => absurd rfl h, fun n m h => absurd rfl h, fun n j m h => by cases h⟩
theorem start_of {p : Program} {e : Env} {s : State} {m : MethodId} {below : List Frame} {meth : Method} {c : Code} (l : Launch) (hflags : l.flags = flags0) {b L : Nat} {xs : Nat → Int32} (C0 : lw_At p s m meth c b L xs) (Q : Int32 → PH → Prop) (hW : wL_law L xs sE Q) : W p l e room_1 s m #[Value.ref b] below meth c s.heap [] 0 0 (lw_Z below #[Value.ref b] s) (entryFrame m ([Value.ref b] : List Value).toArray 20) := by
  obtain ⟨hx, hb, hr, hml, hown, hts, hX, hbl, hlocks, hgv⟩ := id C0
  obtain ⟨G, hG, hgb, hgL, hgx, hE⟩ := st_env hts hgv hX hbl
  have hst : l.stackTraces = false := by unfold Launch.stackTraces; rw [hflags]; decide +kernel
  have hl := lv_entry ([.ref b]) (n := 20) (Nat.le_of_ble_eq_true rfl)
  rw [lg_entry_eq]
  generalize (lg_sl ([.ref b]) ++ List.replicate (20 - (lg_sl ([.ref b])).length) Slot.unset).toArray = ls at hl ⊢
  have hl : lv_has ls 20 [(0, .ref b)] := hl
  have hC : xC G (p, l, e, room_1, s, m, #[Value.ref b], below, meth, c, sE, fun _ => 0) "PlantServerLaw" cL_law 20 rmL_law := ⟨hx, hb, hml, hown, fun w hw => hts w (List.mem_filter.mp hw).1, hE, hlocks, hst, rfl⟩
  subst hgb; subst hgL; subst hgx
  have key := mL_law (Qz := lw_Z below #[Value.ref (gb G)] s) (ρ := fun _ => 0) (σ := sE) hC (show xRt _ (some .boolean) from hr) (fun ρ σ k n L hk hn => by
    intro H locs ls hH hl
    refine W.widen (k := 773686) (n := 6780712) hk hn ?_
    refine va_forget (fun q hq => by have h := hH.2.1.2.2 q hq; rw [← hG]; exact h) ?_
    exact lw_ret hx hb hr hlocks dL_law_285) Q hW
  exact key s.heap [] ls ⟨xW_empty, va_S.rf, xAg.rf⟩ hl
