/-! A named heap: objects and arrays have names; what they hold is told by functions of name and place. -/
abbrev Nm : Type := Nat × Nat × Nat
abbrev PH : Type := (Nm → Nat) × (Nm → Nat) × (Nm → Nat → Int32) × (Nm → Nat → Option Nm) × (Nm → Nat → Int64)
def hK (σ : PH) : Nm → Nat := σ.1
def hL (σ : PH) : Nm → Nat := σ.2.1
def hI (σ : PH) : Nm → Nat → Int32 := σ.2.2.1
def hR (σ : PH) : Nm → Nat → Option Nm := σ.2.2.2.1
def hJ (σ : PH) : Nm → Nat → Int64 := σ.2.2.2.2
def sI (σ : PH) (n : Nm) (j : Nat) (v : Int32) : PH := (σ.1, σ.2.1, fun a b => if a = n ∧ b = j then v else σ.2.2.1 a b, σ.2.2.2.1, σ.2.2.2.2)
def sR (σ : PH) (n : Nm) (j : Nat) (v : Option Nm) : PH := (σ.1, σ.2.1, σ.2.2.1, fun a b => if a = n ∧ b = j then v else σ.2.2.2.1 a b, σ.2.2.2.2)
def sJ (σ : PH) (n : Nm) (j : Nat) (v : Int64) : PH := (σ.1, σ.2.1, σ.2.2.1, σ.2.2.2.1, fun a b => if a = n ∧ b = j then v else σ.2.2.2.2 a b)
def sN (σ : PH) (n : Nm) (k len : Nat) : PH := (fun a => if a = n then k else σ.1 a, fun a => if a = n then len else σ.2.1 a, fun a b => if a = n then 0 else σ.2.2.1 a b, fun a b => if a = n then none else σ.2.2.2.1 a b, fun a b => if a = n then 0 else σ.2.2.2.2 a b)
theorem hK_sI (σ : PH) (n : Nm) (j : Nat) (v : Int32) : hK (sI σ n j v) = hK σ := rfl
theorem hL_sI (σ : PH) (n : Nm) (j : Nat) (v : Int32) : hL (sI σ n j v) = hL σ := rfl
theorem hR_sI (σ : PH) (n : Nm) (j : Nat) (v : Int32) : hR (sI σ n j v) = hR σ := rfl
theorem hJ_sI (σ : PH) (n : Nm) (j : Nat) (v : Int32) : hJ (sI σ n j v) = hJ σ := rfl
theorem hI_sI (σ : PH) (n : Nm) (j : Nat) (v : Int32) (a : Nm) (b : Nat) : hI (sI σ n j v) a b = if a = n ∧ b = j then v else hI σ a b := rfl
theorem hK_sR (σ : PH) (n : Nm) (j : Nat) (v : Option Nm) : hK (sR σ n j v) = hK σ := rfl
theorem hL_sR (σ : PH) (n : Nm) (j : Nat) (v : Option Nm) : hL (sR σ n j v) = hL σ := rfl
theorem hI_sR (σ : PH) (n : Nm) (j : Nat) (v : Option Nm) : hI (sR σ n j v) = hI σ := rfl
theorem hJ_sR (σ : PH) (n : Nm) (j : Nat) (v : Option Nm) : hJ (sR σ n j v) = hJ σ := rfl
theorem hR_sR (σ : PH) (n : Nm) (j : Nat) (v : Option Nm) (a : Nm) (b : Nat) : hR (sR σ n j v) a b = if a = n ∧ b = j then v else hR σ a b := rfl
theorem hK_sJ (σ : PH) (n : Nm) (j : Nat) (v : Int64) : hK (sJ σ n j v) = hK σ := rfl
theorem hL_sJ (σ : PH) (n : Nm) (j : Nat) (v : Int64) : hL (sJ σ n j v) = hL σ := rfl
theorem hI_sJ (σ : PH) (n : Nm) (j : Nat) (v : Int64) : hI (sJ σ n j v) = hI σ := rfl
theorem hR_sJ (σ : PH) (n : Nm) (j : Nat) (v : Int64) : hR (sJ σ n j v) = hR σ := rfl
theorem hJ_sJ (σ : PH) (n : Nm) (j : Nat) (v : Int64) (a : Nm) (b : Nat) : hJ (sJ σ n j v) a b = if a = n ∧ b = j then v else hJ σ a b := rfl
theorem hK_sN (σ : PH) (n : Nm) (k len : Nat) (a : Nm) : hK (sN σ n k len) a = if a = n then k else hK σ a := rfl
theorem hL_sN (σ : PH) (n : Nm) (k len : Nat) (a : Nm) : hL (sN σ n k len) a = if a = n then len else hL σ a := rfl
theorem hI_sN (σ : PH) (n : Nm) (k len : Nat) (a : Nm) (b : Nat) : hI (sN σ n k len) a b = if a = n then 0 else hI σ a b := rfl
theorem hR_sN (σ : PH) (n : Nm) (k len : Nat) (a : Nm) (b : Nat) : hR (sN σ n k len) a b = if a = n then none else hR σ a b := rfl
theorem hJ_sN (σ : PH) (n : Nm) (k len : Nat) (a : Nm) (b : Nat) : hJ (sN σ n k len) a b = if a = n then 0 else hJ σ a b := rfl
/-- kinds: 1 .. 8 the objects of the classes (vwCl, one more), 9 int[], 10 boolean[], 11 Item[], 12 Message[], 13 Subscription[], 14 long[]; 0: no such thing -/
abbrev vwCl : List vw_C := [(RX0, TX0, 4), (RX1, TX1, 12), (RX2, TX2, 5), (RX3, TX3, 5), (RX4, TX4, 14), (RX5, TX5, 2), (RX6, TX6, 9)]
def xRef : Nat → Nat → Bool
  | 1, j => decide (j < 3)
  | 2, j => j == 1 || j == 4 || j == 5
  | 3, j => decide (j < 3)
  | 4, j => j == 2 || j == 3
  | 5, j => j == 0 || j == 5 || j == 6
  | 6, _ => false
  | 7, j => decide (j < 5)
  | 8, j => !(j == 0 || j == 1 || j == 3 || j == 15 || j == 35)
  | _, _ => false
def xTy : Nat → FieldType
  | 9 => .int
  | 10 => .boolean
  | 11 => .object "PlantServer$Item"
  | 12 => .object "PlantServer$Message"
  | 13 => .object "PlantServer$Subscription"
  | _ => .long
/-- where things lie, and what the classes' numbers are: the first address that is ours; class numbers and slots; the arrays' class numbers -/
abbrev xG : Type := Nat × (Nat → ClassId) × (Nat → Nat → Nat) × (Nat → ClassId) × (Nat × Nat × (Nat → Int32))
/-- the law's script: its cell, its length, its ints -/
def gb (G : xG) : Nat := G.2.2.2.2.1
def gL (G : xG) : Nat := G.2.2.2.2.2.1
def gx (G : xG) : Nat → Int32 := G.2.2.2.2.2.2
abbrev xA (G : xG) : Nat → Prop := fun q => G.1 ≤ q
def xtys (G : xG) : List (ClassId × FieldType) := [(G.2.2.2.1 9, .int), (G.2.2.2.1 10, .boolean), (G.2.2.2.1 11, .object "PlantServer$Item"), (G.2.2.2.1 12, .object "PlantServer$Message"), (G.2.2.2.1 13, .object "PlantServer$Subscription")]
def rv (ρ : Nm → Nat) (o : Option Nm) : Value := va_rf (o.map ρ)
theorem rv_none (ρ : Nm → Nat) : rv ρ none = .null := rfl
theorem rv_some (ρ : Nm → Nat) (n : Nm) : rv ρ (some n) = .ref (ρ n) := rfl
def xV (ρ : Nm → Nat) (σ : PH) (n : Nm) : Nat → Value := fun j => if xRef (hK σ n) j = true then rv ρ (hR σ n j) else .int (hI σ n j)
def xcont (ρ : Nm → Nat) (σ : PH) (n : Nm) : vp_A := (hL σ n, if hK σ n ≤ 10 then .inl (hI σ n) else if hK σ n ≤ 13 then .inr (.inr (.inr (.inr (fun j => (hR σ n j).map ρ)))) else .inr (.inl (hJ σ n)))
def xat (G : xG) (ρ : Nm → Nat) (σ : PH) (n : Nm) (H : Heap) : Prop :=
  if hK σ n ≤ 8 then ∃ r : vw_C, vwCl[hK σ n - 1]? = some r ∧ t_OB (ρ n) (G.2.1 (hK σ n - 1)) r.2.2 (G.2.2.1 (hK σ n - 1)) H (xV ρ σ n)
  else H[ρ n]? = some (vp_cell (G.2.2.2.1 (hK σ n)) (xcont ρ σ n))
/-- the heap holds the named heap: each named thing lies at its address, of ours; the addresses are apart; no reference to what isn't there -/
def xW (G : xG) (ρ : Nm → Nat) (σ : PH) (H : Heap) : Prop :=
  (∀ n, hK σ n ≠ 0 → G.1 ≤ ρ n ∧ xat G ρ σ n H) ∧ (∀ n m, hK σ n ≠ 0 → hK σ m ≠ 0 → ρ n = ρ m → n = m) ∧ ∀ n j m, hR σ n j = some m → hK σ m ≠ 0
/-- what stays of an older named heap: its things and their addresses -/
def xAg (σ0 : PH) (ρ0 : Nm → Nat) (σ : PH) (ρ : Nm → Nat) : Prop := ∀ n, hK σ0 n ≠ 0 → hK σ n = hK σ0 n ∧ ρ n = ρ0 n
theorem xAg.rf {σ : PH} {ρ : Nm → Nat} : xAg σ ρ σ ρ := fun _ _ => ⟨rfl, rfl⟩
theorem xAg.tr {σ0 σ1 σ2 : PH} {ρ0 ρ1 ρ2 : Nm → Nat} (h : xAg σ0 ρ0 σ1 ρ1) (g : xAg σ1 ρ1 σ2 ρ2) : xAg σ0 ρ0 σ2 ρ2 := fun n hn => by
  have h1 := h n hn
  have h2 := g n (by rw [h1.1]; exact hn)
  exact ⟨h2.1.trans h1.1, h2.2.trans h1.2⟩
theorem xAg.same {σ0 σ1 σ2 : PH} {ρ0 ρ1 : Nm → Nat} (h : xAg σ0 ρ0 σ1 ρ1) (e : hK σ2 = hK σ1) : xAg σ0 ρ0 σ2 ρ1 := fun n hn => by rw [e]; exact h n hn
/-- strings, classes and the like: what a method must know of the tables, and that stays -/
def xStrs : List (String × Nat × String) := [("PlantServer", 187, "there is no such node"), ("PlantServer", 183, "an argument is out of its range"), ("PlantServer", 61, "there were 4 subscriptions"), ("PlantServer", 190, "there is no such subscription"), ("PlantServer", 192, "the subscription is not open"), ("PlantServer", 82, "there were 16 items"), ("PlantServer", 194, "there is no such item"), ("PlantServer", 196, "the item is not there"), ("PlantServer", 111, "an item does not trigger itself"), ("PlantServer", 118, "the items are of unlike subscriptions"), ("PlantServer", 127, "10 requests wait"), ("PlantServer", 129, "there would be more than 5000 ticks"), ("PlantServer", 200, "the message is not kept"), ("PlantServer", 203, "the message has no such place")]
def xIO : String := "java/lang/IndexOutOfBoundsException"
def xIA : String := "java/lang/IllegalArgumentException"
def xIS : String := "java/lang/IllegalStateException"
def xNE : String := "java/util/NoSuchElementException"
def xNcs : List (String × String) := [(xIA, xIO), (xIS, xIO), (xNE, xIO), (xIS, xIA)]
def isCD : Cond → Bool
  | .castable .. => true
  | .declares .. => true
  | .methodLinkNest .. => true
  | _ => false
def T1 : List Cond := lw_tbl.filter isCD
def xEnv (G : xG) (U : State) : Prop :=
  va_K (G.2.1, G.2.2.1) vwCl (xtys G) U ∧ vx_Zq Bundle.tN "UNASSIGNED_STACK" Bundle.steD (xA G) U U.heap ∧ vx_Zq Bundle.tN "SUPPRESSED_SENTINEL" Bundle.listD (xA G) U U.heap ∧
  (∀ q ∈ xStrs, ∃ a, vk_R q.1 q.2.1 q.2.2 a U) ∧ (∀ w ∈ T1, va_Nw w U) ∧ (∀ q ∈ xNcs, va_Nc q.1 q.2 U) ∧ (∀ C ∈ ["PlantServer$Item", "PlantServer$Message", "PlantServer$Subscription"], va_AO C U) ∧ G.1 ≤ U.heap.size ∧ va_X (gb G) (gL G) (gx G) U U.heap ∧ gb G < G.1
theorem xNw_warm {w : Cond} (hw : isCD w = true) {s U : State} (hW : s.WarmedH U.vm) (h : va_Nw w s) : va_Nw w U := by
  cases w with
  | castable a b => exact va_Nw.warmC hW h
  | declares x => exact va_Nw.warmD hW h
  | methodLinkNest a i x host => exact va_Nw.warmM hW h
  | _ => simp [isCD] at hw
theorem xEnv.moved {G : xG} {s U : State} (hW : s.WarmedH U.vm) (hz : s.heap.size ≤ U.heap.size) (hq : ∀ q : Nat, q < s.heap.size → ¬ xA G q → U.heap[q]? = s.heap[q]?) (h : xEnv G s) : xEnv G U := by
  obtain ⟨h1, h2, h3, h4, h5, h6, h7, h8, h9, h10⟩ := h
  refine ⟨va_K.moved hW.alike h1, vx_Zq.moved hW.alike (vx_Zq.kept h2 hq), vx_Zq.moved hW.alike (vx_Zq.kept h3 hq), fun q hq => ?_, fun w hw => ?_, fun q hq => va_Nc.moved hW.alike (h6 q hq), fun C hC => va_AO.moved hW.alike (h7 C hC), Nat.le_trans h8 hz, va_X.moved hW.alike (va_X.kept h9 (hq _ (Nat.lt_of_lt_of_le h10 h8) (Nat.not_le.mpr h10))), h10⟩
  · obtain ⟨a, ha⟩ := h4 q hq
    exact ⟨a, vk_R.warm hW ha⟩
  · exact xNw_warm (List.mem_filter.mp hw).2 hW (h5 w hw)
/-- a method's start: the world and what is known of the tables -/
def xPre (G : xG) (ρ : Nm → Nat) (σ : PH) (U : State) : Prop := xW G ρ σ U.heap ∧ xEnv G U
theorem x_blind {G : xG} {ρ : Nm → Nat} {σ : PH} {as : List Value} : FrameBlind (va_Pc as (xPre G ρ σ)) := by
  intro a U g mk h
  obtain ⟨h1, h2, h3⟩ := h
  refine ⟨h1, h2, ?_⟩
  exact xEnv.moved (s := U) (U := U.calling g mk a) (State.WarmedH.refl U) (Nat.le_refl _) (fun _ _ _ => rfl) h3
/-- a method's end -/
def xQ (G : xG) (ρ : Nm → Nat) (σ : PH) (P : Option Value → PH → (Nm → Nat) → Prop) : Array Value → State → Outcome → State → Prop := fun _ st oc t =>
  (∃ (v : Option Value) (σ' : PH) (ρ' : Nm → Nat), oc = .returned v ∧ P v σ' ρ' ∧ xW G ρ' σ' t.heap ∧ xAg σ ρ σ' ρ') ∧ va_F (xA G) st t
def xXC (G : xG) (ρ : Nm → Nat) (σ : PH) (Xp : String → PH → Prop) : String → State → State → Prop := fun E st t =>
  (∃ σ' : PH, Xp E σ' ∧ xW G ρ σ' t.heap ∧ xAg σ ρ σ' ρ) ∧ va_F (xA G) st t
def xMet (l : Launch) (y : MethodName) (w0 : Cond) (rm : Room) (G : xG) (ρ : Nm → Nat) (σ : PH) (as : List Value) (P : Option Value → PH → (Nm → Nat) → Prop) (Xp : String → PH → Prop) : Prop :=
  vx_Met l y (w0 :: T0) rm (va_Pc as (xPre G ρ σ)) (xQ G ρ σ P) (xXC G ρ σ Xp) rm.cells rm.slots (xA G)
/-- the ends: an int, nothing, a reference; the last letter A: of a method that makes things -/
def eI (ρ : Nm → Nat) (Q : Int32 → PH → Prop) : Option Value → PH → (Nm → Nat) → Prop := fun v σ' ρ' => ρ' = ρ ∧ ∃ r, v = some (.int r) ∧ Q r σ'
def eV (ρ : Nm → Nat) (Q : PH → Prop) : Option Value → PH → (Nm → Nat) → Prop := fun v σ' ρ' => ρ' = ρ ∧ v = none ∧ Q σ'
def eR (ρ : Nm → Nat) (Q : Option Nm → PH → Prop) : Option Value → PH → (Nm → Nat) → Prop := fun v σ' ρ' => ρ' = ρ ∧ ∃ r, v = some (rv ρ' r) ∧ Q r σ'
def eIA (Q : Int32 → PH → Prop) : Option Value → PH → (Nm → Nat) → Prop := fun v σ' _ => ∃ r, v = some (.int r) ∧ Q r σ'
def eVA (Q : PH → Prop) : Option Value → PH → (Nm → Nat) → Prop := fun v σ' _ => v = none ∧ Q σ'
def eRA (Q : Option Nm → PH → Prop) : Option Value → PH → (Nm → Nat) → Prop := fun v σ' ρ' => ∃ r, v = some (rv ρ' r) ∧ Q r σ'
def xNo : String → PH → Prop := fun _ _ => False
/-- a method's frame: program, launch, .., and the named heap at its start -/
abbrev xX : Type := Program × Launch × Env × Room × State × MethodId × Array Value × List Frame × Method × Code × PH × (Nm → Nat)
def xC (G : xG) (X : xX) (own : String) (cc : ByteArray) (nL : Nat) (rm : Room) : Prop := match X with
  | (p, l, _, R, s, m, args, _, meth, c, _, _) => p.tables.exec = Jvm.exec ∧ c.code = cc ∧ c.maxLocals = nL ∧ s.vm.findClass own = some m.cls ∧ (∀ w ∈ T0, w.before args s = true) ∧ xEnv G s ∧ meth.locks = false ∧ l.stackTraces = false ∧ R = rm
def xH (G : xG) (X : xX) (ρ : Nm → Nat) (σ : PH) (H : Heap) (locs : List Loc) : Prop := match X with
  | (_, _, _, _, s, _, _, _, _, _, σ0, ρ0) => xW G ρ σ H ∧ va_S (xA G) s.heap H locs ∧ xAg σ0 ρ0 σ ρ
/-- from every heap that holds the named heap, and from every frame that holds these locals, the machine comes to Q -/
def xJ (G : xG) (X : xX) (Q : State → Prop) (nL : Nat) (ρ : Nm → Nat) (σ : PH) (k n pc : Nat) (L : List (Nat × Value)) (st : List Value) : Prop := match X with
  | (p, l, e, R, s, m, args, below, meth, c, σ0, ρ0) => ∀ (H : Heap) (locs : List Loc) (ls : Array Slot), xH G (p, l, e, R, s, m, args, below, meth, c, σ0, ρ0) ρ σ H locs → lv_has ls nL L → W p l e R s m args below meth c H locs k n Q (F0 m pc ls st)
/-- the same, with an exception of class E on its way -/
def xE (G : xG) (X : xX) (Q : State → Prop) (nL : Nat) (ρ : Nm → Nat) (σ : PH) (k n pc : Nat) (L : List (Nat × Value)) (E : String) : Prop := match X with
  | (p, l, e, R, s, m, args, below, meth, c, σ0, ρ0) => ∀ (H : Heap) (locs : List Loc) (ls : Array Slot) (rest : List Value) (q : Addr) (ce : Cell), xH G (p, l, e, R, s, m, args, below, meth, c, σ0, ρ0) ρ σ H locs → lv_has ls nL L → H[q]? = some ce → ce.vm = .none → s.vm.findClass E = some ce.cls → vx_W p l e R s m args below meth c H locs k n Q (F0 m pc ls rest) q
/-- what a body owes at its end -/
def xT (X : xX) (P : Option Value → PH → (Nm → Nat) → Prop) (Xp : String → PH → Prop) (G : xG) (rm : Room) : State → Prop := match X with
  | (_, _, _, _, s, _, args, below, _, _, σ0, ρ0) => vx_MQ below (xQ G ρ0 σ0 P) (xXC G ρ0 σ0 Xp) args s rm.cells rm.slots (xA G)
