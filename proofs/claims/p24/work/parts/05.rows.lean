section
variable {G : xG} {X : xX} {Q : State → Prop} {nL : Nat} {rm : Room} {own : String} {cc : ByteArray} {ρ : Nm → Nat} {σ : PH} {k n pc : Nat} {L : List (Nat × Value)} {st : List Value}
/-- a fact of a ref's bit -/
def zb (x : Int32) : Prop := x = 0 ∨ x = 1
theorem zb0 : zb 0 := Or.inl rfl
theorem zb1 : zb 1 := Or.inr rfl
theorem zb_n {x : Int32} (h : zb x) : narrow .boolean (.int x) = .int x := by
  rcases h with rfl | rfl <;> rfl
theorem zb_f {x : Int32} (h : zb x) : fits .boolean (.int x) = true := by
  rcases h with rfl | rfl <;> rfl
theorem xJ.heap {σ' : PH} (h : σ = σ') (kk : xJ G X Q nL ρ σ' k n pc L st) : xJ G X Q nL ρ σ k n pc L st := h ▸ kk
theorem xJ.loc {L' : List (Nat × Value)} (h : L = L') (kk : xJ G X Q nL ρ σ k n pc L' st) : xJ G X Q nL ρ σ k n pc L st := h ▸ kk
theorem xJ.stk {st' : List Value} (h : st = st') (kk : xJ G X Q nL ρ σ k n pc L st') : xJ G X Q nL ρ σ k n pc L st := h ▸ kk
theorem xJ.sub {L' : List (Nat × Value)} (ks : List Nat) (h : lv_pick L ks = L') (kk : xJ G X Q nL ρ σ k n pc L' st) : xJ G X Q nL ρ σ k n pc L st := by
  obtain ⟨p, l, e, R, s, m, args, below, meth, c, σ0, ρ0⟩ := X
  intro H locs ls hH hl
  exact kk H locs ls hH (lv_sub hl ks h)
theorem xJ.wid {k' n' : Nat} (h1 : k ≤ k') (h2 : n ≤ n') (kk : xJ G X Q nL ρ σ k' n' pc L st) : xJ G X Q nL ρ σ k n pc L st := by
  obtain ⟨p, l, e, R, s, m, args, below, meth, c, σ0, ρ0⟩ := X
  intro H locs ls hH hl
  exact W.widen h1 h2 (kk H locs ls hH hl)

theorem x_iconst (hC : xC G X own cc nL rm) {i : Int} {v : Int32} (d : decode cc pc = .ok (.iconst i, 1)) (hv : Int32.ofInt i = v) (kk : xJ G X Q nL ρ σ k n (pc + 1) L (.int v :: st)) : xJ G X Q nL ρ σ k n pc L (st) := by
  obtain ⟨p, l, e, R, s, m, args, below, meth, c, σ0, ρ0⟩ := X
  obtain ⟨hx, hb, -⟩ := hC
  intro H locs ls hH hl
  exact lv_iconst hx hb d hv (kk H locs ls hH hl)
theorem x_bipush (hC : xC G X own cc nL rm) {i : Int} {v : Int32} (d : decode cc pc = .ok (.bipush i, 2)) (hv : (Int8.ofInt i).toInt32 = v) (kk : xJ G X Q nL ρ σ k n (pc + 2) L (.int v :: st)) : xJ G X Q nL ρ σ k n pc L (st) := by
  obtain ⟨p, l, e, R, s, m, args, below, meth, c, σ0, ρ0⟩ := X
  obtain ⟨hx, hb, -⟩ := hC
  intro H locs ls hH hl
  exact lv_bipush hx hb d hv (kk H locs ls hH hl)
theorem x_sipush (hC : xC G X own cc nL rm) {i : Int} {v : Int32} (d : decode cc pc = .ok (.sipush i, 3)) (hv : (Int16.ofInt i).toInt32 = v) (kk : xJ G X Q nL ρ σ k n (pc + 3) L (.int v :: st)) : xJ G X Q nL ρ σ k n pc L (st) := by
  obtain ⟨p, l, e, R, s, m, args, below, meth, c, σ0, ρ0⟩ := X
  obtain ⟨hx, hb, -⟩ := hC
  intro H locs ls hH hl
  exact lv_sipush hx hb d hv (kk H locs ls hH hl)
theorem x_lconst (hC : xC G X own cc nL rm) {i : Fin 2} {v : Int64} (d : decode cc pc = .ok (.lconst i, 1)) (hv : Int64.ofNat (i : Nat) = v) (kk : xJ G X Q nL ρ σ k n (pc + 1) L (.long v :: st)) : xJ G X Q nL ρ σ k n pc L (st) := by
  obtain ⟨p, l, e, R, s, m, args, below, meth, c, σ0, ρ0⟩ := X
  obtain ⟨hx, hb, -⟩ := hC
  intro H locs ls hH hl
  exact lv_lconst hx hb d hv (kk H locs ls hH hl)
theorem x_null (hC : xC G X own cc nL rm) (d : decode cc pc = .ok (.aconst_null, 1)) (kk : xJ G X Q nL ρ σ k n (pc + 1) L (.null :: st)) : xJ G X Q nL ρ σ k n pc L (st) := by
  obtain ⟨p, l, e, R, s, m, args, below, meth, c, σ0, ρ0⟩ := X
  obtain ⟨hx, hb, -⟩ := hC
  intro H locs ls hH hl
  exact lv_null hx hb d (kk H locs ls hH hl)
theorem x_iload (hC : xC G X own cc nL rm) {i : Nat} {v : Int32} (q : Nat) (hL : L[q]? = some (i, .int v)) (d : decode cc pc = .ok (.iload i, 2)) (kk : xJ G X Q nL ρ σ k n (pc + 2) L (.int v :: st)) : xJ G X Q nL ρ σ k n pc L (st) := by
  obtain ⟨p, l, e, R, s, m, args, below, meth, c, σ0, ρ0⟩ := X
  obtain ⟨hx, hb, -⟩ := hC
  intro H locs ls hH hl
  exact lv_iload hx hb d (lv_at hl q hL) (kk H locs ls hH hl)
theorem x_iload_n (hC : xC G X own cc nL rm) {i : Fin 4} {v : Int32} (q : Nat) (hL : L[q]? = some ((i : Nat), .int v)) (d : decode cc pc = .ok (.iload_n i, 1)) (kk : xJ G X Q nL ρ σ k n (pc + 1) L (.int v :: st)) : xJ G X Q nL ρ σ k n pc L (st) := by
  obtain ⟨p, l, e, R, s, m, args, below, meth, c, σ0, ρ0⟩ := X
  obtain ⟨hx, hb, -⟩ := hC
  intro H locs ls hH hl
  exact lv_iload_n hx hb d rfl (lv_at hl q hL) (kk H locs ls hH hl)
theorem x_aload (hC : xC G X own cc nL rm) {i a : Nat} (q : Nat) (hL : L[q]? = some (i, .ref a)) (d : decode cc pc = .ok (.aload i, 2)) (kk : xJ G X Q nL ρ σ k n (pc + 2) L (.ref a :: st)) : xJ G X Q nL ρ σ k n pc L (st) := by
  obtain ⟨p, l, e, R, s, m, args, below, meth, c, σ0, ρ0⟩ := X
  obtain ⟨hx, hb, -⟩ := hC
  intro H locs ls hH hl
  exact lv_aload hx hb d (lv_at hl q hL) (kk H locs ls hH hl)
theorem x_aload_n (hC : xC G X own cc nL rm) {i : Fin 4} {a : Nat} (q : Nat) (hL : L[q]? = some ((i : Nat), .ref a)) (d : decode cc pc = .ok (.aload_n i, 1)) (kk : xJ G X Q nL ρ σ k n (pc + 1) L (.ref a :: st)) : xJ G X Q nL ρ σ k n pc L (st) := by
  obtain ⟨p, l, e, R, s, m, args, below, meth, c, σ0, ρ0⟩ := X
  obtain ⟨hx, hb, -⟩ := hC
  intro H locs ls hH hl
  exact lv_aload_n hx hb d rfl (lv_at hl q hL) (kk H locs ls hH hl)
theorem x_aloadQ (hC : xC G X own cc nL rm) {i : Nat} {o : Option Nm} (q : Nat) (hL : L[q]? = some (i, rv ρ o)) (d : decode cc pc = .ok (.aload i, 2)) (kk : xJ G X Q nL ρ σ k n (pc + 2) L (rv ρ o :: st)) : xJ G X Q nL ρ σ k n pc L st := by
  obtain ⟨p, l, e, R, s, m, args, below, meth, c, σ0, ρ0⟩ := X
  obtain ⟨hx, hb, -⟩ := hC
  intro H locs ls hH hl
  cases o with
  | none => exact lv_aloadN hx hb d (lv_at hl q hL) (kk H locs ls hH hl)
  | some o => exact lv_aload hx hb d (lv_at hl q hL) (kk H locs ls hH hl)
theorem x_aload_nQ (hC : xC G X own cc nL rm) {i : Fin 4} {o : Option Nm} (q : Nat) (hL : L[q]? = some ((i : Nat), rv ρ o)) (d : decode cc pc = .ok (.aload_n i, 1)) (kk : xJ G X Q nL ρ σ k n (pc + 1) L (rv ρ o :: st)) : xJ G X Q nL ρ σ k n pc L st := by
  obtain ⟨p, l, e, R, s, m, args, below, meth, c, σ0, ρ0⟩ := X
  obtain ⟨hx, hb, -⟩ := hC
  intro H locs ls hH hl
  cases o with
  | none => exact lv_aload_nN hx hb d rfl (lv_at hl q hL) (kk H locs ls hH hl)
  | some o => exact lv_aload_n hx hb d rfl (lv_at hl q hL) (kk H locs ls hH hl)
theorem x_istore (hC : xC G X own cc nL rm) {i : Nat} {v : Int32} {L' : List (Nat × Value)} (d : decode cc pc = .ok (.istore i, 2)) (hn : i < nL) (hf : (i, .int v) :: L.filter (fun q => !(q.1 == i) && !(q.1 + 1 == i && q.2.category == 2)) = L') (kk : xJ G X Q nL ρ σ k n (pc + 2) L' st) : xJ G X Q nL ρ σ k n pc L (.int v :: st) := by
  obtain ⟨p, l, e, R, s, m, args, below, meth, c, σ0, ρ0⟩ := X
  obtain ⟨hx, hb, -⟩ := hC
  intro H locs ls hH hl
  exact lv_istore hx hb d hl hn hf (fun ls' hl' => kk H locs ls' hH hl')
theorem x_istore_n (hC : xC G X own cc nL rm) {i : Fin 4} {v : Int32} {L' : List (Nat × Value)} (d : decode cc pc = .ok (.istore_n i, 1)) (hn : (i : Nat) < nL) (hf : ((i : Nat), .int v) :: L.filter (fun q => !(q.1 == (i : Nat)) && !(q.1 + 1 == (i : Nat) && q.2.category == 2)) = L') (kk : xJ G X Q nL ρ σ k n (pc + 1) L' st) : xJ G X Q nL ρ σ k n pc L (.int v :: st) := by
  obtain ⟨p, l, e, R, s, m, args, below, meth, c, σ0, ρ0⟩ := X
  obtain ⟨hx, hb, -⟩ := hC
  intro H locs ls hH hl
  exact lv_istore_n hx hb d rfl hl hn hf (fun ls' hl' => kk H locs ls' hH hl')
theorem x_astore (hC : xC G X own cc nL rm) {i : Nat} {v : Nat} {L' : List (Nat × Value)} (d : decode cc pc = .ok (.astore i, 2)) (hn : i < nL) (hf : (i, .ref v) :: L.filter (fun q => !(q.1 == i) && !(q.1 + 1 == i && q.2.category == 2)) = L') (kk : xJ G X Q nL ρ σ k n (pc + 2) L' st) : xJ G X Q nL ρ σ k n pc L (.ref v :: st) := by
  obtain ⟨p, l, e, R, s, m, args, below, meth, c, σ0, ρ0⟩ := X
  obtain ⟨hx, hb, -⟩ := hC
  intro H locs ls hH hl
  exact lv_astore hx hb d hl hn hf (fun ls' hl' => kk H locs ls' hH hl')
theorem x_astore_n (hC : xC G X own cc nL rm) {i : Fin 4} {v : Nat} {L' : List (Nat × Value)} (d : decode cc pc = .ok (.astore_n i, 1)) (hn : (i : Nat) < nL) (hf : ((i : Nat), .ref v) :: L.filter (fun q => !(q.1 == (i : Nat)) && !(q.1 + 1 == (i : Nat) && q.2.category == 2)) = L') (kk : xJ G X Q nL ρ σ k n (pc + 1) L' st) : xJ G X Q nL ρ σ k n pc L (.ref v :: st) := by
  obtain ⟨p, l, e, R, s, m, args, below, meth, c, σ0, ρ0⟩ := X
  obtain ⟨hx, hb, -⟩ := hC
  intro H locs ls hH hl
  exact lv_astore_n hx hb d rfl hl hn hf (fun ls' hl' => kk H locs ls' hH hl')
theorem x_astoreQ (hC : xC G X own cc nL rm) {i : Nat} {o : Option Nm} {L' : List (Nat × Value)} (d : decode cc pc = .ok (.astore i, 2)) (hn : i < nL) (hf : (i, rv ρ o) :: L.filter (fun q => !(q.1 == i) && !(q.1 + 1 == i && q.2.category == 2)) = L') (kk : xJ G X Q nL ρ σ k n (pc + 2) L' st) : xJ G X Q nL ρ σ k n pc L (rv ρ o :: st) := by
  obtain ⟨p, l, e, R, s, m, args, below, meth, c, σ0, ρ0⟩ := X
  obtain ⟨hx, hb, -⟩ := hC
  intro H locs ls hH hl
  cases o with
  | none => exact lv_astoreN hx hb d hl hn hf (fun ls' hl' => kk H locs ls' hH hl')
  | some o => exact lv_astore hx hb d hl hn hf (fun ls' hl' => kk H locs ls' hH hl')
theorem x_astore_nQ (hC : xC G X own cc nL rm) {i : Fin 4} {o : Option Nm} {L' : List (Nat × Value)} (d : decode cc pc = .ok (.astore_n i, 1)) (hn : (i : Nat) < nL) (hf : ((i : Nat), rv ρ o) :: L.filter (fun q => !(q.1 == (i : Nat)) && !(q.1 + 1 == (i : Nat) && q.2.category == 2)) = L') (kk : xJ G X Q nL ρ σ k n (pc + 1) L' st) : xJ G X Q nL ρ σ k n pc L (rv ρ o :: st) := by
  obtain ⟨p, l, e, R, s, m, args, below, meth, c, σ0, ρ0⟩ := X
  obtain ⟨hx, hb, -⟩ := hC
  intro H locs ls hH hl
  cases o with
  | none => exact lv_astore_nN hx hb d rfl hl hn hf (fun ls' hl' => kk H locs ls' hH hl')
  | some o => exact lv_astore_n hx hb d rfl hl hn hf (fun ls' hl' => kk H locs ls' hH hl')
theorem x_iinc (hC : xC G X own cc nL rm) {i : Nat} {w : Int} {v v' : Int32} {L' : List (Nat × Value)} (q : Nat) (hL : L[q]? = some (i, .int v)) (d : decode cc pc = .ok (.iinc i w, 3)) (hv : v + Int32.ofInt w = v') (hn : i < nL) (hf : (i, .int v') :: L.filter (fun q => !(q.1 == i) && !(q.1 + 1 == i && q.2.category == 2)) = L') (kk : xJ G X Q nL ρ σ k n (pc + 3) L' st) : xJ G X Q nL ρ σ k n pc L st := by
  obtain ⟨p, l, e, R, s, m, args, below, meth, c, σ0, ρ0⟩ := X
  obtain ⟨hx, hb, -⟩ := hC
  intro H locs ls hH hl
  exact lv_iinc hx hb d hl hL hv hn hf (fun ls' hl' => kk H locs ls' hH hl')
theorem x_iadd (hC : xC G X own cc nL rm) {x y : Int32} (d : decode cc pc = .ok (.iadd, 1)) (kk : xJ G X Q nL ρ σ k n (pc + 1) L (.int (x + y) :: st)) : xJ G X Q nL ρ σ k n pc L (.int y :: .int x :: st) := by
  obtain ⟨p, l, e, R, s, m, args, below, meth, c, σ0, ρ0⟩ := X
  obtain ⟨hx, hb, -⟩ := hC
  intro H locs ls hH hl
  exact lv_iadd hx hb d (kk H locs ls hH hl)
theorem x_isub (hC : xC G X own cc nL rm) {x y : Int32} (d : decode cc pc = .ok (.isub, 1)) (kk : xJ G X Q nL ρ σ k n (pc + 1) L (.int (x - y) :: st)) : xJ G X Q nL ρ σ k n pc L (.int y :: .int x :: st) := by
  obtain ⟨p, l, e, R, s, m, args, below, meth, c, σ0, ρ0⟩ := X
  obtain ⟨hx, hb, -⟩ := hC
  intro H locs ls hH hl
  exact lv_isub hx hb d (kk H locs ls hH hl)
theorem x_imul (hC : xC G X own cc nL rm) {x y : Int32} (d : decode cc pc = .ok (.imul, 1)) (kk : xJ G X Q nL ρ σ k n (pc + 1) L (.int (x * y) :: st)) : xJ G X Q nL ρ σ k n pc L (.int y :: .int x :: st) := by
  obtain ⟨p, l, e, R, s, m, args, below, meth, c, σ0, ρ0⟩ := X
  obtain ⟨hx, hb, -⟩ := hC
  intro H locs ls hH hl
  exact lv_imul hx hb d (kk H locs ls hH hl)
theorem x_iand (hC : xC G X own cc nL rm) {x y : Int32} (d : decode cc pc = .ok (.iand, 1)) (kk : xJ G X Q nL ρ σ k n (pc + 1) L (.int (x &&& y) :: st)) : xJ G X Q nL ρ σ k n pc L (.int y :: .int x :: st) := by
  obtain ⟨p, l, e, R, s, m, args, below, meth, c, σ0, ρ0⟩ := X
  obtain ⟨hx, hb, -⟩ := hC
  intro H locs ls hH hl
  exact lv_iand hx hb d (kk H locs ls hH hl)
theorem x_ior (hC : xC G X own cc nL rm) {x y : Int32} (d : decode cc pc = .ok (.ior, 1)) (kk : xJ G X Q nL ρ σ k n (pc + 1) L (.int (x ||| y) :: st)) : xJ G X Q nL ρ σ k n pc L (.int y :: .int x :: st) := by
  obtain ⟨p, l, e, R, s, m, args, below, meth, c, σ0, ρ0⟩ := X
  obtain ⟨hx, hb, -⟩ := hC
  intro H locs ls hH hl
  exact lv_ior hx hb d (kk H locs ls hH hl)
theorem x_ixor (hC : xC G X own cc nL rm) {x y : Int32} (d : decode cc pc = .ok (.ixor, 1)) (kk : xJ G X Q nL ρ σ k n (pc + 1) L (.int (x ^^^ y) :: st)) : xJ G X Q nL ρ σ k n pc L (.int y :: .int x :: st) := by
  obtain ⟨p, l, e, R, s, m, args, below, meth, c, σ0, ρ0⟩ := X
  obtain ⟨hx, hb, -⟩ := hC
  intro H locs ls hH hl
  exact lv_ixor hx hb d (kk H locs ls hH hl)
theorem x_ishl (hC : xC G X own cc nL rm) {x y : Int32} (d : decode cc pc = .ok (.ishl, 1)) (kk : xJ G X Q nL ρ σ k n (pc + 1) L (.int (x <<< (y &&& 31)) :: st)) : xJ G X Q nL ρ σ k n pc L (.int y :: .int x :: st) := by
  obtain ⟨p, l, e, R, s, m, args, below, meth, c, σ0, ρ0⟩ := X
  obtain ⟨hx, hb, -⟩ := hC
  intro H locs ls hH hl
  exact lv_ishl hx hb d (kk H locs ls hH hl)
theorem x_ishr (hC : xC G X own cc nL rm) {x y : Int32} (d : decode cc pc = .ok (.ishr, 1)) (kk : xJ G X Q nL ρ σ k n (pc + 1) L (.int (x >>> (y &&& 31)) :: st)) : xJ G X Q nL ρ σ k n pc L (.int y :: .int x :: st) := by
  obtain ⟨p, l, e, R, s, m, args, below, meth, c, σ0, ρ0⟩ := X
  obtain ⟨hx, hb, -⟩ := hC
  intro H locs ls hH hl
  exact lv_ishr hx hb d (kk H locs ls hH hl)
theorem x_iushr (hC : xC G X own cc nL rm) {x y : Int32} (d : decode cc pc = .ok (.iushr, 1)) (kk : xJ G X Q nL ρ σ k n (pc + 1) L (.int ((x.toUInt32 >>> (y.toUInt32 &&& Int32.toUInt32 31)).toInt32) :: st)) : xJ G X Q nL ρ σ k n pc L (.int y :: .int x :: st) := by
  obtain ⟨p, l, e, R, s, m, args, below, meth, c, σ0, ρ0⟩ := X
  obtain ⟨hx, hb, -⟩ := hC
  intro H locs ls hH hl
  exact lv_iushr hx hb d rfl (kk H locs ls hH hl)
theorem x_idiv (hC : xC G X own cc nL rm) {x y : Int32} (h0 : ¬ y = 0) (d : decode cc pc = .ok (.idiv, 1)) (kk : xJ G X Q nL ρ σ k n (pc + 1) L (.int (x / y) :: st)) : xJ G X Q nL ρ σ k n pc L (.int y :: .int x :: st) := by
  obtain ⟨p, l, e, R, s, m, args, below, meth, c, σ0, ρ0⟩ := X
  obtain ⟨hx, hb, -⟩ := hC
  intro H locs ls hH hl
  exact lv_idiv hx hb d h0 (kk H locs ls hH hl)
theorem x_irem (hC : xC G X own cc nL rm) {x y : Int32} (h0 : ¬ y = 0) (d : decode cc pc = .ok (.irem, 1)) (kk : xJ G X Q nL ρ σ k n (pc + 1) L (.int (x - x / y * y) :: st)) : xJ G X Q nL ρ σ k n pc L (.int y :: .int x :: st) := by
  obtain ⟨p, l, e, R, s, m, args, below, meth, c, σ0, ρ0⟩ := X
  obtain ⟨hx, hb, -⟩ := hC
  intro H locs ls hH hl
  exact lv_irem hx hb d h0 (kk H locs ls hH hl)
theorem x_i2l (hC : xC G X own cc nL rm) {x : Int32} (d : decode cc pc = .ok (.i2l, 1)) (kk : xJ G X Q nL ρ σ k n (pc + 1) L (.long x.toInt64 :: st)) : xJ G X Q nL ρ σ k n pc L (.int x :: st) := by
  obtain ⟨p, l, e, R, s, m, args, below, meth, c, σ0, ρ0⟩ := X
  obtain ⟨hx, hb, -⟩ := hC
  intro H locs ls hH hl
  exact lv_i2l hx hb d rfl (kk H locs ls hH hl)
theorem x_lcmp (hC : xC G X own cc nL rm) {x y : Int64} (d : decode cc pc = .ok (.lcmp, 1)) (kk : xJ G X Q nL ρ σ k n (pc + 1) L (.int (lg_cmp x y) :: st)) : xJ G X Q nL ρ σ k n pc L (.long y :: .long x :: st) := by
  obtain ⟨p, l, e, R, s, m, args, below, meth, c, σ0, ρ0⟩ := X
  obtain ⟨hx, hb, -⟩ := hC
  intro H locs ls hH hl
  exact W.lcmp hx hb d (kk H locs ls hH hl)
theorem x_dup (hC : xC G X own cc nL rm) {v : Value} (hv : v.category = 1) (d : decode cc pc = .ok (.dup, 1)) (kk : xJ G X Q nL ρ σ k n (pc + 1) L (v :: v :: st)) : xJ G X Q nL ρ σ k n pc L (v :: st) := by
  obtain ⟨p, l, e, R, s, m, args, below, meth, c, σ0, ρ0⟩ := X
  obtain ⟨hx, hb, -⟩ := hC
  intro H locs ls hH hl
  exact lv_dup hx hb d hv (kk H locs ls hH hl)
theorem x_dup2 (hC : xC G X own cc nL rm) {v w : Value} (hv : v.category = 1) (hw : w.category = 1) (d : decode cc pc = .ok (.dup2, 1)) (kk : xJ G X Q nL ρ σ k n (pc + 1) L (v :: w :: v :: w :: st)) : xJ G X Q nL ρ σ k n pc L (v :: w :: st) := by
  obtain ⟨p, l, e, R, s, m, args, below, meth, c, σ0, ρ0⟩ := X
  obtain ⟨hx, hb, -⟩ := hC
  intro H locs ls hH hl
  exact lv_dup2_11 hx hb d hv hw (kk H locs ls hH hl)
theorem x_icmp_eq (hC : xC G X own cc nL rm) {x y : Int32} {off : Int} {tgt : Nat} (d : decode cc pc = .ok (.if_icmp .eq off, 3)) (ht : (pc : Int) + off = (tgt : Int)) (kt : x = y → xJ G X Q nL ρ σ k n tgt L st) (kf : ¬ x = y → xJ G X Q nL ρ σ k n (pc + 3) L st) : xJ G X Q nL ρ σ k n pc L (.int y :: .int x :: st) := by
  obtain ⟨p, l, e, R, s, m, args, below, meth, c, σ0, ρ0⟩ := X
  obtain ⟨hx, hb, -⟩ := hC
  intro H locs ls hH hl
  exact lv_icmp_eq hx hb d ht (fun h => kt h H locs ls hH hl) (fun h => kf h H locs ls hH hl)
theorem x_if_eq (hC : xC G X own cc nL rm) {x : Int32} {off : Int} {tgt : Nat} (d : decode cc pc = .ok (.ifCond .eq off, 3)) (ht : (pc : Int) + off = (tgt : Int)) (kt : x = 0 → xJ G X Q nL ρ σ k n tgt L st) (kf : ¬ x = 0 → xJ G X Q nL ρ σ k n (pc + 3) L st) : xJ G X Q nL ρ σ k n pc L (.int x :: st) := by
  obtain ⟨p, l, e, R, s, m, args, below, meth, c, σ0, ρ0⟩ := X
  obtain ⟨hx, hb, -⟩ := hC
  intro H locs ls hH hl
  exact lv_if_eq hx hb d ht (fun h => kt h H locs ls hH hl) (fun h => kf h H locs ls hH hl)
theorem x_icmp_lt (hC : xC G X own cc nL rm) {x y : Int32} {off : Int} {tgt : Nat} (d : decode cc pc = .ok (.if_icmp .lt off, 3)) (ht : (pc : Int) + off = (tgt : Int)) (kt : x < y → xJ G X Q nL ρ σ k n tgt L st) (kf : ¬ x < y → xJ G X Q nL ρ σ k n (pc + 3) L st) : xJ G X Q nL ρ σ k n pc L (.int y :: .int x :: st) := by
  obtain ⟨p, l, e, R, s, m, args, below, meth, c, σ0, ρ0⟩ := X
  obtain ⟨hx, hb, -⟩ := hC
  intro H locs ls hH hl
  exact lv_icmp_lt hx hb d ht (fun h => kt h H locs ls hH hl) (fun h => kf h H locs ls hH hl)
theorem x_if_lt (hC : xC G X own cc nL rm) {x : Int32} {off : Int} {tgt : Nat} (d : decode cc pc = .ok (.ifCond .lt off, 3)) (ht : (pc : Int) + off = (tgt : Int)) (kt : x < 0 → xJ G X Q nL ρ σ k n tgt L st) (kf : ¬ x < 0 → xJ G X Q nL ρ σ k n (pc + 3) L st) : xJ G X Q nL ρ σ k n pc L (.int x :: st) := by
  obtain ⟨p, l, e, R, s, m, args, below, meth, c, σ0, ρ0⟩ := X
  obtain ⟨hx, hb, -⟩ := hC
  intro H locs ls hH hl
  exact lv_if_lt hx hb d ht (fun h => kt h H locs ls hH hl) (fun h => kf h H locs ls hH hl)
theorem x_icmp_ge (hC : xC G X own cc nL rm) {x y : Int32} {off : Int} {tgt : Nat} (d : decode cc pc = .ok (.if_icmp .ge off, 3)) (ht : (pc : Int) + off = (tgt : Int)) (kt : y ≤ x → xJ G X Q nL ρ σ k n tgt L st) (kf : ¬ y ≤ x → xJ G X Q nL ρ σ k n (pc + 3) L st) : xJ G X Q nL ρ σ k n pc L (.int y :: .int x :: st) := by
  obtain ⟨p, l, e, R, s, m, args, below, meth, c, σ0, ρ0⟩ := X
  obtain ⟨hx, hb, -⟩ := hC
  intro H locs ls hH hl
  exact lv_icmp_ge hx hb d ht (fun h => kt h H locs ls hH hl) (fun h => kf h H locs ls hH hl)
theorem x_if_ge (hC : xC G X own cc nL rm) {x : Int32} {off : Int} {tgt : Nat} (d : decode cc pc = .ok (.ifCond .ge off, 3)) (ht : (pc : Int) + off = (tgt : Int)) (kt : 0 ≤ x → xJ G X Q nL ρ σ k n tgt L st) (kf : ¬ 0 ≤ x → xJ G X Q nL ρ σ k n (pc + 3) L st) : xJ G X Q nL ρ σ k n pc L (.int x :: st) := by
  obtain ⟨p, l, e, R, s, m, args, below, meth, c, σ0, ρ0⟩ := X
  obtain ⟨hx, hb, -⟩ := hC
  intro H locs ls hH hl
  exact lv_if_ge hx hb d ht (fun h => kt h H locs ls hH hl) (fun h => kf h H locs ls hH hl)
theorem x_icmp_gt (hC : xC G X own cc nL rm) {x y : Int32} {off : Int} {tgt : Nat} (d : decode cc pc = .ok (.if_icmp .gt off, 3)) (ht : (pc : Int) + off = (tgt : Int)) (kt : y < x → xJ G X Q nL ρ σ k n tgt L st) (kf : ¬ y < x → xJ G X Q nL ρ σ k n (pc + 3) L st) : xJ G X Q nL ρ σ k n pc L (.int y :: .int x :: st) := by
  obtain ⟨p, l, e, R, s, m, args, below, meth, c, σ0, ρ0⟩ := X
  obtain ⟨hx, hb, -⟩ := hC
  intro H locs ls hH hl
  exact lv_icmp_gt hx hb d ht (fun h => kt h H locs ls hH hl) (fun h => kf h H locs ls hH hl)
theorem x_if_gt (hC : xC G X own cc nL rm) {x : Int32} {off : Int} {tgt : Nat} (d : decode cc pc = .ok (.ifCond .gt off, 3)) (ht : (pc : Int) + off = (tgt : Int)) (kt : 0 < x → xJ G X Q nL ρ σ k n tgt L st) (kf : ¬ 0 < x → xJ G X Q nL ρ σ k n (pc + 3) L st) : xJ G X Q nL ρ σ k n pc L (.int x :: st) := by
  obtain ⟨p, l, e, R, s, m, args, below, meth, c, σ0, ρ0⟩ := X
  obtain ⟨hx, hb, -⟩ := hC
  intro H locs ls hH hl
  exact lv_if_gt hx hb d ht (fun h => kt h H locs ls hH hl) (fun h => kf h H locs ls hH hl)
theorem x_icmp_le (hC : xC G X own cc nL rm) {x y : Int32} {off : Int} {tgt : Nat} (d : decode cc pc = .ok (.if_icmp .le off, 3)) (ht : (pc : Int) + off = (tgt : Int)) (kt : x ≤ y → xJ G X Q nL ρ σ k n tgt L st) (kf : ¬ x ≤ y → xJ G X Q nL ρ σ k n (pc + 3) L st) : xJ G X Q nL ρ σ k n pc L (.int y :: .int x :: st) := by
  obtain ⟨p, l, e, R, s, m, args, below, meth, c, σ0, ρ0⟩ := X
  obtain ⟨hx, hb, -⟩ := hC
  intro H locs ls hH hl
  exact lv_icmp_le hx hb d ht (fun h => kt h H locs ls hH hl) (fun h => kf h H locs ls hH hl)
theorem x_if_le (hC : xC G X own cc nL rm) {x : Int32} {off : Int} {tgt : Nat} (d : decode cc pc = .ok (.ifCond .le off, 3)) (ht : (pc : Int) + off = (tgt : Int)) (kt : x ≤ 0 → xJ G X Q nL ρ σ k n tgt L st) (kf : ¬ x ≤ 0 → xJ G X Q nL ρ σ k n (pc + 3) L st) : xJ G X Q nL ρ σ k n pc L (.int x :: st) := by
  obtain ⟨p, l, e, R, s, m, args, below, meth, c, σ0, ρ0⟩ := X
  obtain ⟨hx, hb, -⟩ := hC
  intro H locs ls hH hl
  exact lv_if_le hx hb d ht (fun h => kt h H locs ls hH hl) (fun h => kf h H locs ls hH hl)
theorem x_icmp_ne (hC : xC G X own cc nL rm) {x y : Int32} {off : Int} {tgt : Nat} (d : decode cc pc = .ok (.if_icmp .ne off, 3)) (ht : (pc : Int) + off = (tgt : Int)) (kt : ¬ x = y → xJ G X Q nL ρ σ k n tgt L st) (kf : x = y → xJ G X Q nL ρ σ k n (pc + 3) L st) : xJ G X Q nL ρ σ k n pc L (.int y :: .int x :: st) := by
  obtain ⟨p, l, e, R, s, m, args, below, meth, c, σ0, ρ0⟩ := X
  obtain ⟨hx, hb, -⟩ := hC
  intro H locs ls hH hl
  exact lv_icmp_ne hx hb d ht (fun h => kt h H locs ls hH hl) (fun h => kf h H locs ls hH hl)
theorem x_if_ne (hC : xC G X own cc nL rm) {x : Int32} {off : Int} {tgt : Nat} (d : decode cc pc = .ok (.ifCond .ne off, 3)) (ht : (pc : Int) + off = (tgt : Int)) (kt : ¬ x = 0 → xJ G X Q nL ρ σ k n tgt L st) (kf : x = 0 → xJ G X Q nL ρ σ k n (pc + 3) L st) : xJ G X Q nL ρ σ k n pc L (.int x :: st) := by
  obtain ⟨p, l, e, R, s, m, args, below, meth, c, σ0, ρ0⟩ := X
  obtain ⟨hx, hb, -⟩ := hC
  intro H locs ls hH hl
  exact lv_if_ne hx hb d ht (fun h => kt h H locs ls hH hl) (fun h => kf h H locs ls hH hl)
theorem x_goto (hC : xC G X own cc nL rm) {off : Int} {tgt : Nat} (d : decode cc pc = .ok (.goto off, 3)) (ht : (pc : Int) + off = (tgt : Int)) (kk : xJ G X Q nL ρ σ k n tgt L st) : xJ G X Q nL ρ σ k n pc L st := by
  obtain ⟨p, l, e, R, s, m, args, below, meth, c, σ0, ρ0⟩ := X
  obtain ⟨hx, hb, -⟩ := hC
  intro H locs ls hH hl
  exact lv_goto hx hb d ht (kk H locs ls hH hl)
theorem x_ifnull (hC : xC G X own cc nL rm) {o : Option Nm} {off : Int} {tgt : Nat} (d : decode cc pc = .ok (.ifnull off, 3)) (ht : (pc : Int) + off = (tgt : Int)) (kt : o = none → xJ G X Q nL ρ σ k n tgt L st) (kf : ∀ a, o = some a → xJ G X Q nL ρ σ k n (pc + 3) L st) : xJ G X Q nL ρ σ k n pc L (rv ρ o :: st) := by
  obtain ⟨p, l, e, R, s, m, args, below, meth, c, σ0, ρ0⟩ := X
  obtain ⟨hx, hb, -⟩ := hC
  intro H locs ls hH hl
  cases o with
  | none => exact lv_ifnullN hx hb d ht (kt rfl H locs ls hH hl)
  | some a => exact lv_ifnull hx hb d (kf a rfl H locs ls hH hl)
theorem x_ifnonnull (hC : xC G X own cc nL rm) {o : Option Nm} {off : Int} {tgt : Nat} (d : decode cc pc = .ok (.ifnonnull off, 3)) (ht : (pc : Int) + off = (tgt : Int)) (kt : ∀ a, o = some a → xJ G X Q nL ρ σ k n tgt L st) (kf : o = none → xJ G X Q nL ρ σ k n (pc + 3) L st) : xJ G X Q nL ρ σ k n pc L (rv ρ o :: st) := by
  obtain ⟨p, l, e, R, s, m, args, below, meth, c, σ0, ρ0⟩ := X
  obtain ⟨hx, hb, -⟩ := hC
  intro H locs ls hH hl
  cases o with
  | none => exact lv_ifnonnullN hx hb d (kf rfl H locs ls hH hl)
  | some a => exact lv_ifnonnull hx hb d ht (kt a rfl H locs ls hH hl)
theorem x_acmp_eq (hC : xC G X own cc nL rm) {a b : Nm} (ha : hK σ a ≠ 0) (hb9 : hK σ b ≠ 0) {off : Int} {tgt : Nat} (d : decode cc pc = .ok (.if_acmp .eq off, 3)) (ht : (pc : Int) + off = (tgt : Int)) (kt : a = b → xJ G X Q nL ρ σ k n tgt L st) (kf : ¬ a = b → xJ G X Q nL ρ σ k n (pc + 3) L st) : xJ G X Q nL ρ σ k n pc L (.ref (ρ b) :: .ref (ρ a) :: st) := by
  obtain ⟨p, l, e, R, s, m, args, below, meth, c, σ0, ρ0⟩ := X
  obtain ⟨hx, hb, -⟩ := hC
  intro H locs ls hH hl
  have hinj := hH.1.2.1
  exact lv_acmp_eq (rx := some (ρ a)) (ry := some (ρ b)) hx hb d ht (fun h => kt (hinj a b ha hb9 (Option.some.inj h)) H locs ls hH hl) (fun h => kf (fun q => h (by rw [q])) H locs ls hH hl)
theorem x_acmp_ne (hC : xC G X own cc nL rm) {a b : Nm} (ha : hK σ a ≠ 0) (hb9 : hK σ b ≠ 0) {off : Int} {tgt : Nat} (d : decode cc pc = .ok (.if_acmp .ne off, 3)) (ht : (pc : Int) + off = (tgt : Int)) (kt : ¬ a = b → xJ G X Q nL ρ σ k n tgt L st) (kf : a = b → xJ G X Q nL ρ σ k n (pc + 3) L st) : xJ G X Q nL ρ σ k n pc L (.ref (ρ b) :: .ref (ρ a) :: st) := by
  obtain ⟨p, l, e, R, s, m, args, below, meth, c, σ0, ρ0⟩ := X
  obtain ⟨hx, hb, -⟩ := hC
  intro H locs ls hH hl
  have hinj := hH.1.2.1
  exact lv_acmp_ne (rx := some (ρ a)) (ry := some (ρ b)) hx hb d ht (fun h => kt (fun q => h (by rw [q])) H locs ls hH hl) (fun h => kf (hinj a b ha hb9 (Option.some.inj h)) H locs ls hH hl)
theorem x_ldc (hC : xC G X own cc nL rm) {v : Int32} {i : Nat} (hw : Cond.constant own i v ∈ T0) (d : decode cc pc = .ok (.ldc i, 2)) (kk : xJ G X Q nL ρ σ k n (pc + 2) L (.int v :: st)) : xJ G X Q nL ρ σ k n pc L st := by
  obtain ⟨p, l, e, R, s, m, args, below, meth, c, σ0, ρ0⟩ := X
  obtain ⟨hx, hb, hml, hown, hts, -⟩ := hC
  intro H locs ls hH hl
  exact lv_ldc hx hb hown (hts _ hw) d (kk H locs ls hH hl)
theorem xJ.dia {ct : Prop} {pcJ : Nat} {st' : List Value} (kk : xJ G X Q nL ρ σ k n pcJ L st) (g : xJ G X Q nL ρ σ k n pcJ L st → xJ G X Q nL ρ σ k n pc L st') : xJ G X Q nL ρ σ k n pc L st' := g kk
end
