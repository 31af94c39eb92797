theorem bq_put {x : Int32} {n : Nat} (hn : n < 16) (h : bq x n = false) : x ^^^ (1 <<< (nI n &&& 31)) = x ||| (1 <<< (nI n &&& 31)) := by
  refine bq_ext (fun i hi => ?_)
  rw [bq_xor, bq_or, bq_shl1 n hn i hi]
  by_cases e : i = n
  · subst e; simp [h]
  · simp [e]
theorem bq_cut {x : Int32} {n : Nat} (hn : n < 16) (h : bq x n = true) : x ^^^ (1 <<< (nI n &&& 31)) = x &&& ((1 <<< (nI n &&& 31)) ^^^ (-1)) := by
  refine bq_ext (fun i hi => ?_)
  rw [bq_xor, bq_and, bq_xor, bq_shl1 n hn i hi, bq_m1 i hi]
  by_cases e : i = n
  · subst e; simp [h]
  · simp [e]
theorem bq_putI {x : Int32} {n : Nat} (hn : n < 16) (h : bq x n = true) : x ||| (1 <<< (nI n &&& 31)) = x := by
  refine bq_ext (fun i hi => ?_)
  rw [bq_or, bq_shl1 n hn i hi]
  by_cases e : i = n
  · subst e; simp [h]
  · simp [e]
theorem bq_cutI {x : Int32} {n : Nat} (hn : n < 16) (h : bq x n = false) : x &&& ((1 <<< (nI n &&& 31)) ^^^ (-1)) = x := by
  refine bq_ext (fun i hi => ?_)
  rw [bq_and, bq_xor, bq_shl1 n hn i hi, bq_m1 i hi]
  by_cases e : i = n
  · subst e; simp [h]
  · simp [e]
theorem lg_cmp0 {x y : Int64} (h : x = y) : lg_cmp x y = 0 := by
  subst h
  unfold lg_cmp
  simp
