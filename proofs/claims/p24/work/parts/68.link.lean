/-! link: the call. -/
theorem nAI : ¬ xIA = xIO := by decide
theorem nIA : ¬ xIO = xIA := by decide
def lkC (T z v T' : Int32) (j : Nat) : Prop := (bq T j = false ∧ z = 0 ∧ v = 0 ∧ T' = T) ∨ (bq T j = false ∧ z = 1 ∧ v = 1 ∧ T' = T ^^^ (1 <<< (nI j &&& 31))) ∨ (bq T j = true ∧ z = 1 ∧ v = 0 ∧ T' = T) ∨ (bq T j = true ∧ z = 0 ∧ v = 1 ∧ T' = T ^^^ (1 <<< (nI j &&& 31)))
section
variable {N : Nat} {p : PP} {I : IF} {J : JF} {R : Int32 → Int32 → PH → Prop}
theorem lk_li (h : LI N p I) {I1 : IF} {i : Nat} {T' : Int32} (hi : i < gT p) (h1 : ∀ n j, ¬ (n = (14, i, 0) ∧ j = 7) → I1 n j = I n j) (h2 : I1 (14, i, 0) 7 = T') : LI N p (up (up I1 (20, 0, 0) 0 0) (21, 24, 0) i T') := by
  have h' := h
  obtain ⟨t, ⟨hW, hM, -⟩, -⟩ := h'
  refine LI_itm (I' := I1) h hi (fun n j q => h1 n j (fun w => q ⟨w.1, Or.inr w.2⟩)) (by rw [h1 _ _ (by simp)]; exact (hW.2.1 i hi).2.2.2.2.1) (fun n j q1 q2 => ?_) ?_ ?_
  · rw [up_ne (fun w => q2 (by rw [w.1]; exact ⟨rfl, Or.inr rfl, w.2⟩)), up_ne q1]
  · rw [up_ne (by simp), up_ne (by simp), h1 _ _ (by simp), h1 _ _ (by simp)]; exact (hM.2.2.1 i hi).2.2.2.2.2.2.2.1
  · rw [up_same, h2]
end
