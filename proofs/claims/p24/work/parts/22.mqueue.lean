/-! The model's queues. -/
section
variable {p : PP} {I : IF} {J : JF}
def setR (I : IF) (i c : Nat) (v m : Nat → Int32) : IF := fun n j => if n = (21, 27, 0) ∧ j = i then nI c else if n = (21, 28, 0) ∧ 4 * i ≤ j ∧ j < 4 * i + 4 then v (j - 4 * i) else if n = (21, 29, 0) ∧ 4 * i ≤ j ∧ j < 4 * i + 4 then m (j - 4 * i) else I n j
def isR (I : IF) (i c : Nat) (v m : Nat → Int32) : Prop := I (21, 27, 0) i = nI c ∧ (∀ k, k < 4 → I (21, 28, 0) (4 * i + k) = v k) ∧ (∀ k, k < 4 → I (21, 29, 0) (4 * i + k) = m k)
theorem setR_id {i c : Nat} {v m : Nat → Int32} (h : isR I i c v m) : setR I i c v m = I := by
  funext n j
  unfold setR
  split
  · next g => rw [g.1, g.2, h.1]
  · split
    · next g => rw [g.1, ← h.2.1 (j - 4 * i) (by omega), show 4 * i + (j - 4 * i) = j by omega]
    · split
      · next g => rw [g.1, ← h.2.2 (j - 4 * i) (by omega), show 4 * i + (j - 4 * i) = j by omega]
      · rfl
theorem setR_c {i c : Nat} {v m : Nat → Int32} : setR I i c v m (21, 27, 0) i = nI c := if_pos ⟨rfl, rfl⟩
theorem setR_v {i c k : Nat} {v m : Nat → Int32} (h : k < 4) : setR I i c v m (21, 28, 0) (4 * i + k) = v k := by
  rw [setR, if_neg (by simp), if_pos ⟨rfl, by omega, by omega⟩, Nat.add_sub_cancel_left]
theorem setR_m {i c k : Nat} {v m : Nat → Int32} (h : k < 4) : setR I i c v m (21, 29, 0) (4 * i + k) = m k := by
  rw [setR, if_neg (by simp), if_neg (by simp), if_pos ⟨rfl, by omega, by omega⟩, Nat.add_sub_cancel_left]
theorem setR_o {i c : Nat} {v m : Nat → Int32} {n : Nm} {j : Nat} (h1 : ¬ (n = (21, 27, 0) ∧ j = i)) (h2 : ¬ (n = (21, 28, 0) ∧ 4 * i ≤ j ∧ j < 4 * i + 4)) (h3 : ¬ (n = (21, 29, 0) ∧ 4 * i ≤ j ∧ j < 4 * i + 4)) : setR I i c v m n j = I n j := by rw [setR, if_neg h1, if_neg h2, if_neg h3]
theorem setR_on {i c : Nat} {v m : Nat → Int32} {n : Nm} {j : Nat} (h1 : n ≠ (21, 27, 0)) (h2 : n ≠ (21, 28, 0)) (h3 : n ≠ (21, 29, 0)) : setR I i c v m n j = I n j := setR_o (fun q => h1 q.1) (fun q => h2 q.1) (fun q => h3 q.1)
theorem setR_uc {i c d : Nat} {v m : Nat → Int32} : up (setR I i c v m) (21, 27, 0) i (nI d) = setR I i d v m := by
  funext n j; unfold up setR; split <;> rfl
theorem setR_uv {i c k : Nat} {x : Int32} {v m : Nat → Int32} (h : k < 4) : up (setR I i c v m) (21, 28, 0) (4 * i + k) x = setR I i c (fu v k x) m := by
  funext n j; unfold up setR fu
  by_cases g : n = (21, 28, 0)
  · subst g
    by_cases e : j = 4 * i + k
    · subst e
      simp [h]
    · by_cases q : 4 * i ≤ j ∧ j < 4 * i + 4
      · have e' : ¬ j - 4 * i = k := by omega
        simp [e, q, e']
      · simp only [e, q]; simp
  · simp [g]
theorem setR_um {i c k : Nat} {x : Int32} {v m : Nat → Int32} (h : k < 4) : up (setR I i c v m) (21, 29, 0) (4 * i + k) x = setR I i c v (fu m k x) := by
  funext n j; unfold up setR fu
  by_cases g : n = (21, 29, 0)
  · subst g
    by_cases e : j = 4 * i + k
    · subst e
      simp [h]
    · by_cases q : 4 * i ≤ j ∧ j < 4 * i + 4
      · have e' : ¬ j - 4 * i = k := by omega
        simp [e, q, e']
      · simp only [e, q]; simp
  · simp [g]
/-- the model's item takes in a sample -/
def enqR (I : IF) (i sz c : Nat) (d : Int32) (v m : Nat → Int32) (x : Int32) : IF := setR (up (up I (21, 26, 0) i (I (21, 26, 0) i + 1)) (21, 25, 0) i x) i (qN sz c) (qV sz c d v x) (qM sz c d m)
/-- the model's distance -/
def farM (x last band : Int32) : Prop := ¬ ((if x ≤ last then last - x else x - last) ≤ band)
end
