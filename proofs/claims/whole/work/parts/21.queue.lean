/-! The class's leaves: timers, queues. -/
section
variable {p : PP} {I : IF} {J : JF}
/-- a queue with these contents -/
def setQ (I : IF) (i c : Nat) (v m : Nat → Int32) : IF := fun n j => if n = (16, i, 0) ∧ j = 4 then nI c else if n = (17, i, 0) then v j else if n = (18, i, 0) then m j else I n j
def isQ (I : IF) (i c : Nat) (v m : Nat → Int32) : Prop := I (16, i, 0) 4 = nI c ∧ (∀ k, I (17, i, 0) k = v k) ∧ (∀ k, I (18, i, 0) k = m k)
def fu (f : Nat → Int32) (k : Nat) (x : Int32) : Nat → Int32 := fun j => if j = k then x else f j
def sh (f : Nat → Int32) (c : Nat) : Nat → Int32 := fun j => if j + 1 < c then f (j + 1) else f j
theorem setQ_id {i c : Nat} {v m : Nat → Int32} (h : isQ I i c v m) : setQ I i c v m = I := by
  funext n j
  unfold setQ
  split
  · next g => rw [g.1, g.2, h.1]
  · split
    · next g => rw [g, h.2.1]
    · split
      · next g => rw [g, h.2.2]
      · rfl
theorem setQ_c {i c : Nat} {v m : Nat → Int32} : setQ I i c v m (16, i, 0) 4 = nI c := if_pos ⟨rfl, rfl⟩
theorem setQ_v {i c k : Nat} {v m : Nat → Int32} : setQ I i c v m (17, i, 0) k = v k := by simp [setQ]
theorem setQ_m {i c k : Nat} {v m : Nat → Int32} : setQ I i c v m (18, i, 0) k = m k := by simp [setQ]
theorem setQ_o {i c : Nat} {v m : Nat → Int32} {n : Nm} {j : Nat} (h1 : ¬ (n = (16, i, 0) ∧ j = 4)) (h2 : n ≠ (17, i, 0)) (h3 : n ≠ (18, i, 0)) : setQ I i c v m n j = I n j := by rw [setQ, if_neg h1, if_neg h2, if_neg h3]
theorem setQ_uc {i c d : Nat} {v m : Nat → Int32} : up (setQ I i c v m) (16, i, 0) 4 (nI d) = setQ I i d v m := by
  funext n j; unfold up setQ; split <;> rfl
theorem setQ_uv {i c k : Nat} {x : Int32} {v m : Nat → Int32} : up (setQ I i c v m) (17, i, 0) k x = setQ I i c (fu v k x) m := by
  funext n j; unfold up setQ fu
  by_cases h : n = (17, i, 0)
  · subst h; simp
  · simp [h]
theorem setQ_um {i c k : Nat} {x : Int32} {v m : Nat → Int32} : up (setQ I i c v m) (18, i, 0) k x = setQ I i c v (fu m k x) := by
  funext n j; unfold up setQ fu
  by_cases h : n = (18, i, 0)
  · subst h; simp
  · simp [h]
theorem c_append {i c : Nat} {v m : Nat → Int32} {x y : Int32} (hi : i < gT p) (hc : c < 4) (hy : zb y) {Q : PH → Prop} (h : Q (S p (setQ I i (c + 1) (fu v c x) (fu m c y)) J)) : w3_append (16, i, 0) x y (S p (setQ I i c v m) J) Q := by
  unfold w3_append
  simp only [hK_S, hL_S, hR_S, hI_S, kq16 hi, setQ_c]
  refine ⟨trivial, fun q => absurd q ?_, fun _ => ⟨_, rq162 hi, kq17 hi, ?_, ?_⟩⟩
  · rw [show (4 : Int32) = nI 4 from rfl, nI_leI (by omega) (by omega)]; omega
  · rw [lq17 hi, vin_nI (by omega) (by omega)]; exact hc
  · rw [forall_eq, nI_clamp (by omega), sI_S, setQ_uv]
    refine ⟨_, rq163 hi, kq18 hi, ?_, hy, ?_⟩
    · rw [hI_S, setQ_c, lq18 hi, vin_nI (by omega) (by omega)]; exact hc
    · rw [forall_eq, hI_S, setQ_c, nI_clamp (by omega), sI_S, setQ_um, forall_eq, hI_S, setQ_c, nI_1, sI_S, setQ_uc]
      exact h
theorem sh_step {f : Nat → Int32} {k : Nat} (hk : 1 ≤ k) : fu (sh f k) (k - 1) (sh f k k) = sh f (k + 1) := by
  funext j; unfold fu sh
  by_cases h : j = k - 1
  · rw [if_pos h, if_neg (by omega), if_pos (by omega)]; congr 1; omega
  · rw [if_neg h]
    by_cases g : j + 1 < k
    · rw [if_pos g, if_pos (by omega)]
    · rw [if_neg g, if_neg (by omega)]
theorem sh_1 {f : Nat → Int32} : sh f 1 = f := by funext j; unfold sh; rw [if_neg (by omega)]
theorem sh_zb {f : Nat → Int32} {c : Nat} (h : ∀ k, zb (f k)) (k : Nat) : zb (sh f c k) := by unfold sh; split <;> exact h _
theorem fu_zb {f : Nat → Int32} {c : Nat} {x : Int32} (h : ∀ k, zb (f k)) (hx : zb x) (k : Nat) : zb (fu f c x k) := by unfold fu; split; exact hx; exact h _
end
