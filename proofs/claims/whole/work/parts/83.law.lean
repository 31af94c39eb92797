/-! The law holds. -/
theorem C0_M0 : sN C0 (20, 0, 0) 8 0 = M0 0 := by
  refine PH_eq ?_ ?_ ?_ ?_ ?_
  · funext a
    obtain ⟨r, k, z⟩ := a
    show (if ((r, k, z) : Nm) = (20, 0, 0) then 8 else Kc (r, k, z)) = (if r = 20 then (if k = 0 ∧ z = 0 then 8 else 0) else if r = 21 then (if z = 0 ∧ k < 0 then mK k else 0) else Kc (r, k, z))
    simp only [Prod.mk.injEq]
    by_cases h : r = 20
    · subst h; rw [Kc_no (by decide)]; simp
    · by_cases g : r = 21
      · subst g; rw [Kc_no (by decide)]; simp
      · simp [h, g]
  · funext a
    obtain ⟨r, k, z⟩ := a
    show (if ((r, k, z) : Nm) = (20, 0, 0) then 0 else Lc (r, k, z)) = (if r = 21 then (if z = 0 ∧ k < 0 then mL k else 0) else Lc (r, k, z))
    simp only [Prod.mk.injEq]
    by_cases h : r = 20
    · subst h; rw [Lc_no (by decide)]; simp
    · by_cases g : r = 21
      · subst g; rw [Lc_no (by decide)]; simp
      · simp [h, g]
  · funext a b
    show (if a = (20, 0, 0) then (0 : Int32) else 0) = 0
    split <;> rfl
  · funext a b
    obtain ⟨r, k, z⟩ := a
    show (if ((r, k, z) : Nm) = (20, 0, 0) then none else Rc (r, k, z) b) = (if r = 20 then (if k = 0 ∧ z = 0 ∧ b < 0 ∧ mK b ≠ 0 then some ((21, b, 0) : Nm) else none) else if r = 21 then none else Rc (r, k, z) b)
    simp only [Prod.mk.injEq]
    by_cases h : r = 20
    · subst h; rw [Rc_no (by decide)]; simp
    · by_cases g : r = 21
      · subst g; rw [Rc_no (by decide)]; simp
      · simp [h, g]
  · funext a b
    show (if a = (20, 0, 0) then (0 : Int64) else 0) = 0
    split <;> rfl
theorem mK_hi {k : Nat} (h : 35 ≤ k) : mK k = 0 := by
  unfold mK
  rw [if_neg (by omega), if_neg (by omega)]
theorem mL_hi {k : Nat} (h : 35 ≤ k) : mL k = 0 := by
  unfold mL
  rw [if_neg (by omega), if_neg (by omega), if_neg (by omega), if_neg (by omega), if_neg (by omega), if_neg (by omega)]
theorem M0_S : sN (M0 35) (22, 0, 0) 14 1 = S p0 (fun _ _ => 0) (fun _ _ => 0) := by
  refine PH_eq ?_ ?_ ?_ ?_ ?_
  · funext a
    obtain ⟨r, k, z⟩ := a
    show (if ((r, k, z) : Nm) = (22, 0, 0) then 14 else if r = 20 then (if k = 0 ∧ z = 0 then 8 else 0) else if r = 21 then (if z = 0 ∧ k < 35 then mK k else 0) else Kc (r, k, z)) = Kf p0 (r, k, z)
    simp only [Prod.mk.injEq]
    by_cases h : r = 20
    · subst h
      rw [show Kf p0 (20, k, z) = if k = 0 ∧ z = 0 then 8 else 0 from rfl]; simp
    · by_cases g : r = 21
      · subst g
        rw [show Kf p0 (21, k, z) = if z = 0 then mK k else 0 from rfl]
        by_cases w : k < 35
        · simp [w]
        · simp [w, mK_hi (show 35 ≤ k by omega)]
      · by_cases w : r = 22
        · subst w
          rw [show Kf p0 (22, k, z) = if k = 0 ∧ z = 0 then 14 else 0 from rfl, Kc_no (by decide)]; simp
        · simp only [h, g, w, false_and, if_false]
          by_cases q : r < 20
          · rw [Kc_of q]
          · rw [Kc_no q, Kf0 (by omega) (Or.inr (by omega))]
  · funext a
    obtain ⟨r, k, z⟩ := a
    show (if ((r, k, z) : Nm) = (22, 0, 0) then 1 else if r = 21 then (if z = 0 ∧ k < 35 then mL k else 0) else Lc (r, k, z)) = Lf p0 (r, k, z)
    simp only [Prod.mk.injEq]
    by_cases g : r = 21
    · subst g
      rw [show Lf p0 (21, k, z) = if z = 0 then mL k else 0 from rfl]
      by_cases w : k < 35
      · simp [w]
      · simp [w, mL_hi (show 35 ≤ k by omega)]
    · by_cases w : r = 22
      · subst w
        rw [show Lf p0 (22, k, z) = if k = 0 ∧ z = 0 then 1 else 0 from rfl, Lc_no (by decide)]; simp
      · simp only [g, w, false_and, if_false]
        by_cases q : r < 20
        · rw [Lc_of q]
        · rw [Lc_no q]
          by_cases q2 : r = 20
          · subst q2; rfl
          · rw [Lf0 (by omega) (Or.inr (by omega))]
  · funext a b
    show (if a = (22, 0, 0) then (0 : Int32) else 0) = 0
    split <;> rfl
  · funext a b
    obtain ⟨r, k, z⟩ := a
    show (if ((r, k, z) : Nm) = (22, 0, 0) then none else if r = 20 then (if k = 0 ∧ z = 0 ∧ b < 35 ∧ mK b ≠ 0 then some ((21, b, 0) : Nm) else none) else if r = 21 then none else Rc (r, k, z) b) = Rf p0 (r, k, z) b
    simp only [Prod.mk.injEq]
    by_cases h : r = 20
    · subst h
      rw [show Rf p0 (20, k, z) b = if k = 0 ∧ z = 0 ∧ mK b ≠ 0 then some ((21, b, 0) : Nm) else none from rfl]
      by_cases w : b < 35
      · simp [w]
      · simp [w, mK_hi (show 35 ≤ b by omega)]
    · by_cases w0 : r = 0
      · subst w0; rw [Rc_of (by decide)]; simp
      · by_cases w4 : r = 4
        · subst w4; rw [Rc_of (by decide)]; simp
        · rw [Rf0 w0 w4 h]
          by_cases q : r < 20
          · rw [Rc_of q, Rf0 w0 w4 h]; simp [h]
          · rw [Rc_no q]; simp [h]
  · funext a b
    show (if a = (22, 0, 0) then (0 : Int64) else 0) = 0
    split <;> rfl
theorem LI_0 : LI 0 p0 (fun _ _ => 0) := by
  have z0 : (0 : Int32) = nI 0 := rfl
  have no : ∀ {i : Nat} {A : Prop}, i < 0 → A := fun h => absurd h (Nat.not_lt_zero _)
  have g0 : gS p0 = 0 := rfl
  have g1 : gT p0 = 0 := rfl
  refine ⟨0, ⟨⟨?_, fun i hi => no hi, fun s hs => no hs⟩, ?_, fun i hi => no hi, fun s hs => no hs, fun s hs => no hs, rfl, ?_, by omega⟩, ?_, fun i hi => no hi, ?_⟩
  · exact ⟨rfl, by rw [g0]; omega, rfl, by rw [g1]; omega, fun k _ => ⟨0, by omega, by omega, rfl⟩, fun i hi => no hi, ⟨0, by omega, by omega, rfl⟩, ⟨0, by omega, by omega, rfl⟩, ⟨0, by omega, by omega, rfl⟩⟩
  · exact ⟨⟨rfl, rfl, rfl, rfl, fun _ _ => rfl⟩, fun s hs => no hs, fun i hi => no hi, fun _ _ _ _ _ _ => rfl, fun _ _ _ _ _ => rfl, fun _ _ _ _ _ _ => rfl, fun _ _ _ _ _ => ⟨rfl, rfl⟩⟩
  · exact ⟨fun _ => 0, fun s hs => no hs, fun t ht => no ht, fun u v hu => no hu⟩
  · have e : hC (fun _ _ => 0) = 0 := rfl
    refine ⟨rfl, fun k hk => ?_, fun nd _ => ?_⟩
    · rw [e] at hk; exact no hk
    · rw [e]; rfl
  · exact Nat.le_refl _
theorem law_holds {L : Nat} {xs : Nat → Int32} {Q : Int32 → PH → Prop} (hL : L ≤ 3584) : wL_law L xs sE Q := by
  unfold wL_law
  refine ⟨(0, 0, 0), rfl, ?_⟩
  rw [forall_eq]
  refine c_init ⟨(20, 0, 0), rfl, ?_⟩
  rw [forall_eq, C0_M0]
  refine m_init ⟨(22, 0, 0), rfl, ?_⟩
  rw [forall_eq, M0_S]
  refine ⟨513, Nat.le_refl _, ?_⟩
  have := law_loop (xs := xs) (Q := Q) hL 513 0 p0 (fun _ _ => 0) (fun _ _ => 0) (by omega) (by omega) LI_0
  exact this
