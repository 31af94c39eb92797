/-! The start: the class's object; what holds before the first call; the law. -/
theorem hK_E : hK sE = fun _ => 0 := rfl
theorem hL_E : hL sE = fun _ => 0 := rfl
theorem hI_E : hI sE = fun _ _ => 0 := rfl
theorem hR_E : hR sE = fun _ _ => none := rfl
theorem hJ_E : hJ sE = fun _ _ => 0 := rfl
def C0 : PH := (Kc, Lc, fun _ _ => 0, Rc, fun _ _ => 0)
theorem Kc_of {r k z : Nat} (h : r < 20) : Kc (r, k, z) = Kf p0 (r, k, z) := if_pos h
theorem Lc_of {r k z : Nat} (h : r < 20) : Lc (r, k, z) = Lf p0 (r, k, z) := if_pos h
theorem Rc_of {r k z b : Nat} (h : r < 20) : Rc (r, k, z) b = Rf p0 (r, k, z) b := if_pos h
theorem Kc_no {r k z : Nat} (h : ¬ r < 20) : Kc (r, k, z) = 0 := if_neg h
theorem Lc_no {r k z : Nat} (h : ¬ r < 20) : Lc (r, k, z) = 0 := if_neg h
theorem Rc_no {r k z b : Nat} (h : ¬ r < 20) : Rc (r, k, z) b = none := if_neg h
theorem Kf0 {r k z : Nat} (h : 5 < r) (g : r < 20 ∨ 22 < r) : Kf p0 (r, k, z) = 0 := by
  unfold Kf
  split <;> first | rfl | (rename_i w; have w' : r = _ := w; omega) | exact if_neg (fun q => absurd q.1 (Nat.not_lt_zero _))
theorem Lf0 {r k z : Nat} (h : 5 < r) (g : r < 20 ∨ 22 < r) : Lf p0 (r, k, z) = 0 := by
  unfold Lf
  split <;> first | rfl | (rename_i w; have w' : r = _ := w; omega) | exact if_neg (fun q => absurd q.1 (Nat.not_lt_zero _))
theorem Rf0 {r k z b : Nat} (h : r ≠ 0) (h4 : r ≠ 4) (g : r ≠ 20) : Rf p0 (r, k, z) b = none := by
  unfold Rf
  split <;> first | rfl | (rename_i w; have w' : r = _ := w; omega) | exact if_neg (fun q => absurd q.1 (Nat.not_lt_zero _)) | exact if_neg (fun q => absurd q.2 (Nat.not_lt_zero _)) | exact if_neg (fun q => absurd q.2.2 (Nat.not_lt_zero _))
theorem P_goal {σ τ : PH} {Q : PH → Prop} (e : σ = τ) (h : Q τ) : Q σ := by rw [e]; exact h
theorem C_K (a : Nm) : (if a = (5, 2, 0) then 9 else if a = (5, 1, 0) then 9 else if a = (5, 0, 0) then 9 else if a = (4, 0, 0) then 1 else if a = (3, 0, 0) then 11 else if a = (2, 1, 0) then 13 else if a = (2, 0, 0) then 13 else if a = (1, 0, 0) then 9 else if a = (0, 0, 0) then 7 else 0) = Kc a := by
  obtain ⟨r, k, z⟩ := a
  simp only [Prod.mk.injEq]
  by_cases h0 : r = 0
  · subst h0; rw [Kc_of (by decide), show Kf p0 (0, k, z) = if k = 0 ∧ z = 0 then 7 else 0 from rfl]; simp
  by_cases h1 : r = 1
  · subst h1; rw [Kc_of (by decide), show Kf p0 (1, k, z) = if k = 0 ∧ z = 0 then 9 else 0 from rfl]; simp
  by_cases h2 : r = 2
  · subst h2; rw [Kc_of (by decide), show Kf p0 (2, k, z) = if k < 2 ∧ z = 0 then 13 else 0 from rfl]
    by_cases z0 : z = 0
    · by_cases k0 : k = 0
      · subst k0; simp [z0]
      · by_cases k1 : k = 1
        · subst k1; simp [z0]
        · have : ¬ k < 2 := by omega
          simp [k0, k1, this]
    · simp [z0]
  by_cases h3 : r = 3
  · subst h3; rw [Kc_of (by decide), show Kf p0 (3, k, z) = if k = 0 ∧ z = 0 then 11 else 0 from rfl]; simp
  by_cases h4 : r = 4
  · subst h4; rw [Kc_of (by decide), show Kf p0 (4, k, z) = if k = 0 ∧ z = 0 then 1 else 0 from rfl]; simp
  by_cases h5 : r = 5
  · subst h5; rw [Kc_of (by decide), show Kf p0 (5, k, z) = if k < 3 ∧ z = 0 then 9 else 0 from rfl]
    by_cases z0 : z = 0
    · by_cases k0 : k = 0
      · subst k0; simp [z0]
      · by_cases k1 : k = 1
        · subst k1; simp [z0]
        · by_cases k2 : k = 2
          · subst k2; simp [z0]
          · have : ¬ k < 3 := by omega
            simp [k0, k1, k2, this]
    · simp [z0]
  simp only [h0, h1, h2, h3, h4, h5, false_and, if_false]
  by_cases g : r < 20
  · rw [Kc_of g, Kf0 (by omega) (Or.inl g)]
  · rw [Kc_no g]
theorem C_L (a : Nm) : (if a = (5, 2, 0) then 512 else if a = (5, 1, 0) then 512 else if a = (5, 0, 0) then 512 else if a = (4, 0, 0) then 0 else if a = (3, 0, 0) then 16 else if a = (2, 1, 0) then 4 else if a = (2, 0, 0) then 4 else if a = (1, 0, 0) then 10 else if a = (0, 0, 0) then 0 else 0) = Lc a := by
  obtain ⟨r, k, z⟩ := a
  simp only [Prod.mk.injEq]
  by_cases h0 : r = 0
  · subst h0; rw [Lc_of (by decide), show Lf p0 (0, k, z) = 0 from rfl]; simp
  by_cases h1 : r = 1
  · subst h1; rw [Lc_of (by decide), show Lf p0 (1, k, z) = if k = 0 ∧ z = 0 then 10 else 0 from rfl]; simp
  by_cases h2 : r = 2
  · subst h2; rw [Lc_of (by decide), show Lf p0 (2, k, z) = if k < 2 ∧ z = 0 then 4 else 0 from rfl]
    by_cases z0 : z = 0
    · by_cases k0 : k = 0
      · subst k0; simp [z0]
      · by_cases k1 : k = 1
        · subst k1; simp [z0]
        · have : ¬ k < 2 := by omega
          simp [k0, k1, this]
    · simp [z0]
  by_cases h3 : r = 3
  · subst h3; rw [Lc_of (by decide), show Lf p0 (3, k, z) = if k = 0 ∧ z = 0 then 16 else 0 from rfl]; simp
  by_cases h4 : r = 4
  · subst h4; rw [Lc_of (by decide), show Lf p0 (4, k, z) = 0 from rfl]; simp
  by_cases h5 : r = 5
  · subst h5; rw [Lc_of (by decide), show Lf p0 (5, k, z) = if k < 3 ∧ z = 0 then 512 else 0 from rfl]
    by_cases z0 : z = 0
    · by_cases k0 : k = 0
      · subst k0; simp [z0]
      · by_cases k1 : k = 1
        · subst k1; simp [z0]
        · by_cases k2 : k = 2
          · subst k2; simp [z0]
          · have : ¬ k < 3 := by omega
            simp [k0, k1, k2, this]
    · simp [z0]
  simp only [h0, h1, h2, h3, h4, h5, false_and, if_false]
  by_cases g : r < 20
  · rw [Lc_of g, Lf0 (by omega) (Or.inl g)]
  · rw [Lc_no g]
theorem C_R (a : Nm) (b : Nat) : (if a = (0, 0, 0) ∧ b = 4 then some ((4, 0, 0) : Nm) else if a = (4, 0, 0) ∧ b = 2 then some (5, 2, 0) else if a = (5, 2, 0) then none else if a = (4, 0, 0) ∧ b = 1 then some (5, 1, 0) else if a = (5, 1, 0) then none else if a = (4, 0, 0) ∧ b = 0 then some (5, 0, 0) else if a = (5, 0, 0) then none else if a = (4, 0, 0) then none else if a = (0, 0, 0) ∧ b = 3 then some (3, 0, 0) else if a = (3, 0, 0) then none else if a = (0, 0, 0) ∧ b = 2 then some (2, 1, 0) else if a = (2, 1, 0) then none else if a = (0, 0, 0) ∧ b = 1 then some (2, 0, 0) else if a = (2, 0, 0) then none else if a = (0, 0, 0) ∧ b = 0 then some (1, 0, 0) else if a = (1, 0, 0) then none else if a = (0, 0, 0) then none else none) = Rc a b := by
  obtain ⟨r, k, z⟩ := a
  simp only [Prod.mk.injEq]
  by_cases h0 : r = 0
  · subst h0
    rw [Rc_of (by decide), show Rf p0 (0, k, z) b = if k = 0 ∧ z = 0 then (if b = 0 then some ((1, 0, 0) : Nm) else if b = 1 then some (2, 0, 0) else if b = 2 then some (2, 1, 0) else if b = 3 then some (3, 0, 0) else if b = 4 then some (4, 0, 0) else none) else none from rfl]
    by_cases e : k = 0 ∧ z = 0
    · by_cases b0 : b = 0
      · subst b0; simp [e]
      · by_cases b1 : b = 1
        · subst b1; simp [e]
        · by_cases b2 : b = 2
          · subst b2; simp [e]
          · by_cases b3 : b = 3
            · subst b3; simp [e]
            · by_cases b4 : b = 4
              · subst b4; simp [e]
              · simp [e, b0, b1, b2, b3, b4]
    · simp [e]
  by_cases h4 : r = 4
  · subst h4
    rw [Rc_of (by decide), show Rf p0 (4, k, z) b = if k = 0 ∧ z = 0 ∧ b < 3 then some ((5, b, 0) : Nm) else none from rfl]
    by_cases e : k = 0 ∧ z = 0
    · by_cases b0 : b = 0
      · subst b0; simp [e]
      · by_cases b1 : b = 1
        · subst b1; simp [e]
        · by_cases b2 : b = 2
          · subst b2; simp [e]
          · have : ¬ b < 3 := by omega
            simp [b0, b1, b2, this]
    · have e2 : ¬ (k = 0 ∧ z = 0 ∧ b < 3) := fun q => e ⟨q.1, q.2.1⟩
      rw [if_neg e2]; simp [e]
  have hr : Rc (r, k, z) b = none := by
    by_cases g : r < 20
    · rw [Rc_of g, Rf0 h0 h4 (by omega)]
    · rw [Rc_no g]
  rw [hr]
  simp [h0, h4]
set_option maxHeartbeats 4000000 in
theorem c_init {Q : PH → Prop} (h : Q C0) : w6_init (0, 0, 0) (sN sE (0, 0, 0) 7 0) Q := by
  unfold w6_init
  refine ⟨(1, 0, 0), by simp [hK_sN, hK_E], by simp [hK_sN], ?_⟩
  rw [forall_eq]
  refine ⟨by simp [hK_sN], ?_⟩
  rw [forall_eq]
  refine ⟨(2, 0, 0), by simp [hK_sN, hK_sR, hK_E], ?_⟩
  rw [forall_eq, forall_eq]
  refine ⟨(2, 1, 0), by simp [hK_sN, hK_sR, hK_E], ?_⟩
  rw [forall_eq, forall_eq]
  refine ⟨(3, 0, 0), by simp [hK_sN, hK_sR, hK_E], ?_⟩
  rw [forall_eq, forall_eq]
  refine ⟨(4, 0, 0), by simp [hK_sN, hK_sR, hK_E], ?_⟩
  rw [forall_eq]
  unfold w0_init
  refine ⟨(5, 0, 0), by simp [hK_sN, hK_sR, hK_E], by simp [hK_sN], ?_⟩
  rw [forall_eq]
  refine ⟨by simp [hK_sN], ?_⟩
  rw [forall_eq]
  refine ⟨(5, 1, 0), by simp [hK_sN, hK_sR, hK_E], ?_⟩
  rw [forall_eq, forall_eq]
  refine ⟨(5, 2, 0), by simp [hK_sN, hK_sR, hK_E], ?_⟩
  rw [forall_eq, forall_eq, forall_eq, forall_eq, forall_eq, forall_eq, forall_eq, forall_eq]
  refine P_goal (Q := Q) (τ := C0) (PH_eq ?_ ?_ ?_ ?_ ?_) h
  · funext a; exact C_K a
  · funext a; exact C_L a
  · funext a b
    show _ = (0 : Int32)
    simp [hI_sI, hI_sN, hI_sR, hI_E]
  · funext a b; exact C_R a b
  · funext a b
    show _ = (0 : Int64)
    simp [hJ_sI, hJ_sN, hJ_sR, hJ_E]
