/-! The start: the class's object, the law's rows. -/
def p0 : PP := (0, 0, fun _ => 0, fun _ => 0, fun _ => 0, fun _ _ => 0)
def Kc (a : Nm) : Nat := if a.1 < 20 then Kf p0 a else 0
def Lc (a : Nm) : Nat := if a.1 < 20 then Lf p0 a else 0
def Rc (a : Nm) (b : Nat) : Option Nm := if a.1 < 20 then Rf p0 a b else none
theorem PH_eq {σ τ : PH} (h1 : hK σ = hK τ) (h2 : hL σ = hL τ) (h3 : hI σ = hI τ) (h4 : hR σ = hR τ) (h5 : hJ σ = hJ τ) : σ = τ := by
  obtain ⟨a, b, c, d, e⟩ := σ
  obtain ⟨a', b', c', d', e'⟩ := τ
  simp only [hK, hL, hI, hR, hJ] at *
  subst h1; subst h2; subst h3; subst h4; subst h5; rfl
theorem hK_E : hK sE = fun _ => 0 := rfl
theorem hL_E : hL sE = fun _ => 0 := rfl
theorem hI_E : hI sE = fun _ _ => 0 := rfl
theorem hR_E : hR sE = fun _ _ => none := rfl
theorem hJ_E : hJ sE = fun _ _ => 0 := rfl
def C0 : PH := (Kc, Lc, fun _ _ => 0, Rc, fun _ _ => 0)
theorem Kc_of {r k z : Nat} (h : r < 20) : Kc (r, k, z) = Kf p0 (r, k, z) := if_pos h
theorem Lc_of {r k z : Nat} (h : r < 20) : Lc (r, k, z) = Lf p0 (r, k, z) := if_pos h
theorem Rc_of {r k z b : Nat} (h : r < 20) : Rc (r, k, z) b = Rf p0 (r, k, z) b := if_pos h
theorem Kc_no {r k z : Nat} (h : ¬ r < 20) : Kc (r, k, z) = 0 := if_neg h
theorem Lc_no {r k z : Nat} (h : ¬ r < 20) : Lc (r, k, z) = 0 := if_neg h
theorem Rc_no {r k z b : Nat} (h : ¬ r < 20) : Rc (r, k, z) b = none := if_neg h
theorem Kf0 {r k z : Nat} (h : 5 < r) (g : r ≠ 23) : Kf p0 (r, k, z) = 0 := by
  unfold Kf
  split <;> first | rfl | (rename_i w; have w' : r = _ := w; omega) | exact if_neg (fun q => absurd q.1 (Nat.not_lt_zero _))
theorem Lf0 {r k z : Nat} (h : 5 < r) (g : r ≠ 23) : Lf p0 (r, k, z) = 0 := by
  unfold Lf
  split <;> first | rfl | (rename_i w; have w' : r = _ := w; omega) | exact if_neg (fun q => absurd q.1 (Nat.not_lt_zero _))
theorem Rf0 {r k z b : Nat} (h : r ≠ 0) (h4 : r ≠ 4) : Rf p0 (r, k, z) b = none := by
  unfold Rf
  split <;> first | rfl | (rename_i w; have w' : r = _ := w; omega) | exact if_neg (fun q => absurd q.1 (Nat.not_lt_zero _)) | exact if_neg (fun q => absurd q.2 (Nat.not_lt_zero _)) | exact if_neg (fun q => absurd q.2.2 (Nat.not_lt_zero _))
theorem P_goal {σ τ : PH} {Q : PH → Prop} (e : σ = τ) (h : Q τ) : Q σ := by rw [e]; exact h
theorem C_K (a : Nm) : (if a = (5, 2, 0) then 9 else if a = (5, 1, 0) then 9 else if a = (5, 0, 0) then 9 else if a = (4, 0, 0) then 1 else if a = (3, 0, 0) then 11 else if a = (2, 1, 0) then 13 else if a = (2, 0, 0) then 13 else if a = (1, 0, 0) then 9 else if a = (0, 0, 0) then 7 else 0) = Kc a := by
  obtain ⟨r, k, z⟩ := a
  simp only [Prod.mk.injEq]
  by_cases h0 : r = 0
  · subst h0; rw [Kc_of (by decide), show Kf p0 (0, k, z) = if k = 0 ∧ z = 0 then 7 else 0 from rfl]; simp
  by_cases h1 : r = 1
  · subst h1; rw [Kc_of (by decide), show Kf p0 (1, k, z) = if k = 0 ∧ z = 0 then 9 else 0 from rfl]; simp
  by_cases h2 : r = 2
  · subst h2; rw [Kc_of (by decide), show Kf p0 (2, k, z) = if k < 2 ∧ z = 0 then 13 else 0 from rfl]
    by_cases z0 : z = 0
    · by_cases k0 : k = 0
      · subst k0; simp [z0]
      · by_cases k1 : k = 1
        · subst k1; simp [z0]
        · have : ¬ k < 2 := by omega
          simp [k0, k1, this]
    · simp [z0]
  by_cases h3 : r = 3
  · subst h3; rw [Kc_of (by decide), show Kf p0 (3, k, z) = if k = 0 ∧ z = 0 then 11 else 0 from rfl]; simp
  by_cases h4 : r = 4
  · subst h4; rw [Kc_of (by decide), show Kf p0 (4, k, z) = if k = 0 ∧ z = 0 then 1 else 0 from rfl]; simp
  by_cases h5 : r = 5
  · subst h5; rw [Kc_of (by decide), show Kf p0 (5, k, z) = if k < 3 ∧ z = 0 then 9 else 0 from rfl]
    by_cases z0 : z = 0
    · by_cases k0 : k = 0
      · subst k0; simp [z0]
      · by_cases k1 : k = 1
        · subst k1; simp [z0]
        · by_cases k2 : k = 2
          · subst k2; simp [z0]
          · have : ¬ k < 3 := by omega
            simp [k0, k1, k2, this]
    · simp [z0]
  simp only [h0, h1, h2, h3, h4, h5, false_and, if_false]
  by_cases g : r < 20
  · rw [Kc_of g, Kf0 (by omega) (by omega)]
  · rw [Kc_no g]
theorem C_L (a : Nm) : (if a = (5, 2, 0) then 512 else if a = (5, 1, 0) then 512 else if a = (5, 0, 0) then 512 else if a = (4, 0, 0) then 0 else if a = (3, 0, 0) then 16 else if a = (2, 1, 0) then 4 else if a = (2, 0, 0) then 4 else if a = (1, 0, 0) then 10 else if a = (0, 0, 0) then 0 else 0) = Lc a := by
  obtain ⟨r, k, z⟩ := a
  simp only [Prod.mk.injEq]
  by_cases h0 : r = 0
  · subst h0; rw [Lc_of (by decide), show Lf p0 (0, k, z) = 0 from rfl]; simp
  by_cases h1 : r = 1
  · subst h1; rw [Lc_of (by decide), show Lf p0 (1, k, z) = if k = 0 ∧ z = 0 then 10 else 0 from rfl]; simp
  by_cases h2 : r = 2
  · subst h2; rw [Lc_of (by decide), show Lf p0 (2, k, z) = if k < 2 ∧ z = 0 then 4 else 0 from rfl]
    by_cases z0 : z = 0
    · by_cases k0 : k = 0
      · subst k0; simp [z0]
      · by_cases k1 : k = 1
        · subst k1; simp [z0]
        · have : ¬ k < 2 := by omega
          simp [k0, k1, this]
    · simp [z0]
  by_cases h3 : r = 3
  · subst h3; rw [Lc_of (by decide), show Lf p0 (3, k, z) = if k = 0 ∧ z = 0 then 16 else 0 from rfl]; simp
  by_cases h4 : r = 4
  · subst h4; rw [Lc_of (by decide), show Lf p0 (4, k, z) = 0 from rfl]; simp
  by_cases h5 : r = 5
  · subst h5; rw [Lc_of (by decide), show Lf p0 (5, k, z) = if k < 3 ∧ z = 0 then 512 else 0 from rfl]
    by_cases z0 : z = 0
    · by_cases k0 : k = 0
      · subst k0; simp [z0]
      · by_cases k1 : k = 1
        · subst k1; simp [z0]
        · by_cases k2 : k = 2
          · subst k2; simp [z0]
          · have : ¬ k < 3 := by omega
            simp [k0, k1, k2, this]
    · simp [z0]
  simp only [h0, h1, h2, h3, h4, h5, false_and, if_false]
  by_cases g : r < 20
  · rw [Lc_of g, Lf0 (by omega) (by omega)]
  · rw [Lc_no g]
theorem C_R (a : Nm) (b : Nat) : (if a = (0, 0, 0) ∧ b = 4 then some ((4, 0, 0) : Nm) else if a = (4, 0, 0) ∧ b = 2 then some (5, 2, 0) else if a = (5, 2, 0) then none else if a = (4, 0, 0) ∧ b = 1 then some (5, 1, 0) else if a = (5, 1, 0) then none else if a = (4, 0, 0) ∧ b = 0 then some (5, 0, 0) else if a = (5, 0, 0) then none else if a = (4, 0, 0) then none else if a = (0, 0, 0) ∧ b = 3 then some (3, 0, 0) else if a = (3, 0, 0) then none else if a = (0, 0, 0) ∧ b = 2 then some (2, 1, 0) else if a = (2, 1, 0) then none else if a = (0, 0, 0) ∧ b = 1 then some (2, 0, 0) else if a = (2, 0, 0) then none else if a = (0, 0, 0) ∧ b = 0 then some (1, 0, 0) else if a = (1, 0, 0) then none else if a = (0, 0, 0) then none else none) = Rc a b := by
  obtain ⟨r, k, z⟩ := a
  simp only [Prod.mk.injEq]
  by_cases h0 : r = 0
  · subst h0
    rw [Rc_of (by decide), show Rf p0 (0, k, z) b = if k = 0 ∧ z = 0 then (if b = 0 then some ((1, 0, 0) : Nm) else if b = 1 then some (2, 0, 0) else if b = 2 then some (2, 1, 0) else if b = 3 then some (3, 0, 0) else if b = 4 then some (4, 0, 0) else none) else none from rfl]
    by_cases e : k = 0 ∧ z = 0
    · by_cases b0 : b = 0
      · subst b0; simp [e]
      · by_cases b1 : b = 1
        · subst b1; simp [e]
        · by_cases b2 : b = 2
          · subst b2; simp [e]
          · by_cases b3 : b = 3
            · subst b3; simp [e]
            · by_cases b4 : b = 4
              · subst b4; simp [e]
              · simp [e, b0, b1, b2, b3, b4]
    · simp [e]
  by_cases h4 : r = 4
  · subst h4
    rw [Rc_of (by decide), show Rf p0 (4, k, z) b = if k = 0 ∧ z = 0 ∧ b < 3 then some ((5, b, 0) : Nm) else none from rfl]
    by_cases e : k = 0 ∧ z = 0
    · by_cases b0 : b = 0
      · subst b0; simp [e]
      · by_cases b1 : b = 1
        · subst b1; simp [e]
        · by_cases b2 : b = 2
          · subst b2; simp [e]
          · have : ¬ b < 3 := by omega
            simp [b0, b1, b2, this]
    · have e2 : ¬ (k = 0 ∧ z = 0 ∧ b < 3) := fun q => e ⟨q.1, q.2.1⟩
      rw [if_neg e2]; simp [e]
  have hr : Rc (r, k, z) b = none := by
    by_cases g : r < 20
    · rw [Rc_of g, Rf0 h0 h4]
    · rw [Rc_no g]
  rw [hr]
  simp [h0, h4]
set_option maxHeartbeats 4000000 in
theorem c_init {Q : PH → Prop} (h : Q C0) : w6_init (0, 0, 0) (sN sE (0, 0, 0) 7 0) Q := by
  unfold w6_init
  refine ⟨(1, 0, 0), by simp [hK_sN, hK_E], by simp [hK_sN], ?_⟩
  rw [forall_eq]
  refine ⟨by simp [hK_sN], ?_⟩
  rw [forall_eq]
  refine ⟨(2, 0, 0), by simp [hK_sN, hK_sR, hK_E], ?_⟩
  rw [forall_eq, forall_eq]
  refine ⟨(2, 1, 0), by simp [hK_sN, hK_sR, hK_E], ?_⟩
  rw [forall_eq, forall_eq]
  refine ⟨(3, 0, 0), by simp [hK_sN, hK_sR, hK_E], ?_⟩
  rw [forall_eq, forall_eq]
  refine ⟨(4, 0, 0), by simp [hK_sN, hK_sR, hK_E], ?_⟩
  rw [forall_eq]
  unfold w0_init
  refine ⟨(5, 0, 0), by simp [hK_sN, hK_sR, hK_E], by simp [hK_sN], ?_⟩
  rw [forall_eq]
  refine ⟨by simp [hK_sN], ?_⟩
  rw [forall_eq]
  refine ⟨(5, 1, 0), by simp [hK_sN, hK_sR, hK_E], ?_⟩
  rw [forall_eq, forall_eq]
  refine ⟨(5, 2, 0), by simp [hK_sN, hK_sR, hK_E], ?_⟩
  rw [forall_eq, forall_eq, forall_eq, forall_eq, forall_eq, forall_eq, forall_eq, forall_eq]
  refine P_goal (Q := Q) (τ := C0) (PH_eq ?_ ?_ ?_ ?_ ?_) h
  · funext a; exact C_K a
  · funext a; exact C_L a
  · funext a b
    show _ = (0 : Int32)
    simp [hI_sI, hI_sN, hI_sR, hI_E]
  · funext a b; exact C_R a b
  · funext a b
    show _ = (0 : Int64)
    simp [hJ_sI, hJ_sN, hJ_sR, hJ_E]
/-- the class's object, and the law's rows below r -/
def L0 (r : Nat) : PH := (fun a => if a.1 = 23 then (if a.2.2 = 0 ∧ a.2.1 < r then 9 else 0) else Kc a, fun a => if a.1 = 23 then (if a.2.2 = 0 ∧ a.2.1 < r then lwL a.2.1 else 0) else Lc a, fun _ _ => 0, Rc, fun _ _ => 0)
theorem l_row (r : Nat) : sN (L0 r) (23, r, 0) 9 (lwL r) = L0 (r + 1) := by
  have key : ∀ (f : Nat → Nat) (g : Nm → Nat) (a : Nm), (if a = (23, r, 0) then f r else if a.1 = 23 then (if a.2.2 = 0 ∧ a.2.1 < r then f a.2.1 else 0) else g a) = (if a.1 = 23 then (if a.2.2 = 0 ∧ a.2.1 < r + 1 then f a.2.1 else 0) else g a) := by
    intro f g a
    obtain ⟨x, k, z⟩ := a
    by_cases e : x = 23
    · subst e
      by_cases w : k = r ∧ z = 0
      · obtain ⟨rfl, rfl⟩ := w; simp
      · have n : ¬ ((23, k, z) : Nm) = (23, r, 0) := fun q => w (by simp only [Prod.mk.injEq] at q; exact q.2)
        rw [if_neg n]
        have : (z = 0 ∧ k < r + 1) ↔ (z = 0 ∧ k < r) := by omega
        simp [this]
    · have n : ¬ ((x, k, z) : Nm) = (23, r, 0) := fun q => e (by simp only [Prod.mk.injEq] at q; exact q.1)
      rw [if_neg n, if_neg e, if_neg e]
  refine PH_eq ?_ ?_ ?_ ?_ ?_
  · funext a; exact key (fun _ => 9) Kc a
  · funext a; exact key lwL Lc a
  · funext a b
    show (if a = (23, r, 0) then (0 : Int32) else 0) = 0
    split <;> rfl
  · funext a b
    show (if a = (23, r, 0) then none else Rc a b) = Rc a b
    by_cases e : a = (23, r, 0)
    · rw [if_pos e, e, Rc_no (by decide)]
    · rw [if_neg e]
  · funext a b
    show (if a = (23, r, 0) then (0 : Int64) else 0) = 0
    split <;> rfl
theorem l_free {r k : Nat} (h : r ≤ k) : hK (L0 r) (23, k, 0) = 0 := by
  show (if 23 = 23 then (if 0 = 0 ∧ k < r then 9 else 0) else Kc (23, k, 0)) = 0
  rw [if_pos rfl, if_neg (by omega)]
theorem C0_L0 : C0 = L0 0 := by
  refine PH_eq ?_ ?_ rfl rfl rfl
  · funext a
    obtain ⟨x, k, z⟩ := a
    show Kc (x, k, z) = (if x = 23 then (if z = 0 ∧ k < 0 then 9 else 0) else Kc (x, k, z))
    by_cases e : x = 23
    · subst e; rw [Kc_no (by decide)]; simp
    · rw [if_neg e]
  · funext a
    obtain ⟨x, k, z⟩ := a
    show Lc (x, k, z) = (if x = 23 then (if z = 0 ∧ k < 0 then lwL k else 0) else Lc (x, k, z))
    by_cases e : x = 23
    · subst e; rw [Lc_no (by decide)]; simp
    · rw [if_neg e]
theorem lwL_hi {k : Nat} (h : 12 ≤ k) : lwL k = 0 := by
  unfold lwL
  rw [if_neg (by omega), if_neg (by omega), if_neg (by omega), if_neg (by omega), if_neg (by omega), if_neg (by omega)]
theorem L0_S : L0 12 = S p0 (fun _ _ => 0) (fun _ _ => 0) := by
  refine PH_eq ?_ ?_ rfl ?_ rfl
  · funext a
    obtain ⟨x, k, z⟩ := a
    show (if x = 23 then (if z = 0 ∧ k < 12 then 9 else 0) else Kc (x, k, z)) = Kf p0 (x, k, z)
    by_cases e : x = 23
    · subst e
      rw [if_pos rfl, show Kf p0 (23, k, z) = if k < 12 ∧ z = 0 then 9 else 0 from rfl]
      have : (z = 0 ∧ k < 12) ↔ (k < 12 ∧ z = 0) := by omega
      simp only [this]
    · rw [if_neg e]
      by_cases g : x < 20
      · exact Kc_of g
      · rw [Kc_no g, Kf0 (by omega) e]
  · funext a
    obtain ⟨x, k, z⟩ := a
    show (if x = 23 then (if z = 0 ∧ k < 12 then lwL k else 0) else Lc (x, k, z)) = Lf p0 (x, k, z)
    by_cases e : x = 23
    · subst e
      rw [if_pos rfl, show Lf p0 (23, k, z) = if z = 0 then lwL k else 0 from rfl]
      by_cases w : k < 12
      · simp [w]
      · simp [w, lwL_hi (show 12 ≤ k by omega)]
    · rw [if_neg e]
      by_cases g : x < 20
      · exact Lc_of g
      · rw [Lc_no g, Lf0 (by omega) e]
  · funext a b
    obtain ⟨x, k, z⟩ := a
    show Rc (x, k, z) b = Rf p0 (x, k, z) b
    by_cases g : x < 20
    · exact Rc_of g
    · rw [Rc_no g, Rf0 (by omega) (by omega)]
theorem LI_0 : LI 0 p0 (fun _ _ => 0) := by
  have z0 : (0 : Int32) = nI 0 := rfl
  have no : ∀ {i : Nat} {A : Prop}, i < 0 → A := fun h => absurd h (Nat.not_lt_zero _)
  have g0 : gS p0 = 0 := rfl
  have g1 : gT p0 = 0 := rfl
  refine ⟨0, ⟨⟨?_, fun i hi => no hi, fun s hs => no hs⟩, ?_, fun i hi => no hi, fun s hs => no hs, fun s hs => no hs, rfl, ?_, by omega⟩, ?_, fun i hi => no hi, ?_⟩
  · exact ⟨rfl, by rw [g0]; omega, rfl, by rw [g1]; omega, fun k _ => ⟨0, by omega, by omega, rfl⟩, fun i hi => no hi, ⟨0, by omega, by omega, rfl⟩, ⟨0, by omega, by omega, rfl⟩, ⟨0, by omega, by omega, rfl⟩⟩
  · exact ⟨⟨rfl, rfl, rfl, rfl, fun _ _ => rfl⟩, fun s hs => no hs, fun i hi => no hi, fun _ _ _ _ _ _ => rfl, fun _ _ _ _ _ => rfl, fun _ _ _ _ _ _ => rfl, fun _ _ _ _ _ => ⟨rfl, rfl⟩⟩
  · exact ⟨fun _ => 0, fun s hs => no hs, fun t ht => no ht, fun u v hu => no hu⟩
  · have e : hC (fun _ _ => 0) = 0 := rfl
    refine ⟨rfl, fun k hk => ?_, fun nd _ => ?_⟩
    · rw [e] at hk; exact no hk
    · rw [e]; rfl
  · exact Nat.le_refl _
theorem LX_0 : LX 0 p0 (fun _ _ => 0) := by
  have no : ∀ {i : Nat} {A : Prop}, i < 0 → A := fun h => absurd h (Nat.not_lt_zero _)
  refine LX.m (B := fun _ _ => 0) (fun _ _ _ => rfl) LI_0 ⟨Nat.zero_le _, Nat.zero_le _, fun i hi => no hi, fun s hs => no hs, fun i hi => no hi⟩ ⟨fun _ _ => rfl, fun _ _ _ _ => rfl, fun i hi => no hi, fun _ _ => Or.inl ⟨rfl, rfl⟩, rfl, rfl, rfl, rfl⟩
set_option maxHeartbeats 4000000 in
theorem law_holds {L : Nat} {xs : Nat → Int32} {Q : Int32 → PH → Prop} (hL : L ≤ 260) : wL_law L xs sE Q := by
  unfold wL_law
  refine ⟨(0, 0, 0), rfl, ?_⟩
  rw [forall_eq]
  refine c_init ?_
  rw [C0_L0]
  refine ⟨(23, 0, 0), l_free (Nat.le_refl _), ?_⟩
  rw [forall_eq, show sN (L0 0) (23, 0, 0) 9 3 = L0 (0 + 1) from l_row 0]
  refine ⟨(23, 1, 0), l_free (Nat.le_refl _), ?_⟩
  rw [forall_eq, show sN (L0 1) (23, 1, 0) 9 22 = L0 (1 + 1) from l_row 1]
  refine ⟨(23, 2, 0), l_free (Nat.le_refl _), ?_⟩
  rw [forall_eq, show sN (L0 2) (23, 2, 0) 9 10 = L0 (2 + 1) from l_row 2]
  refine ⟨(23, 3, 0), l_free (Nat.le_refl _), ?_⟩
  rw [forall_eq, show sN (L0 3) (23, 3, 0) 9 10 = L0 (3 + 1) from l_row 3]
  refine ⟨(23, 4, 0), l_free (Nat.le_refl _), ?_⟩
  rw [forall_eq, show sN (L0 4) (23, 4, 0) 9 10 = L0 (4 + 1) from l_row 4]
  refine ⟨(23, 5, 0), l_free (Nat.le_refl _), ?_⟩
  rw [forall_eq, show sN (L0 5) (23, 5, 0) 9 10 = L0 (5 + 1) from l_row 5]
  refine ⟨(23, 6, 0), l_free (Nat.le_refl _), ?_⟩
  rw [forall_eq, show sN (L0 6) (23, 6, 0) 9 10 = L0 (6 + 1) from l_row 6]
  refine ⟨(23, 7, 0), l_free (Nat.le_refl _), ?_⟩
  rw [forall_eq, show sN (L0 7) (23, 7, 0) 9 10 = L0 (7 + 1) from l_row 7]
  refine ⟨(23, 8, 0), l_free (Nat.le_refl _), ?_⟩
  rw [forall_eq, show sN (L0 8) (23, 8, 0) 9 40 = L0 (8 + 1) from l_row 8]
  refine ⟨(23, 9, 0), l_free (Nat.le_refl _), ?_⟩
  rw [forall_eq, show sN (L0 9) (23, 9, 0) 9 10 = L0 (9 + 1) from l_row 9]
  refine ⟨(23, 10, 0), l_free (Nat.le_refl _), ?_⟩
  rw [forall_eq, show sN (L0 10) (23, 10, 0) 9 60 = L0 (10 + 1) from l_row 10]
  refine ⟨(23, 11, 0), l_free (Nat.le_refl _), ?_⟩
  rw [forall_eq, show sN (L0 11) (23, 11, 0) 9 4 = L0 (11 + 1) from l_row 11]
  rw [show L0 (11 + 1) = S p0 (fun _ _ => 0) (fun _ _ => 0) from L0_S]
  refine x_isTold LX_0 (by decide) ⟨fun _ => ⟨141, Nat.le_refl _, ?_⟩, fun z => absurd z (by decide)⟩
  exact law_loop (xs := xs) (Q := Q) hL 141 0 p0 (fun _ _ => 0) (fun _ _ => 0) (by omega) (by omega) LX_0
