/-! The start: the class's object, the model's, the long cell. -/
def p0 : PP := (0, 0, fun _ => 0, fun _ => 0, fun _ => 0, fun _ _ => 0)
def Kc (a : Nm) : Nat := if a.1 < 20 then Kf p0 a else 0
def Lc (a : Nm) : Nat := if a.1 < 20 then Lf p0 a else 0
def Rc (a : Nm) (b : Nat) : Option Nm := if a.1 < 20 then Rf p0 a b else none
/-- the model with its rows below r -/
def M0 (r : Nat) : PH := (fun a => if a.1 = 20 then (if a.2.1 = 0 ∧ a.2.2 = 0 then 8 else 0) else if a.1 = 21 then (if a.2.2 = 0 ∧ a.2.1 < r then mK a.2.1 else 0) else Kc a, fun a => if a.1 = 21 then (if a.2.2 = 0 ∧ a.2.1 < r then mL a.2.1 else 0) else Lc a, fun _ _ => 0, fun a b => if a.1 = 20 then (if a.2.1 = 0 ∧ a.2.2 = 0 ∧ b < r ∧ mK b ≠ 0 then some ((21, b, 0) : Nm) else none) else if a.1 = 21 then none else Rc a b, fun _ _ => 0)
theorem PH_eq {σ τ : PH} (h1 : hK σ = hK τ) (h2 : hL σ = hL τ) (h3 : hI σ = hI τ) (h4 : hR σ = hR τ) (h5 : hJ σ = hJ τ) : σ = τ := by
  obtain ⟨a, b, c, d, e⟩ := σ
  obtain ⟨a', b', c', d', e'⟩ := τ
  simp only [hK, hL, hI, hR, hJ] at *
  subst h1; subst h2; subst h3; subst h4; subst h5; rfl
theorem m_row (r : Nat) (hr : mK r ≠ 0) : sR (sN (M0 r) (21, r, 0) (mK r) (mL r)) (20, 0, 0) r (some (21, r, 0)) = M0 (r + 1) := by
  refine PH_eq ?_ ?_ ?_ ?_ ?_
  · funext a
    obtain ⟨x, k, z⟩ := a
    show (if ((x, k, z) : Nm) = (21, r, 0) then mK r else if x = 20 then (if k = 0 ∧ z = 0 then 8 else 0) else if x = 21 then (if z = 0 ∧ k < r then mK k else 0) else Kc (x, k, z)) = (if x = 20 then (if k = 0 ∧ z = 0 then 8 else 0) else if x = 21 then (if z = 0 ∧ k < r + 1 then mK k else 0) else Kc (x, k, z))
    by_cases e : x = 21
    · subst e
      by_cases g : k = r ∧ z = 0
      · obtain ⟨rfl, rfl⟩ := g; simp
      · have n : ¬ ((21, k, z) : Nm) = (21, r, 0) := fun q => g (by simp only [Prod.mk.injEq] at q; exact q.2)
        rw [if_neg n]
        have : (z = 0 ∧ k < r + 1) ↔ (z = 0 ∧ k < r) := by omega
        simp [this]
    · have n : ¬ ((x, k, z) : Nm) = (21, r, 0) := fun q => e (by simp only [Prod.mk.injEq] at q; exact q.1)
      rw [if_neg n, if_neg e, if_neg e]
  · funext a
    obtain ⟨x, k, z⟩ := a
    show (if ((x, k, z) : Nm) = (21, r, 0) then mL r else if x = 21 then (if z = 0 ∧ k < r then mL k else 0) else Lc (x, k, z)) = (if x = 21 then (if z = 0 ∧ k < r + 1 then mL k else 0) else Lc (x, k, z))
    by_cases e : x = 21
    · subst e
      by_cases g : k = r ∧ z = 0
      · obtain ⟨rfl, rfl⟩ := g; simp
      · have n : ¬ ((21, k, z) : Nm) = (21, r, 0) := fun q => g (by simp only [Prod.mk.injEq] at q; exact q.2)
        rw [if_neg n]
        have : (z = 0 ∧ k < r + 1) ↔ (z = 0 ∧ k < r) := by omega
        simp [this]
    · have n : ¬ ((x, k, z) : Nm) = (21, r, 0) := fun q => e (by simp only [Prod.mk.injEq] at q; exact q.1)
      rw [if_neg n, if_neg e, if_neg e]
  · funext a b
    show (if a = (21, r, 0) then (0 : Int32) else 0) = 0
    split <;> rfl
  · funext a b
    obtain ⟨x, k, z⟩ := a
    show (if ((x, k, z) : Nm) = (20, 0, 0) ∧ b = r then some ((21, r, 0) : Nm) else if ((x, k, z) : Nm) = (21, r, 0) then none else if x = 20 then (if k = 0 ∧ z = 0 ∧ b < r ∧ mK b ≠ 0 then some ((21, b, 0) : Nm) else none) else if x = 21 then none else Rc (x, k, z) b) = (if x = 20 then (if k = 0 ∧ z = 0 ∧ b < r + 1 ∧ mK b ≠ 0 then some ((21, b, 0) : Nm) else none) else if x = 21 then none else Rc (x, k, z) b)
    by_cases e : x = 20
    · subst e
      by_cases g : k = 0 ∧ z = 0
      · obtain ⟨rfl, rfl⟩ := g
        by_cases w : b = r
        · subst w; simp [hr]
        · have : b < r + 1 ↔ b < r := by omega
          simp [w, this]
      · have n : ¬ (((20, k, z) : Nm) = (20, 0, 0) ∧ b = r) := fun q => g (by have := q.1; simp only [Prod.mk.injEq] at this; exact this.2)
        have n2 : ¬ (k = 0 ∧ z = 0 ∧ b < r ∧ mK b ≠ 0) := fun q => g ⟨q.1, q.2.1⟩
        have n3 : ¬ (k = 0 ∧ z = 0 ∧ b < r + 1 ∧ mK b ≠ 0) := fun q => g ⟨q.1, q.2.1⟩
        rw [if_neg n, if_neg n2, if_neg n3]
        simp
    · have n : ¬ (((x, k, z) : Nm) = (20, 0, 0) ∧ b = r) := fun q => e (by have := q.1; simp only [Prod.mk.injEq] at this; exact this.1)
      rw [if_neg n, if_neg e, if_neg e]
      by_cases w : x = 21
      · rw [if_pos w]; split <;> rfl
      · have n2 : ¬ ((x, k, z) : Nm) = (21, r, 0) := fun q => w (by simp only [Prod.mk.injEq] at q; exact q.1)
        rw [if_neg n2]
  · funext a b
    show (if a = (21, r, 0) then (0 : Int64) else 0) = 0
    split <;> rfl
theorem m_skip (r : Nat) (hr : mK r = 0) (hl : mL r = 0) : M0 r = M0 (r + 1) := by
  have key : ∀ {k : Nat} {f : Nat → Nat} {z : Nat}, f r = 0 → (if z = 0 ∧ k < r then f k else 0) = (if z = 0 ∧ k < r + 1 then f k else 0) := by
    intro k f z h
    by_cases e : k = r
    · subst e; simp [h]
    · have : k < r + 1 ↔ k < r := by omega
      simp [this]
  refine PH_eq ?_ ?_ rfl ?_ rfl
  · funext a
    show (if a.1 = 20 then (if a.2.1 = 0 ∧ a.2.2 = 0 then 8 else 0) else if a.1 = 21 then (if a.2.2 = 0 ∧ a.2.1 < r then mK a.2.1 else 0) else Kc a) = (if a.1 = 20 then (if a.2.1 = 0 ∧ a.2.2 = 0 then 8 else 0) else if a.1 = 21 then (if a.2.2 = 0 ∧ a.2.1 < r + 1 then mK a.2.1 else 0) else Kc a)
    rw [key hr]
  · funext a
    show (if a.1 = 21 then (if a.2.2 = 0 ∧ a.2.1 < r then mL a.2.1 else 0) else Lc a) = (if a.1 = 21 then (if a.2.2 = 0 ∧ a.2.1 < r + 1 then mL a.2.1 else 0) else Lc a)
    rw [key hl]
  · funext a b
    show (if a.1 = 20 then (if a.2.1 = 0 ∧ a.2.2 = 0 ∧ b < r ∧ mK b ≠ 0 then some ((21, b, 0) : Nm) else none) else if a.1 = 21 then none else Rc a b) = (if a.1 = 20 then (if a.2.1 = 0 ∧ a.2.2 = 0 ∧ b < r + 1 ∧ mK b ≠ 0 then some ((21, b, 0) : Nm) else none) else if a.1 = 21 then none else Rc a b)
    by_cases e : b = r
    · subst e; simp [hr]
    · have : b < r + 1 ↔ b < r := by omega
      simp [this]
theorem m_free {r k : Nat} (h : r ≤ k) : hK (M0 r) (21, k, 0) = 0 := by
  show (if 21 = 20 then (if k = 0 ∧ 0 = 0 then 8 else 0) else if 21 = 21 then (if 0 = 0 ∧ k < r then mK k else 0) else Kc (21, k, 0)) = 0
  rw [if_neg (by decide), if_pos rfl, if_neg (by omega)]
theorem m_init {Q : PH → Prop} (h : Q (M0 35)) : w7_init (20, 0, 0) (M0 0) Q := by
  rw [m_skip 0 rfl rfl, m_skip 1 rfl rfl]
  unfold w7_init
  refine ⟨(21, 2, 0), m_free (Nat.le_refl _), by decide, ?_⟩
  rw [forall_eq]
  refine ⟨rfl, ?_⟩
  rw [forall_eq, show sR (sN (M0 2) (21, 2, 0) 9 10) (20, 0, 0) 2 (some (21, 2, 0)) = M0 (2 + 1) from m_row 2 (by decide)]
  rw [m_skip 3 rfl rfl]
  refine ⟨(21, 4, 0), m_free (Nat.le_refl _), ?_⟩
  rw [forall_eq, forall_eq, show sR (sN (M0 4) (21, 4, 0) 10 4) (20, 0, 0) 4 (some (21, 4, 0)) = M0 (4 + 1) from m_row 4 (by decide)]
  refine ⟨(21, 5, 0), m_free (Nat.le_refl _), ?_⟩
  rw [forall_eq, forall_eq, show sR (sN (M0 5) (21, 5, 0) 9 4) (20, 0, 0) 5 (some (21, 5, 0)) = M0 (5 + 1) from m_row 5 (by decide)]
  refine ⟨(21, 6, 0), m_free (Nat.le_refl _), ?_⟩
  rw [forall_eq, forall_eq, show sR (sN (M0 6) (21, 6, 0) 9 4) (20, 0, 0) 6 (some (21, 6, 0)) = M0 (6 + 1) from m_row 6 (by decide)]
  refine ⟨(21, 7, 0), m_free (Nat.le_refl _), ?_⟩
  rw [forall_eq, forall_eq, show sR (sN (M0 7) (21, 7, 0) 9 4) (20, 0, 0) 7 (some (21, 7, 0)) = M0 (7 + 1) from m_row 7 (by decide)]
  refine ⟨(21, 8, 0), m_free (Nat.le_refl _), ?_⟩
  rw [forall_eq, forall_eq, show sR (sN (M0 8) (21, 8, 0) 9 4) (20, 0, 0) 8 (some (21, 8, 0)) = M0 (8 + 1) from m_row 8 (by decide)]
  refine ⟨(21, 9, 0), m_free (Nat.le_refl _), ?_⟩
  rw [forall_eq, forall_eq, show sR (sN (M0 9) (21, 9, 0) 9 4) (20, 0, 0) 9 (some (21, 9, 0)) = M0 (9 + 1) from m_row 9 (by decide)]
  refine ⟨(21, 10, 0), m_free (Nat.le_refl _), ?_⟩
  rw [forall_eq, forall_eq, show sR (sN (M0 10) (21, 10, 0) 9 4) (20, 0, 0) 10 (some (21, 10, 0)) = M0 (10 + 1) from m_row 10 (by decide)]
  refine ⟨(21, 11, 0), m_free (Nat.le_refl _), ?_⟩
  rw [forall_eq, forall_eq, show sR (sN (M0 11) (21, 11, 0) 9 4) (20, 0, 0) 11 (some (21, 11, 0)) = M0 (11 + 1) from m_row 11 (by decide)]
  refine ⟨(21, 12, 0), m_free (Nat.le_refl _), ?_⟩
  rw [forall_eq, forall_eq, show sR (sN (M0 12) (21, 12, 0) 9 4) (20, 0, 0) 12 (some (21, 12, 0)) = M0 (12 + 1) from m_row 12 (by decide)]
  refine ⟨(21, 13, 0), m_free (Nat.le_refl _), ?_⟩
  rw [forall_eq, forall_eq, show sR (sN (M0 13) (21, 13, 0) 9 4) (20, 0, 0) 13 (some (21, 13, 0)) = M0 (13 + 1) from m_row 13 (by decide)]
  refine ⟨(21, 14, 0), m_free (Nat.le_refl _), ?_⟩
  rw [forall_eq, forall_eq, show sR (sN (M0 14) (21, 14, 0) 9 4) (20, 0, 0) 14 (some (21, 14, 0)) = M0 (14 + 1) from m_row 14 (by decide)]
  rw [m_skip 15 rfl rfl]
  refine ⟨(21, 16, 0), m_free (Nat.le_refl _), ?_⟩
  rw [forall_eq, forall_eq, show sR (sN (M0 16) (21, 16, 0) 9 16) (20, 0, 0) 16 (some (21, 16, 0)) = M0 (16 + 1) from m_row 16 (by decide)]
  refine ⟨(21, 17, 0), m_free (Nat.le_refl _), ?_⟩
  rw [forall_eq, forall_eq, show sR (sN (M0 17) (21, 17, 0) 9 16) (20, 0, 0) 17 (some (21, 17, 0)) = M0 (17 + 1) from m_row 17 (by decide)]
  refine ⟨(21, 18, 0), m_free (Nat.le_refl _), ?_⟩
  rw [forall_eq, forall_eq, show sR (sN (M0 18) (21, 18, 0) 9 16) (20, 0, 0) 18 (some (21, 18, 0)) = M0 (18 + 1) from m_row 18 (by decide)]
  refine ⟨(21, 19, 0), m_free (Nat.le_refl _), ?_⟩
  rw [forall_eq, forall_eq, show sR (sN (M0 19) (21, 19, 0) 9 16) (20, 0, 0) 19 (some (21, 19, 0)) = M0 (19 + 1) from m_row 19 (by decide)]
  refine ⟨(21, 20, 0), m_free (Nat.le_refl _), ?_⟩
  rw [forall_eq, forall_eq, show sR (sN (M0 20) (21, 20, 0) 9 16) (20, 0, 0) 20 (some (21, 20, 0)) = M0 (20 + 1) from m_row 20 (by decide)]
  refine ⟨(21, 21, 0), m_free (Nat.le_refl _), ?_⟩
  rw [forall_eq, forall_eq, show sR (sN (M0 21) (21, 21, 0) 10 16) (20, 0, 0) 21 (some (21, 21, 0)) = M0 (21 + 1) from m_row 21 (by decide)]
  refine ⟨(21, 22, 0), m_free (Nat.le_refl _), ?_⟩
  rw [forall_eq, forall_eq, show sR (sN (M0 22) (21, 22, 0) 9 16) (20, 0, 0) 22 (some (21, 22, 0)) = M0 (22 + 1) from m_row 22 (by decide)]
  refine ⟨(21, 23, 0), m_free (Nat.le_refl _), ?_⟩
  rw [forall_eq, forall_eq, show sR (sN (M0 23) (21, 23, 0) 10 16) (20, 0, 0) 23 (some (21, 23, 0)) = M0 (23 + 1) from m_row 23 (by decide)]
  refine ⟨(21, 24, 0), m_free (Nat.le_refl _), ?_⟩
  rw [forall_eq, forall_eq, show sR (sN (M0 24) (21, 24, 0) 9 16) (20, 0, 0) 24 (some (21, 24, 0)) = M0 (24 + 1) from m_row 24 (by decide)]
  refine ⟨(21, 25, 0), m_free (Nat.le_refl _), ?_⟩
  rw [forall_eq, forall_eq, show sR (sN (M0 25) (21, 25, 0) 9 16) (20, 0, 0) 25 (some (21, 25, 0)) = M0 (25 + 1) from m_row 25 (by decide)]
  refine ⟨(21, 26, 0), m_free (Nat.le_refl _), ?_⟩
  rw [forall_eq, forall_eq, show sR (sN (M0 26) (21, 26, 0) 9 16) (20, 0, 0) 26 (some (21, 26, 0)) = M0 (26 + 1) from m_row 26 (by decide)]
  refine ⟨(21, 27, 0), m_free (Nat.le_refl _), ?_⟩
  rw [forall_eq, forall_eq, show sR (sN (M0 27) (21, 27, 0) 9 16) (20, 0, 0) 27 (some (21, 27, 0)) = M0 (27 + 1) from m_row 27 (by decide)]
  refine ⟨(21, 28, 0), m_free (Nat.le_refl _), ?_⟩
  rw [forall_eq, forall_eq, show sR (sN (M0 28) (21, 28, 0) 9 64) (20, 0, 0) 28 (some (21, 28, 0)) = M0 (28 + 1) from m_row 28 (by decide)]
  refine ⟨(21, 29, 0), m_free (Nat.le_refl _), ?_⟩
  rw [forall_eq, forall_eq, show sR (sN (M0 29) (21, 29, 0) 10 64) (20, 0, 0) 29 (some (21, 29, 0)) = M0 (29 + 1) from m_row 29 (by decide)]
  refine ⟨(21, 30, 0), m_free (Nat.le_refl _), ?_⟩
  rw [forall_eq, forall_eq, show sR (sN (M0 30) (21, 30, 0) 9 20) (20, 0, 0) 30 (some (21, 30, 0)) = M0 (30 + 1) from m_row 30 (by decide)]
  refine ⟨(21, 31, 0), m_free (Nat.le_refl _), ?_⟩
  rw [forall_eq, forall_eq, show sR (sN (M0 31) (21, 31, 0) 9 20) (20, 0, 0) 31 (some (21, 31, 0)) = M0 (31 + 1) from m_row 31 (by decide)]
  refine ⟨(21, 32, 0), m_free (Nat.le_refl _), ?_⟩
  rw [forall_eq, forall_eq, show sR (sN (M0 32) (21, 32, 0) 9 200) (20, 0, 0) 32 (some (21, 32, 0)) = M0 (32 + 1) from m_row 32 (by decide)]
  refine ⟨(21, 33, 0), m_free (Nat.le_refl _), ?_⟩
  rw [forall_eq, forall_eq, show sR (sN (M0 33) (21, 33, 0) 9 200) (20, 0, 0) 33 (some (21, 33, 0)) = M0 (33 + 1) from m_row 33 (by decide)]
  refine ⟨(21, 34, 0), m_free (Nat.le_refl _), ?_⟩
  rw [forall_eq, forall_eq, show sR (sN (M0 34) (21, 34, 0) 10 200) (20, 0, 0) 34 (some (21, 34, 0)) = M0 (34 + 1) from m_row 34 (by decide)]
  exact h
