/-! The model's sampling. -/
theorem MX.item {p : PP} {a a' b b' : IF} {i : Nat} (h : MX p a b) (hi : i < gT p) (ha : ∀ n j, n.2.1 ≠ i ∨ n.1 < 14 → a' n j = a n j) (hb1 : ∀ n j, n.1 = 20 ∨ (n.1 = 21 ∧ (n.2.1 < 25 ∨ 29 < n.2.1)) → b' n j = b n j) (hb2 : ∀ k j, 25 ≤ k → k ≤ 27 → j ≠ i → b' (21, k, 0) j = b (21, k, 0) j) (hb3 : ∀ k j, k = 28 ∨ k = 29 → ¬ (4 * i ≤ j ∧ j < 4 * i + 4) → b' (21, k, 0) j = b (21, k, 0) j) (hI : MI p a' b' i) : MX p a' b' := by
  obtain ⟨h1, h2, h3, h4⟩ := h
  have b20 : ∀ j, b' (20, 0, 0) j = b (20, 0, 0) j := fun j => hb1 _ j (Or.inl rfl)
  have bl : ∀ k j, k < 25 ∨ 29 < k → b' (21, k, 0) j = b (21, k, 0) j := fun k j g => hb1 _ j (Or.inr ⟨rfl, g⟩)
  have al : ∀ r k o j, r < 14 → a' (r, k, o) j = a (r, k, o) j := fun r k o j g => ha _ j (Or.inr g)
  refine ⟨?_, fun s hs => ⟨?_, ?_⟩, fun k hk => ?_, ?_⟩
  · unfold MG at *
    simp only [b20, bl 2 _ (by omega), al 0 _ _ _ (by omega), al 1 _ _ _ (by omega)]
    exact h1
  · have g := (h2 s hs).1
    unfold MS at *
    simp only [bl 4 _ (by omega), bl 6 _ (by omega), bl 7 _ (by omega), bl 8 _ (by omega), bl 9 _ (by omega), bl 10 _ (by omega), bl 11 _ (by omega), bl 12 _ (by omega), bl 13 _ (by omega), bl 14 _ (by omega), al 6 _ _ _ (by omega), al 7 _ _ _ (by omega)]
    exact g
  · have g := (h2 s hs).2
    unfold MM at *
    simp only [bl 30 _ (by omega), bl 31 _ (by omega), bl 32 _ (by omega), bl 33 _ (by omega), bl 34 _ (by omega), al 6 _ _ _ (by omega), al 10 _ _ _ (by omega), al 11 _ _ _ (by omega), al 12 _ _ _ (by omega), al 13 _ _ _ (by omega)]
    exact g
  · by_cases e : k = i
    · subst e; exact hI
    · have g := h3 k hk
      have ai : ∀ r j, a' (r, k, 0) j = a (r, k, 0) j := fun r j => ha _ j (Or.inl e)
      unfold MI at *
      simp only [ai, bl 16 _ (by omega), bl 17 _ (by omega), bl 18 _ (by omega), bl 19 _ (by omega), bl 20 _ (by omega), bl 21 _ (by omega), bl 22 _ (by omega), bl 23 _ (by omega), bl 24 _ (by omega), hb2 25 _ (by omega) (by omega) e, hb2 26 _ (by omega) (by omega) e, hb2 27 _ (by omega) (by omega) e]
      obtain ⟨g1, g2, g3, g4, g5, g6, g7, g8, g9, g10, g11, g12, g13, g14⟩ := g
      refine ⟨g1, g2, g3, g4, g5, g6, g7, g8, g9, g10, g11, g12, fun q hq => ?_, fun q hq => ?_⟩
      · rw [hb3 28 _ (by omega) (by omega)]; exact g13 q hq
      · rw [hb3 29 _ (by omega) (by omega)]; exact g14 q hq
  · obtain ⟨z1, z2, z3, z4⟩ := h4
    refine ⟨fun k s g1 g2 g3 g4 => ?_, fun s k g1 g2 g3 => ?_, fun k j g1 g2 g3 g4 => ?_, fun j k g1 g2 g3 => ⟨?_, ?_⟩⟩
    · rw [bl k _ (by omega)]; exact z1 k s g1 g2 g3 g4
    · rw [bl 30 _ (by omega)]; exact z2 s k g1 g2 g3
    · by_cases e : k < 25
      · rw [bl k _ (by omega)]; exact z3 k j g1 g2 g3 g4
      · rw [hb2 k _ (by omega) (by omega) (by omega)]; exact z3 k j g1 g2 g3 g4
    · rw [hb3 28 _ (by omega) (by omega)]; exact (z4 j k g1 g2 g3).1
    · rw [hb3 29 _ (by omega) (by omega)]; exact (z4 j k g1 g2 g3).2
theorem enqR_o {I : IF} {i sz c : Nat} {d x : Int32} {v m : Nat → Int32} {n : Nm} {j : Nat} (h : n ≠ (21, 25, 0) ∨ j ≠ i) (h' : n ≠ (21, 26, 0) ∨ j ≠ i) (h7 : n ≠ (21, 27, 0) ∨ j ≠ i) (h8 : n ≠ (21, 28, 0) ∨ ¬ (4 * i ≤ j ∧ j < 4 * i + 4)) (h9 : n ≠ (21, 29, 0) ∨ ¬ (4 * i ≤ j ∧ j < 4 * i + 4)) : enqR I i sz c d v m x n j = I n j := by
  have g : ∀ {A B : Prop}, (¬ A ∨ ¬ B) → ¬ (A ∧ B) := fun g q => g.elim (fun z => z q.1) (fun z => z q.2)
  rw [enqR, setR_o (g h7) (g h8) (g h9), up_ne (g h), up_ne (g h')]
theorem nm_ne {r k z r' k' z' : Nat} (h : r ≠ r' ∨ k ≠ k') : ((r, k, z) : Nm) ≠ (r', k', z') := by
  intro e; simp only [Prod.mk.injEq] at e; omega
theorem MX_enq {p : PP} {a b : IF} {i sz c : Nat} {d x : Int32} (h : MX p a b) (hi : i < gT p) (h0 : a (16, i, 0) 0 = nI sz) : MX p (enq a i sz c d (fun k => a (17, i, 0) k) (fun k => a (18, i, 0) k) x) (enqR b i sz c d (fun k => a (17, i, 0) k) (fun k => a (18, i, 0) k) x) := by
  have hM := h.2.2.1 i hi
  refine MX.item h hi (fun n j g => enq_o (by rcases g with g | g; exact Or.inl g; exact Or.inr (Or.inl g))) (fun n j g => ?_) (fun k j g1 g2 g3 => ?_) (fun k j g1 g2 => ?_) ?_
  · obtain ⟨r, k, z⟩ := n
    simp only at g
    exact enqR_o (Or.inl (nm_ne (by omega))) (Or.inl (nm_ne (by omega))) (Or.inl (nm_ne (by omega))) (Or.inl (nm_ne (by omega))) (Or.inl (nm_ne (by omega)))
  · exact enqR_o (Or.inr g3) (Or.inr g3) (Or.inr g3) (Or.inl (nm_ne (by omega))) (Or.inl (nm_ne (by omega)))
  · exact enqR_o (Or.inl (nm_ne (by omega))) (Or.inl (nm_ne (by omega))) (Or.inl (nm_ne (by omega))) (Or.inr g2) (Or.inr g2)
  · obtain ⟨g1, g2, g3, g4, g5, g6, g7, g8, g9, g10, g11, g12, g13, g14⟩ := hM
    have o : ∀ {n : Nm} {j : Nat}, n ≠ (16, i, 0) → n ≠ (17, i, 0) → n ≠ (18, i, 0) → ¬ (n = (14, i, 0) ∧ (j = 9 ∨ j = 8)) → enq a i sz c d (fun k => a (17, i, 0) k) (fun k => a (18, i, 0) k) x n j = a n j := by
      intro n j q1 q2 q3 q4
      rw [enq, up_ne (fun q => q4 ⟨q.1, Or.inr q.2⟩), up_ne (fun q => q4 ⟨q.1, Or.inl q.2⟩), setQ_o (fun q => q1 q.1) q2 q3]
    have oR : ∀ {k j : Nat}, k < 25 → enqR b i sz c d (fun k => a (17, i, 0) k) (fun k => a (18, i, 0) k) x (21, k, 0) j = b (21, k, 0) j := fun q => enqR_o (Or.inl (nm_ne (by omega))) (Or.inl (nm_ne (by omega))) (Or.inl (nm_ne (by omega))) (Or.inl (nm_ne (by omega))) (Or.inl (nm_ne (by omega)))
    refine ⟨?_, ?_, ?_, ?_, ?_, ?_, ?_, ?_, ?_, ?_, ?_, ?_, fun k hk => ?_, fun k hk => ?_⟩
    · rw [oR (by decide)]; exact g1
    · rw [oR (by decide), o (by simp) (by simp) (by simp) (by simp)]; exact g2
    · rw [oR (by decide), o (by simp) (by simp) (by simp) (by simp)]; exact g3
    · rw [oR (by decide), o (by simp) (by simp) (by simp) (by simp)]; exact g4
    · rw [oR (by decide), enq, up_ne (by simp), up_ne (by simp), setQ_o (by simp) (by simp) (by simp)]; exact g5
    · rw [oR (by decide), enq, up_ne (by simp), up_ne (by simp), setQ_o (by simp) (by simp) (by simp)]; exact g6
    · rw [oR (by decide), o (by simp) (by simp) (by simp) (by simp)]; exact g7
    · rw [oR (by decide), o (by simp) (by simp) (by simp) (by simp)]; exact g8
    · rw [oR (by decide), o (by simp) (by simp) (by simp) (by simp)]; exact g9
    · rw [enqR, setR_on (by simp) (by simp) (by simp), up_same, enq, up_nj (by decide), up_same]
    · rw [enqR, setR_on (by simp) (by simp) (by simp), up_ne (by simp), up_same, enq, up_same, g11]
    · rw [enqR, setR_c, enq, up_ne (by simp), up_ne (by simp), setQ_c]
    · rw [enqR, setR_v hk, enq, up_ne (by simp), up_ne (by simp), setQ_v]
    · rw [enqR, setR_m hk, enq, up_ne (by simp), up_ne (by simp), setQ_m]
/-- what the model's steps leave -/
def FR (b b' : IF) : Prop := ∀ n j, n.1 < 20 ∨ (n.1 = 20 ∧ j = 0) ∨ (n.1 = 21 ∧ n.2.1 = 5) ∨ n.1 = 22 → b' n j = b n j
theorem FR.rf {b : IF} : FR b b := fun _ _ _ => rfl
theorem FR.tr {a b c : IF} (h : FR a b) (g : FR b c) : FR a c := fun n j q => (g n j q).trans (h n j q)
theorem FR_enqR {I : IF} {i sz c : Nat} {d x : Int32} {v m : Nat → Int32} : FR I (enqR I i sz c d v m x) := by
  intro n j q
  obtain ⟨r, k, z⟩ := n
  simp only at q
  exact enqR_o (Or.inl (nm_ne (by omega))) (Or.inl (nm_ne (by omega))) (Or.inl (nm_ne (by omega))) (Or.inl (nm_ne (by omega))) (Or.inl (nm_ne (by omega)))
theorem MX_tick {p : PP} {a b : IF} {i : Nat} {v : Int32} (h : MX p a b) (hi : i < gT p) : MX p (up a (15, i, 0) 1 v) b := by
  refine MX.item h hi (fun n j g => ?_) (fun _ _ _ => rfl) (fun _ _ _ _ _ => rfl) (fun _ _ _ _ => rfl) ?_
  · refine up_ne (fun q => ?_)
    rw [q.1] at g; simp at g
  · have hM := h.2.2.1 i hi
    unfold MI at *
    simpa [up] using hM
/-- an item of an open subscription stands at the time t -/
def TI (p : PP) (a : IF) (i t : Nat) : Prop := a (6, gW p i, 0) 7 = 0 ∨ (TM (a (15, i, 0) 0) (a (15, i, 0) 1) (a (14, i, 0) 10) t ∧ bn (a (14, i, 0) 8) 1 (1 + t))
theorem TI_samA {p : PP} {a : IF} {i t : Nat} (ht : t + 1 ≤ 5000) (h : TI p a i t) : TI p (samA p a i) i (t + 1) := by
  unfold TI
  rw [samA_o (n := (6, gW p i, 0)) (Or.inr (Or.inl (show 6 < 14 by decide)))]
  rcases h with h | h
  · exact Or.inl h
  · by_cases e : a (6, gW p i, 0) 7 = 0
    · exact Or.inl e
    · refine Or.inr ?_
      obtain ⟨s1, s2, -⟩ := h.1.step ht
      obtain ⟨q, q1, q2, q3⟩ := h.2
      unfold samA
      rw [if_neg e]
      by_cases g : a (15, i, 0) 1 - 1 ≤ 0
      · rw [if_pos g] at s2
        rw [if_pos g]
        split
        · refine ⟨?_, ?_⟩
          · rw [enq, up_ne (by simp), up_ne (by simp), setQ_o (by simp) (by simp) (by simp), up_nj (by decide), up_nj (by decide), up_ne (by simp), up_ne (by simp), setQ_o (by simp) (by simp) (by simp), up_same, up_nj (by decide), up_nj (by decide), setQ_o (by simp) (by simp) (by simp), up_ne (by simp), up_ne (by simp)]
            exact s2
          · rw [enq, up_same, up_ne (by simp), up_ne (by simp), q3, nI_1]
            exact bn_nI (by omega) (by omega)
        · refine ⟨?_, ?_⟩
          · rw [up_nj (by decide), up_nj (by decide), up_same, up_ne (by simp), up_ne (by simp)]; exact s2
          · rw [up_ne (by simp), up_ne (by simp), q3]; exact bn_nI (by omega) (by omega)
      · rw [if_neg g] at s2
        rw [if_neg g]
        refine ⟨?_, ?_⟩
        · rw [up_nj (by decide), up_same, up_ne (by simp)]; exact s2
        · rw [up_ne (by simp), q3]; exact bn_nI (by omega) (by omega)
