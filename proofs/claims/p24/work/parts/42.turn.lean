/-! A subscription's turn: what it leaves, and the model's. -/
theorem Pub_fr {p p' : PP} {a a' : IF} {s : Nat} {r : Int32} (h : Pub p a s p' a' r) : (∀ n j, ¬ (n = (0, 0, 0) ∧ j = 7) → ¬ (n = (6, s, 0) ∧ (j = 7 ∨ 9 ≤ j)) → ¬ ((n.1 = 10 ∨ n.1 = 11 ∨ n.1 = 12 ∨ n.1 = 13) ∧ n.2.1 = s) → ¬ (n.1 = 16 ∨ n.1 = 17 ∨ n.1 = 18) → a' n j = a n j) ∧ (a' (6, s, 0) 7 = 0 ∨ a' (6, s, 0) 7 = a (6, s, 0) 7) ∧ (∀ u, u ≠ s → gP p' u = gP p u ∧ gM p' u = gM p u) := by
  obtain ⟨T, hT, h⟩ := h
  rcases h with ⟨-, -, rfl, rfl, rfl⟩ | ⟨-, ⟨-, rfl, rfl, rfl⟩ | ⟨e, rfl, -, rfl, rfl⟩ | ⟨e, rfl, e2, a1, o, K, hN, rfl, -⟩⟩
  · refine ⟨fun n j _ g _ _ => up_ne (fun w => g ⟨w.1, by omega⟩), Or.inr (up_nj (by decide)), fun _ _ => ⟨rfl, rfl⟩⟩
  · refine ⟨fun n j _ g _ _ => ?_, ?_, fun _ _ => ⟨rfl, rfl⟩⟩
    · unfold losA
      split
      · rw [up_ne (fun w => g ⟨w.1, by omega⟩), idl, up_ne (fun w => g ⟨w.1, by omega⟩)]
      · rw [up_ne (fun w => g ⟨w.1, by omega⟩), up_ne (fun w => g ⟨w.1, by omega⟩), idl, up_ne (fun w => g ⟨w.1, by omega⟩)]
    · unfold losA
      split
      · right; rw [up_nj (by decide), idl, up_nj (by decide)]
      · left; rw [up_same]
  · refine ⟨fun n j g0 g _ _ => ?_, Or.inr ?_, fun _ _ => ⟨rfl, rfl⟩⟩
    · rw [z23, up_ne (fun w => g ⟨w.1, by omega⟩), up_ne (fun w => g ⟨w.1, by omega⟩), up_ne (fun w => g ⟨w.1, by omega⟩), up_ne g0, idl, up_ne (fun w => g ⟨w.1, by omega⟩)]
    · rw [z23, up_nj (by decide), up_nj (by decide), up_nj (by decide), up_ne (by simp), idl, up_nj (by decide)]
  · obtain ⟨⟨m, π, rfl⟩, -, -, -, -, -, -, -, -, -, -, -, n13⟩ := hN
    refine ⟨fun n j g0 g g2 g3 => ?_, Or.inr ?_, fun u hu => ⟨gP_n hu, gM_n hu⟩⟩
    · rw [z23, up_ne (fun w => g ⟨w.1, by omega⟩), up_ne (fun w => g ⟨w.1, by omega⟩), flL_o ⟨fun w => g2 ⟨w.1, by rw [w.2]⟩, g3⟩, n13 n j (fun w => g ⟨w.1, by omega⟩) (fun w => g2 ⟨w.1, by rw [w.2]⟩), up_ne g0, idl, up_ne (fun w => g ⟨w.1, by omega⟩)]
    · rw [z23, up_nj (by decide), up_nj (by decide), flL_o ⟨fun w => by simp only at w; omega, fun w => by simp only at w; omega⟩, n13 _ _ (by simp) (by simp), up_ne (by simp), idl, up_nj (by decide)]
theorem Pub_SN {p p' : PP} {a a' : IF} {s B : Nat} {r : Int32} (h : Pub p a s p' a' r) (hS : SN p a s B) : SN p' a' s (B + 1) := by
  obtain ⟨T, hT, h⟩ := h
  have ki : SN p (idl a s T) s B := SN.cg rfl (up_nj (by decide)) (up_nj (by decide)) (fun o => up_ne (by simp)) hS
  rcases h with ⟨-, -, rfl, rfl, rfl⟩ | ⟨-, ⟨-, rfl, rfl, rfl⟩ | ⟨e, rfl, -, rfl, rfl⟩ | ⟨e, rfl, e2, a1, o, K, hN, rfl, -⟩⟩
  · exact ki.mono (by omega)
  · refine SN.mono (SN.cg rfl ?_ ?_ (fun o => ?_) ki) (show B ≤ B + 1 by omega)
    · unfold losA; split
      · rw [up_nj (by decide)]
      · rw [up_nj (by decide), up_nj (by decide)]
    · unfold losA; split
      · rw [up_nj (by decide)]
      · rw [up_nj (by decide), up_nj (by decide)]
    · unfold losA; split
      · rw [up_ne (by simp)]
      · rw [up_ne (by simp), up_ne (by simp)]
  · refine SN.mono (SN.cg rfl ?_ ?_ (fun o => ?_) ki) (show B ≤ B + 1 by omega)
    · rw [z23, up_nj (by decide), up_nj (by decide), up_nj (by decide), up_ne (by simp)]
    · rw [z23, up_nj (by decide), up_nj (by decide), up_nj (by decide), up_ne (by simp)]
    · rw [z23, up_ne (by simp), up_ne (by simp), up_ne (by simp), up_ne (by simp)]
  · have k2 : SN p (up (idl a s T) (0, 0, 0) 7 (a (0, 0, 0) 7 - 1)) s B := SN.cg rfl (up_ne (by simp)) (up_ne (by simp)) (fun o => up_ne (by simp)) ki
    have k3 := (SN_next hN k2).1
    refine SN.cg rfl ?_ ?_ (fun z => ?_) k3
    · rw [z23, up_nj (by decide), up_nj (by decide), flL_o ⟨fun w => by simp only at w; omega, fun w => by simp only at w; omega⟩]
    · rw [z23, up_nj (by decide), up_nj (by decide), flL_o ⟨fun w => by simp only at w; omega, fun w => by simp only at w; omega⟩]
    · rw [z23, up_ne (by simp), up_ne (by simp), flL_3 (by decide)]
theorem PT_fr {p p' : PP} {a a' : IF} {s : Nat} {r : Int32} (h : PT p a s p' a' r) : (∀ n j, ¬ (n = (0, 0, 0) ∧ j = 7) → ¬ (n = (6, s, 0) ∧ (j = 7 ∨ 9 ≤ j)) → ¬ (n = (7, s, 0) ∧ j = 1) → ¬ ((n.1 = 10 ∨ n.1 = 11 ∨ n.1 = 12 ∨ n.1 = 13) ∧ n.2.1 = s) → ¬ (n.1 = 16 ∨ n.1 = 17 ∨ n.1 = 18) → a' n j = a n j) ∧ (a' (6, s, 0) 7 = 0 ∨ a' (6, s, 0) 7 = a (6, s, 0) 7) ∧ (∀ u, u ≠ s → gP p' u = gP p u ∧ gM p' u = gM p u) := by
  rcases h with ⟨-, rfl, rfl, rfl⟩ | ⟨-, -, rfl, rfl, rfl⟩ | ⟨-, -, h⟩
  · exact ⟨fun _ _ _ _ _ _ _ => rfl, Or.inr rfl, fun _ _ => ⟨rfl, rfl⟩⟩
  · exact ⟨fun n j _ _ g _ _ => up_ne g, Or.inr (up_ne (by simp)), fun _ _ => ⟨rfl, rfl⟩⟩
  · obtain ⟨f1, f2, f3⟩ := Pub_fr h
    refine ⟨fun n j g1 g2 g3 g4 g5 => ?_, ?_, f3⟩
    · rw [f1 n j g1 g2 g4 g5, up_ne g3, up_ne g3]
    · rw [up_ne (by simp), up_ne (by simp)] at f2; exact f2
theorem PT_SN {p p' : PP} {a a' : IF} {s B v : Nat} {r : Int32} (h : PT p a s p' a' r) (hS : SN p a v B) : SN p' a' v (B + 1) := by
  by_cases e : v = s
  · subst e
    rcases h with ⟨-, rfl, rfl, rfl⟩ | ⟨-, -, rfl, rfl, rfl⟩ | ⟨-, -, h⟩
    · exact hS.mono (by omega)
    · exact SN.mono (SN.cg rfl (up_ne (by simp)) (up_ne (by simp)) (fun o => up_ne (by simp)) hS) (by omega)
    · exact Pub_SN h (SN.cg rfl (by rw [up_ne (by simp), up_ne (by simp)]) (by rw [up_ne (by simp), up_ne (by simp)]) (fun o => by rw [up_ne (by simp), up_ne (by simp)]) hS)
  · obtain ⟨f1, -, f3⟩ := PT_fr h
    refine SN.mono (SN.cg (f3 v e).1 ?_ ?_ (fun o => ?_) hS) (by omega)
    · exact f1 _ _ (by simp) (fun w => e (by have := w.1; simp only [Prod.mk.injEq] at this; exact this.2.1)) (by simp) (by simp) (by simp)
    · exact f1 _ _ (by simp) (fun w => e (by have := w.1; simp only [Prod.mk.injEq] at this; exact this.2.1)) (by simp) (by simp) (by simp)
    · exact f1 _ _ (by simp) (by simp) (by simp) (fun w => e w.2) (by simp)
/-- an open subscription's timer stands at t -/
def TS (a b : IF) (s t : Nat) : Prop := a (6, s, 0) 7 = 0 ∨ TM (a (7, s, 0) 0) (a (7, s, 0) 1) (b (21, 5, 0) s) t
theorem PT_TS {p p' : PP} {a a' b b' : IF} {s t : Nat} {r : Int32} (ht : t + 1 ≤ 5000) (h : PT p a s p' a' r) (hb : b' (21, 5, 0) s = b (21, 5, 0) s) (hS : TS a b s t) : TS a' b' s (t + 1) := by
  rcases hS with e | hS
  · rcases h with ⟨-, rfl, rfl, rfl⟩ | ⟨w, -⟩ | ⟨w, -⟩
    · exact Or.inl e
    · exact absurd e w
    · exact absurd e w
  · obtain ⟨s1, s2, s3⟩ := hS.step ht
    rcases h with ⟨e, rfl, rfl, rfl⟩ | ⟨-, g, rfl, rfl, rfl⟩ | ⟨-, g, h⟩
    · exact Or.inl e
    · right
      rw [if_neg g] at s2
      rw [up_nj (by decide), up_same, hb]; exact s2
    · obtain ⟨f1, -, -⟩ := Pub_fr h
      right
      rw [if_pos g] at s2
      rw [f1 (7, s, 0) 0 (by simp) (by simp) (by simp) (by simp), f1 (7, s, 0) 1 (by simp) (by simp) (by simp) (by simp), up_nj (by decide), up_nj (by decide), up_same, hb]
      exact s2
theorem PT_TSo {p p' : PP} {a a' b b' : IF} {s v t : Nat} {r : Int32} (hv : v ≠ s) (h : PT p a s p' a' r) (hb : b' (21, 5, 0) v = b (21, 5, 0) v) (hS : TS a b v t) : TS a' b' v t := by
  obtain ⟨f1, -, -⟩ := PT_fr h
  unfold TS at *
  rw [f1 (6, v, 0) 7 (by simp) (fun w => hv (by have := w.1; simp only [Prod.mk.injEq] at this; exact this.2.1)) (by simp) (by simp) (by simp), f1 (7, v, 0) 0 (by simp) (by simp) (by simp) (by simp) (by simp), f1 (7, v, 0) 1 (by simp) (by simp) (fun w => hv (by have := w.1; simp only [Prod.mk.injEq] at this; exact this.2.1)) (by simp) (by simp), hb]
  exact hS
theorem PT_TI {p p' : PP} {a a' : IF} {s i t : Nat} {r : Int32} (hw : gW p' = gW p) (h : PT p a s p' a' r) (hS : TI p a i t) : TI p' a' i t := by
  obtain ⟨f1, f2, -⟩ := PT_fr h
  unfold TI at *
  rw [hw, f1 (15, i, 0) 0 (by simp) (by simp) (by simp) (by simp) (by simp), f1 (15, i, 0) 1 (by simp) (by simp) (by simp) (by simp) (by simp), f1 (14, i, 0) 10 (by simp) (by simp) (by simp) (by simp) (by simp), f1 (14, i, 0) 8 (by simp) (by simp) (by simp) (by simp) (by simp)]
  by_cases e : gW p i = s
  · rw [← e] at f2
    rcases f2 with f2 | f2
    · exact Or.inl f2
    · rw [f2]; exact hS
  · rw [f1 (6, gW p i, 0) 7 (by simp) (fun w => e (by have := w.1; simp only [Prod.mk.injEq] at this; exact this.2.1)) (by simp) (by simp) (by simp)]; exact hS