/-! Where a message is kept, the class. -/
theorem c_placeL {p : PP} {I : IF} {J : JF} {s : Nat} {x : Int32} (hW : WF p I) (hs : s < gS p) {K : Int32 → PH → Prop} {Q : Int32 → PH → Prop} (h1 : ∀ q, q < tn (I (6, s, 0) 9) → I (10, s, gP p s q) 3 = x → Q (nI q) (S p I J)) (h2 : (∀ q, q < tn (I (6, s, 0) 9) → I (10, s, gP p s q) 3 ≠ x) → ∀ y, K y (S p I J)) : ∀ (d q : Nat), q + d = tn (I (6, s, 0) 9) → (∀ r, r < q → I (10, s, gP p s r) 3 ≠ x) → l4_placeOf_2 (6, s, 0) x K Q (d + 1) (nI q) (S p I J) := by
  obtain ⟨g1, g2, g3, g4, g5, g6, g7, g8, g9, g10, g11⟩ := hW.2.2 s hs
  obtain ⟨hk9, -, hkm⟩ := bn_tn g6 (by omega)
  intro d
  induction d with
  | zero =>
    intro q h hn
    unfold l4_placeOf_2
    refine ⟨kq6 hs, fun _ => h2 (fun r hr => hn r (by omega)) _, fun z => absurd ?_ z⟩
    rw [hI_S, hk9, nI_leI (by omega) (by omega)]; omega
  | succ d ih =>
    intro q h hn
    have hq : q < gM p s := by omega
    unfold l4_placeOf_2
    refine ⟨kq6 hs, fun z => ?_, fun _ => ⟨_, rq66 hs, kq9 hs, vinL 5 (lq9 hs) (by omega) (by decide), ?_, ?_⟩⟩
    · rw [hI_S, hk9, nI_leI (by omega) (by omega)] at z; omega
    · rw [hR_S, nI_clamp (by omega), rq9 hs hq]; intro e; cases e
    · rw [hR_S, nI_clamp (by omega), rq9 hs hq]
      intro m2 e; cases e
      refine ⟨kq10 hs (g8 q hq), fun z => ?_, fun z => h1 q (by omega) z⟩
      rw [nI_1]
      refine ih (q + 1) (by omega) (fun r hr => ?_)
      by_cases e : r = q
      · subst e; exact z
      · exact hn r (by omega)
theorem c_placeOf {p : PP} {I : IF} {J : JF} {s : Nat} {x : Int32} (hW : WF p I) (hs : s < gS p) {Q : Int32 → PH → Prop} (h1 : ∀ q, q < tn (I (6, s, 0) 9) → I (10, s, gP p s q) 3 = x → Q (nI q) (S p I J)) (h2 : (∀ q, q < tn (I (6, s, 0) 9) → I (10, s, gP p s q) 3 ≠ x) → Q (-1) (S p I J)) : w4_placeOf (6, s, 0) x (S p I J) Q := by
  unfold w4_placeOf
  exact ⟨tn (I (6, s, 0) 9) + 1, c_placeL (K := fun _ τ1 => Q (-1) τ1) hW hs h1 (fun h _ => h2 h) (tn (I (6, s, 0) 9)) 0 (by omega) (fun r hr => by omega)⟩
theorem nI_m1 {q : Nat} (h : q < 2 ^ 31) : ¬ nI q = -1 := by
  intro e
  have := congrArg Int32.toInt e
  rw [nI_toInt h] at this
  have e2 : (-1 : Int32).toInt = -1 := by decide
  rw [e2] at this; omega
theorem c_find {p : PP} {I : IF} {J : JF} {s : Nat} {x : Int32} (hW : WF p I) (hs : s < gS p) {Q : Option Nm → PH → Prop} (h1 : ∀ q, q < tn (I (6, s, 0) 9) → I (10, s, gP p s q) 3 = x → Q (some (10, s, gP p s q)) (S p I J)) (h2 : (∀ q, q < tn (I (6, s, 0) 9) → I (10, s, gP p s q) 3 ≠ x) → Q none (S p I J)) : w4_find (6, s, 0) x (S p I J) Q := by
  obtain ⟨g1, g2, g3, g4, g5, g6, g7, g8, g9, g10, g11⟩ := hW.2.2 s hs
  obtain ⟨hk9, -, hkm⟩ := bn_tn g6 (by omega)
  unfold w4_find
  refine ⟨kq6 hs, c_placeOf hW hs (fun q hq e => ⟨fun _ => ⟨_, rq66 hs, kq9 hs, vinL 5 (lq9 hs) (by omega) (by decide), ?_⟩, fun z => absurd z (nI_m1 (by omega))⟩) (fun hn => ⟨fun z => absurd rfl z, fun _ => h2 hn⟩)⟩
  rw [hR_S, nI_clamp (by omega), rq9 hs (by omega)]
  exact h1 q hq e
