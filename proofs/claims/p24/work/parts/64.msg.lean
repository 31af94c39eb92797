/-! The class's message with a place. -/
theorem c_msg {p : PP} {I : IF} {J : JF} {x y z : Int32} (hW : WF p I) (hU : ∀ s q r, s < gS p → q < tn (I (6, s, 0) 9) → r < tn (I (6, s, 0) 9) → I (10, s, gP p s q) 3 = I (10, s, gP p s r) 3 → q = r) {Q : Option Nm → PH → Prop} {X : String → PH → Prop} (h1 : ∀ s q n, s < gS p → x = nI s → I (6, s, 0) 7 ≠ 0 → q < tn (I (6, s, 0) 9) → gP p s q < gM p s → I (10, s, gP p s q) 3 = y → z = nI n → n < tn (I (10, s, gP p s q) 4) → n < 10 → Q (some (10, s, gP p s q)) (S p I J)) (h2 : (∀ s, s < gS p → x = nI s → I (6, s, 0) 7 = 0) → X xIO (S p I J)) (h3 : ∀ s, s < gS p → x = nI s → I (6, s, 0) 7 ≠ 0 → (∀ q, q < tn (I (6, s, 0) 9) → I (10, s, gP p s q) 3 = y → ∀ n, n < tn (I (10, s, gP p s q) 4) → z ≠ nI n) → X xNE (S p I J)) : w6_messageWith (0, 0, 0) x y z (S p I J) Q X := by
  unfold w6_messageWith
  refine ⟨rfl, c_openS hW (fun s hs e l => ⟨_, rfl, kq6 hs, ?_⟩) h2⟩
  obtain ⟨g1, g2, g3, g4, g5, g6, g7, g8, g9, g10, g11⟩ := hW.2.2 s hs
  obtain ⟨-, -, hkm⟩ := bn_tn g6 (by omega)
  refine c_find hW hs (fun q hq e2 => ⟨fun w => (by cases w), fun m2 w => ?_⟩) (fun hn => ⟨fun _ => h3 s hs e l (fun q hq e2 => absurd e2 (hn q hq)), fun m2 w => (by cases w)⟩)
  cases w
  obtain ⟨c1, -, c3⟩ := bn_tn (g9 _ (g8 q (by omega))) (by decide)
  have no : (∀ n, n < tn (I (10, s, gP p s q) 4) → z ≠ nI n) → X xNE (S p I J) := fun h => h3 s hs e l (fun r hr e3 n hn => by
    have : r = q := hU s r q hs hr hq (by rw [e3, e2])
    subst this; exact h n hn)
  refine ⟨fun w => no (fun n hn e3 => ?_), fun w => ⟨kq10 hs (g8 q (by omega)), fun v => ?_, fun v => no (fun n hn e3 => ?_)⟩⟩
  · rw [e3, nI_lt0 (by omega)] at w; exact w.elim
  · obtain ⟨n, hn, rfl⟩ := nI_of w
    rw [hI_S, c1, nI_ltI hn (by omega)] at v
    exact h1 s q n hs e l hq (g8 q (by omega)) e2 rfl v (by omega)
  · rw [hI_S, e3, c1, nI_ltI (by omega) (by omega)] at v; exact v hn
