/-! What the calls share. -/
/-- the class's ints are the same -/
def CA (a a' : IF) : Prop := ∀ n j, n.1 < 20 → a' n j = a n j
/-- the model's ints are the same -/
def CB (b b' : IF) : Prop := ∀ n j, 20 ≤ n.1 → b' n j = b n j
theorem MX.ca {p : PP} {a a' b : IF} (h : MX p a b) (g : CA a a') : MX p a' b := by
  have al : ∀ r k z j, r < 20 → a' (r, k, z) j = a (r, k, z) j := fun r k z j q => g _ j q
  obtain ⟨h1, h2, h3, h4⟩ := h
  refine ⟨?_, fun u hu => ⟨?_, ?_⟩, fun i hi => ?_, h4⟩
  · unfold MG at *
    simp only [al 0 _ _ _ (by decide), al 1 _ _ _ (by decide)]; exact h1
  · have g := (h2 u hu).1
    unfold MS at *
    simp only [al 6 _ _ _ (by decide), al 7 _ _ _ (by decide)]; exact g
  · have g := (h2 u hu).2
    unfold MM at *
    simp only [al 6 _ _ _ (by decide), al 10 _ _ _ (by decide), al 11 _ _ _ (by decide), al 12 _ _ _ (by decide), al 13 _ _ _ (by decide)]; exact g
  · have g := h3 i hi
    unfold MI at *
    simp only [al 14 _ _ _ (by decide), al 15 _ _ _ (by decide), al 16 _ _ _ (by decide), al 17 _ _ _ (by decide), al 18 _ _ _ (by decide)]; exact g
theorem MX.cb {p : PP} {a b b' : IF} (h : MX p a b) (g : CB b b') : MX p a b' := by
  have bl : ∀ k j, b' (21, k, 0) j = b (21, k, 0) j := fun k j => g _ j (show 20 ≤ 21 by decide)
  have b20 : ∀ j, b' (20, 0, 0) j = b (20, 0, 0) j := fun j => g _ j (show 20 ≤ 20 by decide)
  unfold MX MG MS MM MI MZ at *
  simp only [bl, b20]; exact h
theorem WF.ca {p : PP} {a a' : IF} (h : WF p a) (g : CA a a') : WF p a' := by
  have al : ∀ r k z j, r < 20 → a' (r, k, z) j = a (r, k, z) j := fun r k z j q => g _ j q
  obtain ⟨h1, h2, h3⟩ := h
  refine ⟨?_, fun i hi => ?_, fun s hs => ?_⟩
  · unfold W1 at *
    simp only [al 0 _ _ _ (by decide), al 1 _ _ _ (by decide), al 4 _ _ _ (by decide)]; exact h1
  · have g := h2 i hi
    unfold IS at *
    simp only [al 14 _ _ _ (by decide), al 15 _ _ _ (by decide), al 16 _ _ _ (by decide), al 18 _ _ _ (by decide)]; exact g
  · have g := h3 s hs
    unfold SS at *
    simp only [al 6 _ _ _ (by decide), al 7 _ _ _ (by decide), al 10 _ _ _ (by decide), al 13 _ _ _ (by decide)]; exact g
theorem c_openS {p : PP} {I : IF} {J : JF} {x : Int32} (hW : WF p I) {Q : Option Nm → PH → Prop} {X : String → PH → Prop} (h1 : ∀ s, s < gS p → x = nI s → I (6, s, 0) 7 ≠ 0 → Q (some (6, s, 0)) (S p I J)) (h2 : (∀ s, s < gS p → x = nI s → I (6, s, 0) 7 = 0) → X xIO (S p I J)) : w6_openSubscription (0, 0, 0) x (S p I J) Q X := by
  have h4 := hW.1.2.1
  unfold w6_openSubscription
  refine ⟨fun q => h2 (fun s hs e => ?_), fun q => ⟨fun w => ?_, fun w => h2 (fun s hs e => ?_)⟩⟩
  · rw [e, nI_lt0 (by omega)] at q; exact q.elim
  · obtain ⟨s, hs, rfl⟩ := nI_of q
    rw [show (4 : Int32) = nI 4 from rfl, nI_ltI hs (by decide)] at w
    refine ⟨rfl, _, rfl, rfl, vinL 4 rfl w (by decide), ?_⟩
    rw [hR_S, nI_clamp hs]
    by_cases g : s < gS p
    · refine ⟨fun e => (by rw [rq20 g] at e; cases e), fun m2 e => ?_⟩
      rw [rq20 g] at e; cases e
      refine ⟨kq6 g, fun z => h1 s g rfl z, fun z => h2 (fun u hu e => ?_)⟩
      have : s = u := (nI_eq hs (by omega)).mp e
      subst this; exact z
    · refine ⟨fun _ => h2 (fun u hu e => ?_), fun m2 e => by rw [rq20n g] at e; cases e⟩
      have : s = u := (nI_eq hs (by omega)).mp e
      omega
  · rw [e, show (4 : Int32) = nI 4 from rfl, nI_ltI (by omega) (by decide)] at w; omega
theorem c_liveI {p : PP} {I : IF} {J : JF} {x : Int32} (hW : WF p I) {Q : Option Nm → PH → Prop} {X : String → PH → Prop} (h1 : ∀ i, i < gT p → x = nI i → I (6, gW p i, 0) 7 ≠ 0 → Q (some (14, i, 0)) (S p I J)) (h2 : (∀ i, i < gT p → x = nI i → I (6, gW p i, 0) 7 = 0) → X xIO (S p I J)) : w6_liveItem (0, 0, 0) x (S p I J) Q X := by
  have h16 := hW.1.2.2.2.1
  unfold w6_liveItem
  refine ⟨fun q => h2 (fun s hs e => ?_), fun q => ⟨fun w => ?_, fun w => h2 (fun s hs e => ?_)⟩⟩
  · rw [e, nI_lt0 (by omega)] at q; exact q.elim
  · obtain ⟨s, hs, rfl⟩ := nI_of q
    rw [show (16 : Int32) = nI 16 from rfl, nI_ltI hs (by decide)] at w
    refine ⟨rfl, _, rfl, rfl, vinL 16 rfl w (by decide), ?_⟩
    rw [hR_S, nI_clamp hs]
    by_cases g : s < gT p
    · refine ⟨fun e => (by rw [rq3 g] at e; cases e), fun m2 e => ?_⟩
      rw [rq3 g] at e; cases e
      refine ⟨kq14 g, _, rq141 g, kq6 (hW.1.2.2.2.2.2.1 s g), fun z => h1 s g rfl z, fun z => h2 (fun u hu e => ?_)⟩
      have : s = u := (nI_eq hs (by omega)).mp e
      subst this; exact z
    · refine ⟨fun _ => h2 (fun u hu e => ?_), fun m2 e => by rw [rq3n g] at e; cases e⟩
      have : s = u := (nI_eq hs (by omega)).mp e
      omega
  · rw [e, show (16 : Int32) = nI 16 from rfl, nI_ltI (by omega) (by decide)] at w; omega