/-! What the calls share. -/
/-- the class's ints are the same -/
def CA (a a' : IF) : Prop := ∀ n j, n.1 < 20 → a' n j = a n j
/-- the model's ints are the same -/
def CB (b b' : IF) : Prop := ∀ n j, 20 ≤ n.1 → b' n j = b n j
theorem MX.ca {p : PP} {a a' b : IF} (h : MX p a b) (g : CA a a') : MX p a' b := by
  have al : ∀ r k z j, r < 20 → a' (r, k, z) j = a (r, k, z) j := fun r k z j q => g _ j q
  obtain ⟨h1, h2, h3, h4⟩ := h
  refine ⟨?_, fun u hu => ⟨?_, ?_⟩, fun i hi => ?_, h4⟩
  · unfold MG at *
    simp only [al 0 _ _ _ (by decide), al 1 _ _ _ (by decide)]; exact h1
  · have g := (h2 u hu).1
    unfold MS at *
    simp only [al 6 _ _ _ (by decide), al 7 _ _ _ (by decide)]; exact g
  · have g := (h2 u hu).2
    unfold MM at *
    simp only [al 6 _ _ _ (by decide), al 10 _ _ _ (by decide), al 11 _ _ _ (by decide), al 12 _ _ _ (by decide), al 13 _ _ _ (by decide)]; exact g
  · have g := h3 i hi
    unfold MI at *
    simp only [al 14 _ _ _ (by decide), al 15 _ _ _ (by decide), al 16 _ _ _ (by decide), al 17 _ _ _ (by decide), al 18 _ _ _ (by decide)]; exact g
theorem MX.cb {p : PP} {a b b' : IF} (h : MX p a b) (g : CB b b') : MX p a b' := by
  have bl : ∀ k j, b' (21, k, 0) j = b (21, k, 0) j := fun k j => g _ j (show 20 ≤ 21 by decide)
  have b20 : ∀ j, b' (20, 0, 0) j = b (20, 0, 0) j := fun j => g _ j (show 20 ≤ 20 by decide)
  unfold MX MG MS MM MI MZ at *
  simp only [bl, b20]; exact h
theorem WF.ca {p : PP} {a a' : IF} (h : WF p a) (g : CA a a') : WF p a' := by
  have al : ∀ r k z j, r < 20 → a' (r, k, z) j = a (r, k, z) j := fun r k z j q => g _ j q
  obtain ⟨h1, h2, h3⟩ := h
  refine ⟨?_, fun i hi => ?_, fun s hs => ?_⟩
  · unfold W1 at *
    simp only [al 0 _ _ _ (by decide), al 1 _ _ _ (by decide), al 4 _ _ _ (by decide)]; exact h1
  · have g := h2 i hi
    unfold IS at *
    simp only [al 14 _ _ _ (by decide), al 15 _ _ _ (by decide), al 16 _ _ _ (by decide), al 18 _ _ _ (by decide)]; exact g
  · have g := h3 s hs
    unfold SS at *
    simp only [al 6 _ _ _ (by decide), al 7 _ _ _ (by decide), al 10 _ _ _ (by decide), al 13 _ _ _ (by decide)]; exact g
theorem c_openS {p : PP} {I : IF} {J : JF} {x : Int32} (hW : WF p I) {Q : Option Nm → PH → Prop} {X : String → PH → Prop} (h1 : ∀ s, s < gS p → x = nI s → I (6, s, 0) 7 ≠ 0 → Q (some (6, s, 0)) (S p I J)) (h2 : (∀ s, s < gS p → x = nI s → I (6, s, 0) 7 = 0) → X xIO (S p I J)) : w6_openSubscription (0, 0, 0) x (S p I J) Q X := by
  have h4 := hW.1.2.1
  unfold w6_openSubscription
  refine ⟨fun q => h2 (fun s hs e => ?_), fun q => ⟨fun w => ?_, fun w => h2 (fun s hs e => ?_)⟩⟩
  · rw [e, nI_lt0 (by omega)] at q; exact q.elim
  · obtain ⟨s, hs, rfl⟩ := nI_of q
    rw [show (4 : Int32) = nI 4 from rfl, nI_ltI hs (by decide)] at w
    refine ⟨rfl, _, rfl, rfl, vinL 4 rfl w (by decide), ?_⟩
    rw [hR_S, nI_clamp hs]
    by_cases g : s < gS p
    · refine ⟨fun e => (by rw [rq20 g] at e; cases e), fun m2 e => ?_⟩
      rw [rq20 g] at e; cases e
      refine ⟨kq6 g, fun z => h1 s g rfl z, fun z => h2 (fun u hu e => ?_)⟩
      have : s = u := (nI_eq hs (by omega)).mp e
      subst this; exact z
    · refine ⟨fun _ => h2 (fun u hu e => ?_), fun m2 e => by rw [rq20n g] at e; cases e⟩
      have : s = u := (nI_eq hs (by omega)).mp e
      omega
  · rw [e, show (4 : Int32) = nI 4 from rfl, nI_ltI (by omega) (by decide)] at w; omega
theorem c_liveI {p : PP} {I : IF} {J : JF} {x : Int32} (hW : WF p I) {Q : Option Nm → PH → Prop} {X : String → PH → Prop} (h1 : ∀ i, i < gT p → x = nI i → I (6, gW p i, 0) 7 ≠ 0 → Q (some (14, i, 0)) (S p I J)) (h2 : (∀ i, i < gT p → x = nI i → I (6, gW p i, 0) 7 = 0) → X xIO (S p I J)) : w6_liveItem (0, 0, 0) x (S p I J) Q X := by
  have h16 := hW.1.2.2.2.1
  unfold w6_liveItem
  refine ⟨fun q => h2 (fun s hs e => ?_), fun q => ⟨fun w => ?_, fun w => h2 (fun s hs e => ?_)⟩⟩
  · rw [e, nI_lt0 (by omega)] at q; exact q.elim
  · obtain ⟨s, hs, rfl⟩ := nI_of q
    rw [show (16 : Int32) = nI 16 from rfl, nI_ltI hs (by decide)] at w
    refine ⟨rfl, _, rfl, rfl, vinL 16 rfl w (by decide), ?_⟩
    rw [hR_S, nI_clamp hs]
    by_cases g : s < gT p
    · refine ⟨fun e => (by rw [rq3 g] at e; cases e), fun m2 e => ?_⟩
      rw [rq3 g] at e; cases e
      refine ⟨kq14 g, _, rq141 g, kq6 (hW.1.2.2.2.2.2.1 s g), fun z => h1 s g rfl z, fun z => h2 (fun u hu e => ?_)⟩
      have : s = u := (nI_eq hs (by omega)).mp e
      subst this; exact z
    · refine ⟨fun _ => h2 (fun u hu e => ?_), fun m2 e => by rw [rq3n g] at e; cases e⟩
      have : s = u := (nI_eq hs (by omega)).mp e
      omega
  · rw [e, show (16 : Int32) = nI 16 from rfl, nI_ltI (by omega) (by decide)] at w; omega
theorem m_inN {x : Int32} {n : Nat} {σ : PH} {Q : Int32 → PH → Prop} (hn : n < 2 ^ 31) (h1 : ∀ k, k < n → x = nI k → Q 1 σ) (h2 : (∀ k, k < n → x ≠ nI k) → Q 0 σ) : w7_in x 0 (nI n - 1) σ Q := by
  unfold w7_in
  refine ⟨fun q => h2 (fun k hk e => ?_), fun q => ?_⟩
  · rw [e, nI_lt0 (by omega)] at q; exact q.elim
  · obtain ⟨s, hs, rfl⟩ := nI_of q
    by_cases n0 : n = 0
    · subst n0
      have e : nI 0 - 1 < nI s := by
        rw [Int32.lt_iff_toInt_lt, nI_toInt hs]
        have : (nI 0 - 1).toInt = -1 := by decide
        rw [this]; omega
      exact ⟨fun _ => h2 (fun k hk => by omega), fun w => absurd e w⟩
    · rw [nI_sub1 (by omega), nI_ltI (by omega) hs]
      refine ⟨fun w => h2 (fun k hk e => ?_), fun w => h1 s (by omega) rfl⟩
      have := (nI_eq hs (by omega)).mp e
      omega
theorem m_isSub {p P : PP} {a b : IF} {J : JF} {x : Int32} (hW : WF p a) (hM : MX p a b) {Q : Int32 → PH → Prop} (h1 : ∀ s, s < gS p → x = nI s → a (6, s, 0) 7 ≠ 0 → Q 1 (S P b J)) (h2 : (∀ s, s < gS p → x = nI s → a (6, s, 0) 7 = 0) → Q 0 (S P b J)) : w7_isSubscription (20, 0, 0) x (S P b J) Q := by
  have h4 := hW.1.2.1
  unfold w7_isSubscription
  refine ⟨rfl, ?_⟩
  rw [hI_S, hM.1.2.2.1, hW.1.1]
  refine m_inN (by omega) (fun s hs e => ⟨fun z => absurd z (by decide), fun _ => ?_⟩) (fun hn => ⟨fun _ => h2 (fun s hs e => absurd e (hn s hs)), fun z => absurd rfl z⟩)
  subst e
  refine ⟨_, rfl, rfl, vinL 4 rfl (by omega) (by decide), ?_⟩
  rw [nI_clamp (by omega), hI_S, (hM.2.1 s hs).1.1]
  refine ⟨fun z => h2 (fun u hu e => ?_), fun z => h1 s hs rfl z⟩
  have : s = u := (nI_eq (by omega) (by omega)).mp e
  subst this; exact z
theorem m_isItm {p P : PP} {a b : IF} {J : JF} {x : Int32} (hW : WF p a) (hM : MX p a b) {Q : Int32 → PH → Prop} (h1 : ∀ i, i < gT p → x = nI i → a (6, gW p i, 0) 7 ≠ 0 → Q 1 (S P b J)) (h2 : (∀ i, i < gT p → x = nI i → a (6, gW p i, 0) 7 = 0) → Q 0 (S P b J)) : w7_isItem (20, 0, 0) x (S P b J) Q := by
  have h16 := hW.1.2.2.2.1
  have h4 := hW.1.2.1
  unfold w7_isItem
  refine ⟨rfl, ?_⟩
  rw [hI_S, hM.1.2.2.2.1, hW.1.2.2.1]
  refine m_inN (by omega) (fun s hs e => ⟨fun z => absurd z (by decide), fun _ => ?_⟩) (fun hn => ⟨fun _ => h2 (fun s hs e => absurd e (hn s hs)), fun z => absurd rfl z⟩)
  subst e
  have hw := hW.1.2.2.2.2.2.1 s hs
  refine ⟨_, rfl, rfl, vinL 16 rfl (by omega) (by decide), _, rfl, rfl, ?_, ?_⟩
  · rw [nI_clamp (by omega), hI_S, (hM.2.2.1 s hs).1]; exact vinL 4 rfl (by omega) (by decide)
  rw [nI_clamp (by omega), hI_S, (hM.2.2.1 s hs).1, nI_clamp (by omega), (hM.2.1 _ hw).1.1]
  refine ⟨fun z => h2 (fun u hu e => ?_), fun z => h1 s hs rfl z⟩
  have : s = u := (nI_eq (by omega) (by omega)).mp e
  subst this; exact z
theorem m_asks {p P : PP} {a b : IF} {J : JF} {x : Int32} (hW : WF p a) (hM : MX p a b) {Q : Int32 → PH → Prop} (h1 : ∀ s, s < gS p → x = nI s → a (6, s, 0) 7 ≠ 0 → Q 1 (S P (up b (20, 0, 0) 0 0) J)) (h2 : (∀ s, s < gS p → x = nI s → a (6, s, 0) 7 = 0) → Q 0 (S P (up b (20, 0, 0) 0 1) J)) : w7_asks (20, 0, 0) x (S P b J) Q := by
  unfold w7_asks
  refine ⟨rfl, m_isSub hW hM (fun s hs e l => ⟨fun z => absurd z (by decide), fun _ => ?_⟩) (fun hn => ⟨fun _ => ?_, fun z => absurd rfl z⟩)⟩
  · rw [forall_eq, sI_S, hI_S, up_same]
    exact ⟨fun z => absurd rfl z, fun _ => h1 s hs e l⟩
  · rw [forall_eq, sI_S, hI_S, up_same]
    exact ⟨fun _ => h2 hn, fun z => absurd z (by decide)⟩
theorem m_asksI {p P : PP} {a b : IF} {J : JF} {x : Int32} (hW : WF p a) (hM : MX p a b) {Q : Int32 → PH → Prop} (h1 : ∀ i, i < gT p → x = nI i → a (6, gW p i, 0) 7 ≠ 0 → Q 1 (S P (up b (20, 0, 0) 0 0) J)) (h2 : (∀ i, i < gT p → x = nI i → a (6, gW p i, 0) 7 = 0) → Q 0 (S P (up b (20, 0, 0) 0 1) J)) : w7_asksItem (20, 0, 0) x (S P b J) Q := by
  unfold w7_asksItem
  refine ⟨rfl, m_isItm hW hM (fun s hs e l => ⟨fun z => absurd z (by decide), fun _ => ?_⟩) (fun hn => ⟨fun _ => ?_, fun z => absurd rfl z⟩)⟩
  · rw [forall_eq, sI_S, hI_S, up_same]
    exact ⟨fun z => absurd rfl z, fun _ => h1 s hs e l⟩
  · rw [forall_eq, sI_S, hI_S, up_same]
    exact ⟨fun _ => h2 hn, fun z => absurd z (by decide)⟩
