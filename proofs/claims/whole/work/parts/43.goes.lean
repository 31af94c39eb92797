/-! The model's tick. -/
def pr (a : IF) (u : Nat) : Nat := tn (a (6, u, 0) 3)
/-- the turn: by falling priority, the lower number first -/
def OQ (p : PP) (a : IF) : Prop := ∃ pos : Nat → Nat, (∀ s, s < gS p → pos s < gS p ∧ gO p (pos s) = s) ∧ (∀ t, t < gS p → gO p t < gS p ∧ pos (gO p t) = t) ∧ ∀ u v, u < gS p → v < gS p → (pos u < pos v ↔ (pr a v < pr a u ∨ (pr a u = pr a v ∧ u < v)))
theorem Tr_seq {p0 : PP} {a0 : IF} : ∀ (t : Nat) (p : PP) (a : IF) (c : Int32), Tr p0 a0 t p a c → ∃ (ps : Nat → PP) (as : Nat → IF) (cs rs : Nat → Int32), ps 0 = p0 ∧ as 0 = a0 ∧ cs 0 = 0 ∧ ps t = p ∧ as t = a ∧ cs t = c ∧ ∀ k, k < t → PT (ps k) (as k) (gO p0 k) (ps (k + 1)) (as (k + 1)) (rs k) ∧ cs (k + 1) = cs k + rs k := by
  intro t
  induction t with
  | zero =>
    intro p a c h
    obtain ⟨rfl, rfl, rfl⟩ := h
    exact ⟨fun _ => p, fun _ => a, fun _ => 0, fun _ => 0, rfl, rfl, rfl, rfl, rfl, rfl, fun k hk => by omega⟩
  | succ t ih =>
    intro p a c h
    obtain ⟨p1, a1, c1, r, h1, h2, h3⟩ := h
    obtain ⟨ps, as, cs, rs, g1, g2, g3, g4, g5, g6, g7⟩ := ih p1 a1 c1 h1
    refine ⟨fun k => if k ≤ t then ps k else p, fun k => if k ≤ t then as k else a, fun k => if k ≤ t then cs k else c, fun k => if k < t then rs k else r, ?_, ?_, ?_, ?_, ?_, ?_, fun k hk => ?_⟩
    · dsimp only; rw [if_pos (Nat.zero_le _)]; exact g1
    · dsimp only; rw [if_pos (Nat.zero_le _)]; exact g2
    · dsimp only; rw [if_pos (Nat.zero_le _)]; exact g3
    · dsimp only; rw [if_neg (by omega)]
    · dsimp only; rw [if_neg (by omega)]
    · dsimp only; rw [if_neg (by omega)]
    · dsimp only
      by_cases e : k < t
      · rw [if_pos (show k ≤ t by omega), if_pos (show k + 1 ≤ t by omega), if_pos (show k ≤ t by omega), if_pos (show k + 1 ≤ t by omega), if_pos e, if_pos (show k ≤ t by omega), if_pos (show k + 1 ≤ t by omega)]
        exact g7 k e
      · have : k = t := by omega
        subst this
        rw [if_pos (Nat.le_refl _), if_neg (show ¬ k + 1 ≤ k by omega), if_pos (Nat.le_refl _), if_neg (show ¬ k + 1 ≤ k by omega), if_neg e, if_pos (Nat.le_refl _), if_neg (show ¬ k + 1 ≤ k by omega), g4, g5, g6]
        exact ⟨h2, h3⟩
set_option maxHeartbeats 1000000 in
theorem m_pubs {p0 P pF : PP} {a0 b0 aF : IF} {J : JF} {B T : Nat} {cF : Int32} {K : Int32 → Int32 → PH → Prop} {Q : Int32 → PH → Prop} (hB : B + 4 < 2 ^ 30) (hT : T + 1 ≤ 5000) (hW0 : WF p0 a0) (hM0 : MX p0 a0 b0) (hnow : a0 (0, 0, 0) 8 = nI (T + 1)) (hSN : ∀ s, s < gS p0 → SN p0 a0 s B) (hTS : ∀ s, s < gS p0 → TS a0 b0 s T) (hTI : ∀ i, i < gT p0 → TI p0 a0 i (T + 1)) (hOQ : OQ p0 a0) (hTr : Tr p0 a0 (gS p0) pF aF cF) (hK : ∀ b' y, MX pF aF b' → FR b0 b' → (∀ s, s < gS p0 → TS aF b' s (T + 1)) → (∀ i, i < gT p0 → TI pF aF i (T + 1)) → (∀ s, s < gS p0 → SN pF aF s (B + 4)) → OQ pF aF → K cF y (S P b' J)) : ∃ f, l7_goesOn_71 (20, 0, 0) K Q f 0 9 (S P b0 J) := by
  have h4 := hW0.1.2.1
  obtain ⟨pos, o1, o2, o3⟩ := hOQ
  have hO : OK p0 := fun t ht => (o2 t ht).1
  obtain ⟨ps, as, cs, rs, s0, s1, s2, s3, s4, s5, s6⟩ := Tr_seq _ _ _ _ hTr
  -- what holds along the class's way
  have way : ∀ t, t ≤ gS p0 → WF (ps t) (as t) ∧ SP p0 (ps t) ∧ (∀ u, u < gS p0 → SN (ps t) (as t) u (B + t)) ∧ (∀ u, as t (6, u, 0) 3 = a0 (6, u, 0) 3) ∧ as t (0, 0, 0) 8 = nI (T + 1) ∧ ∀ i, i < gT p0 → TI (ps t) (as t) i (T + 1) := by
    intro t
    induction t with
    | zero => intro _; rw [s0, s1]; exact ⟨hW0, SP.rf, hSN, fun _ => rfl, hnow, hTI⟩
    | succ t ih =>
      intro ht
      obtain ⟨w1, w2, w3, w4, w5, w6⟩ := ih (by omega)
      have hp := (s6 t (by omega)).1
      obtain ⟨f1, -, -⟩ := PT_fr hp
      obtain ⟨k1, k2, -⟩ := PT_ok w1 (by rw [w2.1]; exact hO t (by omega)) hp
      refine ⟨k1, w2.tr k2, fun u hu => PT_SN hp (w3 u hu), fun u => ?_, ?_, fun i hi => PT_TI k2.2.2.2 hp (w6 i hi)⟩
      · rw [f1 (6, u, 0) 3 (by simp) (by simp) (by simp) (by simp) (by simp)]; exact w4 u
      · rw [PT_now hp]; exact w5
  have inner : ∀ (x1 : Int32) (k : Nat), k < 2 ^ 31 → ∀ (K2 : Int32 → Int32 → PH → Prop), (∀ t b, t ≤ gS p0 → MX (ps t) (as t) b → FR b0 b → (∀ u, u < gS p0 → TS (as t) b u (if pos u < t then T + 1 else T)) → (∀ u, u < gS p0 → (pos u < t ↔ k ≤ pr a0 u)) → K2 (cs t) (nI (gS p0)) (S P b J)) → ∀ (d s t : Nat) (b : IF), s + d = gS p0 → t ≤ gS p0 → MX (ps t) (as t) b → FR b0 b → (∀ u, u < gS p0 → TS (as t) b u (if pos u < t then T + 1 else T)) → (∀ u, u < gS p0 → (pos u < t ↔ (k < pr a0 u ∨ (pr a0 u = k ∧ u < s)))) → l7_goesOn_77 (20, 0, 0) x1 (nI k) K2 Q (d + 1) (cs t) (nI s) (S P b J) := by
    intro x1 k hk K2 hK2 d
    induction d with
    | zero =>
      intro s t b h1 h2 h3 h4' h5 h6
      have : s = gS p0 := by omega
      subst this
      obtain ⟨w1, w2, -⟩ := way t h2
      unfold l7_goesOn_77
      refine ⟨rfl, fun _ => hK2 t b h2 h3 h4' h5 (fun u hu => ?_), fun q => absurd ?_ q⟩
      · rw [h6 u hu]; omega
      · rw [hI_S, h3.1.2.2.1, w1.1.1, w2.1, nI_leI (by omega) (by omega)]; exact Nat.le_refl _
    | succ d ih =>
      intro s t b h1 h2 h3 h4' h5 h6
      have hs : s < gS p0 := by omega
      obtain ⟨w1, w2, w3, w4, w5, w6⟩ := way t h2
      have hsl := w2.1
      obtain ⟨pe, -, -⟩ := bn_tn (hW0.2.2 s hs).2.2.1 (by decide)
      have pb : pr a0 s < 2 ^ 31 := by
        obtain ⟨-, -, q⟩ := bn_tn (hW0.2.2 s hs).2.2.1 (by decide)
        show tn _ < _
        omega
      by_cases e : pr a0 s = k
      · -- its turn
        have hns : ¬ pos s < t := by rw [h6 s hs]; omega
        have hpt : pos s = t := by
          rcases Nat.lt_trichotomy (pos s) t with w | w | w
          · exact absurd w hns
          · exact w
          · exfalso
            have ht : t < gS p0 := by have := (o1 s hs).1; omega
            obtain ⟨v1, v2⟩ := o2 t ht
            have : pos (gO p0 t) < pos s := by rw [v2]; exact w
            rw [o3 _ _ v1 hs] at this
            have n2 : ¬ pos (gO p0 t) < t := by rw [v2]; omega
            rw [h6 _ v1] at n2
            omega
        have ht : t < gS p0 := by have := (o1 s hs).1; omega
        have hgo : gO p0 t = s := by rw [← hpt]; exact (o1 s hs).2
        have hp := (s6 t ht).1
        rw [hgo] at hp
        have hts := h5 s hs
        rw [if_neg hns] at hts
        refine m_turn (B := B + t) (by omega) w1 h3 (by rw [hsl]; exact hs) (w3 s hs) hT (by rw [h3.1.1]; exact w5) hts (by rw [w4, pe]; show nI k = nI (pr a0 s); rw [e]) hp (fun b' k1 k2 => ?_)
        rw [← (s6 t ht).2]
        have b5 : ∀ u, b' (21, 5, 0) u = b (21, 5, 0) u := fun u => k2 _ _ (Or.inr (Or.inr (Or.inl ⟨rfl, rfl⟩)))
        refine ih (s + 1) (t + 1) b' (by omega) (by omega) k1 (h4'.tr k2) (fun u hu => ?_) (fun u hu => ?_)
        · by_cases f : u = s
          · subst f
            rw [if_pos (by omega)]
            exact PT_TS hT hp (b5 u) hts
          · have pne : pos u ≠ t := by
              intro z
              have := (o1 u hu).2
              rw [z, hgo] at this
              exact f this.symm
            have := h5 u hu
            have e2 : (if pos u < t + 1 then T + 1 else T) = if pos u < t then T + 1 else T := by
              by_cases z : pos u < t
              · rw [if_pos z, if_pos (by omega)]
              · rw [if_neg z, if_neg (by omega)]
            rw [e2]
            exact PT_TSo f hp (b5 u) this
        · by_cases f : u = s
          · subst f; omega
          · have pne : pos u ≠ t := by
              intro z
              have := (o1 u hu).2
              rw [z, hgo] at this
              exact f this.symm
            have := h6 u hu
            omega
      · -- another priority
        have g := ih (s + 1) t b (by omega) h2 h3 h4' h5 (fun u hu => by
          rw [h6 u hu]
          by_cases f : u = s
          · subst f; omega
          · omega)
        obtain ⟨m1, m2, m3, m4, m5, -⟩ := (h3.2.1 s (by rw [hsl]; exact hs)).1
        have vs : ∀ {σ : PH} {N : Nm}, hL σ N = 4 → vp_in (nI s) (hL σ N) := fun e => vinL 4 e (by omega) (by decide)
        unfold l7_goesOn_77
        refine ⟨rfl, fun q => ?_, fun _ => ⟨_, rfl, rfl, vs rfl, fun _ => ?_, fun _ => ⟨_, rfl, rfl, vs rfl, fun _ => ?_, fun w => ?_⟩⟩⟩
        · rw [hI_S, h3.1.2.2.1, w1.1.1, hsl, nI_leI (by omega) (by omega)] at q; omega
        · rw [nI_1]; exact g
        · rw [nI_1]; exact g
        · exfalso
          rw [hI_S, nI_clamp (by omega), m5, w4, pe] at w
          exact e ((nI_eq pb hk).mp w)
  have outer : ∀ (k t : Nat) (b : IF), k ≤ 10 → t ≤ gS p0 → MX (ps t) (as t) b → FR b0 b → (∀ u, u < gS p0 → TS (as t) b u (if pos u < t then T + 1 else T)) → (∀ u, u < gS p0 → (pos u < t ↔ k ≤ pr a0 u)) → l7_goesOn_71 (20, 0, 0) K Q (k + 1) (cs t) (nI k + (-1)) (S P b J) := by
    intro k
    induction k with
    | zero =>
      intro t b _ h2 h3 h4' h5 h6
      have ht : t = gS p0 := by
        by_cases z : t < gS p0
        · exfalso
          obtain ⟨v1, v2⟩ := o2 t z
          have := (h6 _ v1).mpr (Nat.zero_le _)
          omega
        · omega
      subst ht
      obtain ⟨w1, w2, w3, w4, w5, w6⟩ := way (gS p0) (Nat.le_refl _)
      rw [s3, s4] at h3 w3 w6
      unfold l7_goesOn_71
      refine ⟨fun _ => ?_, fun q => absurd (by decide) q⟩
      rw [s5]
      refine hK b _ h3 h4' (fun u hu => ?_) w6 (fun u hu => (w3 u hu).mono (by omega)) ?_
      · have := h5 u hu
        rw [if_pos (o1 u hu).1, s4] at this; exact this
      · rw [s3] at w2
        rw [s4] at w4
        refine ⟨pos, ?_, ?_, ?_⟩
        · rw [w2.1, w2.2.2.1]; exact o1
        · rw [w2.1, w2.2.2.1]; exact o2
        · rw [w2.1]
          unfold pr at o3 ⊢
          simp only [w4]; exact o3
    | succ k ih =>
      intro t b hk h2 h3 h4' h5 h6
      have ex : nI (k + 1) + (-1) = nI k := by
        rw [← nI_1, Int32.add_assoc, show (1 : Int32) + (-1) = 0 from rfl, Int32.add_zero]
      rw [ex]
      unfold l7_goesOn_71
      refine ⟨fun q => ?_, fun _ => ⟨gS p0 + 1, ?_⟩⟩
      · rw [nI_lt0 (by omega)] at q; exact q.elim
      · refine inner (cs t) k (by omega) (fun y2 y3 τ2 => l7_goesOn_71 (20, 0, 0) K Q (k + 1) y2 (nI k + (-1)) τ2) (fun t' b' g1 g2 g3 g4 g5 => ih t' b' (by omega) g1 g2 g3 g4 g5) (gS p0) 0 t b (by omega) h2 h3 h4' h5 (fun u hu => ?_)
        rw [h6 u hu]; omega
  refine ⟨11, ?_⟩
  have g := outer 10 0 b0 (Nat.le_refl _) (Nat.zero_le _) (by rw [s0, s1]; exact hM0) FR.rf (fun u hu => by rw [if_neg (by omega), s1]; exact hTS u hu) (fun u hu => by
    obtain ⟨-, -, q⟩ := bn_tn (hW0.2.2 u hu).2.2.1 (by decide)
    have : pr a0 u ≤ 9 := q
    omega)
  rw [s2] at g
  exact g
