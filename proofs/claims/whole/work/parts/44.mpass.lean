theorem MX.g {p : PP} {a a' b b' : IF} (h : MX p a b) (ha : ∀ r k z j, r ≠ 0 → r ≠ 4 → r ≠ 5 → r ≠ 1 → a' (r, k, z) j = a (r, k, z) j) (hb : ∀ k j, k ≠ 2 → b' (21, k, 0) j = b (21, k, 0) j) (hG : MG a' b') : MX p a' b' := by
  obtain ⟨-, h2, h3, z1, z2, z3, z4⟩ := h
  have al : ∀ r k z j, 6 ≤ r → a' (r, k, z) j = a (r, k, z) j := fun r k z j g => ha r k z j (by omega) (by omega) (by omega) (by omega)
  refine ⟨hG, fun u hu => ⟨?_, ?_⟩, fun i hi => ?_, ?_, ?_, ?_, ?_⟩
  · have g := (h2 u hu).1
    unfold MS at *
    simp only [al 6 _ _ _ (by decide), al 7 _ _ _ (by decide), hb 4 _ (by decide), hb 6 _ (by decide), hb 7 _ (by decide), hb 8 _ (by decide), hb 9 _ (by decide), hb 10 _ (by decide), hb 11 _ (by decide), hb 12 _ (by decide), hb 13 _ (by decide), hb 14 _ (by decide)]
    exact g
  · have g := (h2 u hu).2
    unfold MM at *
    simp only [al 6 _ _ _ (by decide), al 10 _ _ _ (by decide), al 11 _ _ _ (by decide), al 12 _ _ _ (by decide), al 13 _ _ _ (by decide), hb 30 _ (by decide), hb 31 _ (by decide), hb 32 _ (by decide), hb 33 _ (by decide), hb 34 _ (by decide)]
    exact g
  · have g := h3 i hi
    unfold MI at *
    simp only [al 14 _ _ _ (by decide), al 15 _ _ _ (by decide), al 16 _ _ _ (by decide), al 17 _ _ _ (by decide), al 18 _ _ _ (by decide), hb 16 _ (by decide), hb 17 _ (by decide), hb 18 _ (by decide), hb 19 _ (by decide), hb 20 _ (by decide), hb 21 _ (by decide), hb 22 _ (by decide), hb 23 _ (by decide), hb 24 _ (by decide), hb 25 _ (by decide), hb 26 _ (by decide), hb 27 _ (by decide), hb 28 _ (by decide), hb 29 _ (by decide)]
    exact g
  · intro k s g1 g2 g3 g4; rw [hb k _ (by omega)]; exact z1 k s g1 g2 g3 g4
  · intro s k g1 g2 g3; rw [hb 30 _ (by decide)]; exact z2 s k g1 g2 g3
  · intro k i g1 g2 g3 g4; rw [hb k _ (by omega)]; exact z3 k i g1 g2 g3 g4
  · intro i k g1 g2 g3; rw [hb 28 _ (by decide), hb 29 _ (by decide)]; exact z4 i k g1 g2 g3
/-- all that ties the halves at the time t -/
def IV (p : PP) (a b : IF) (t : Nat) : Prop := WF p a ∧ MX p a b ∧ (∀ i, i < gT p → TI p a i t) ∧ (∀ s, s < gS p → SN p a s (4 * t)) ∧ (∀ s, s < gS p → TS a b s t) ∧ a (0, 0, 0) 8 = nI t ∧ OQ p a ∧ t ≤ 5000
theorem m_tick {p p' P : PP} {a a' b : IF} {J : JF} {t : Nat} {c : Int32} (h : IV p a b t) (ht : t + 1 ≤ 5000) (hK : TK p a p' a' c) {Q : Int32 → PH → Prop} (hQ : ∀ b', IV p' a' b' (t + 1) → FR b b' → Q c (S P b' J)) : w7_goesOn (20, 0, 0) (S P b J) Q := by
  obtain ⟨hW, hM, hTI, hSN, hTS, hnow, hOQ, -⟩ := h
  have hw : WF p (up a (0, 0, 0) 8 (a (0, 0, 0) 8 + 1)) := WF_now hW (by rw [hnow, nI_1]; exact bn_nI (by omega) (by omega))
  have eb : b (20, 0, 0) 1 + 1 = nI (t + 1) := by rw [hM.1.1, hnow, nI_1]
  have hMn : MX p (up a (0, 0, 0) 8 (a (0, 0, 0) 8 + 1)) (up b (20, 0, 0) 1 (b (20, 0, 0) 1 + 1)) := by
    refine MX.g hM (fun r k z j g _ _ _ => up_ne (fun q => by have := q.1; simp only [Prod.mk.injEq] at this; exact g this.1)) (fun k j _ => up_ne (by simp)) ?_
    obtain ⟨g1, g2, g3, g4, g5⟩ := hM.1
    refine ⟨?_, ?_, ?_, ?_, fun k hk => ?_⟩
    · rw [up_same, up_same, g1]
    · rw [up_nj (by decide), up_nj (by decide)]; exact g2
    · rw [up_nj (by decide), up_nj (by decide)]; exact g3
    · rw [up_nj (by decide), up_nj (by decide)]; exact g4
    · rw [up_ne (by simp), up_ne (by simp)]; exact g5 k hk
  have hTIn : TIs p (up a (0, 0, 0) 8 (a (0, 0, 0) 8 + 1)) t 0 := by
    intro k hk
    rw [if_neg (by omega)]
    have g := hTI k hk
    unfold TI at *
    simp only [up_ne (n := (0, 0, 0)) (a := (6, _, 0)) (by simp), up_ne (n := (0, 0, 0)) (a := (15, _, 0)) (by simp), up_ne (n := (0, 0, 0)) (a := (14, _, 0)) (by simp)]
    exact g
  have hO : OK p := by
    obtain ⟨pos, -, o2, -⟩ := hOQ
    exact fun t ht => (o2 t ht).1
  obtain ⟨g1, g2, g3⟩ := TK_ok hW hO hnow ht hK
  have so : ∀ r k z j, 1 ≤ r → r < 14 → samL p (up a (0, 0, 0) 8 (a (0, 0, 0) 8 + 1)) 0 (gT p) (r, k, z) j = a (r, k, z) j := fun r k z j q1 q2 => by rw [samL_o (Or.inl q2), up_ne (fun q => by have := q.1; simp only [Prod.mk.injEq] at this; omega)]
  unfold w7_goesOn
  refine ⟨rfl, ?_⟩
  rw [forall_eq, sI_S]
  refine ⟨gT p + 1, ?_⟩
  refine m_sampleL ht (gT p) 0 _ _ hMn hw (by omega) (by rw [hI_S, up_same, eb]) hTIn (fun b1 k1 k2 k3 => ?_)
  have b15 : ∀ s, b1 (21, 5, 0) s = b (21, 5, 0) s := fun s => by rw [k2 _ _ (Or.inr (Or.inr (Or.inl ⟨rfl, rfl⟩))), up_ne (by simp)]
  refine m_pubs (B := 4 * t) (T := t) (by omega) ht (WF_samL (gT p) 0 _ hw (by omega)) k1 ?_ (fun s hs => SN.cg rfl (so 6 _ _ _ (by decide) (by decide)) (so 6 _ _ _ (by decide) (by decide)) (fun o => so 10 _ _ _ (by decide) (by decide)) (hSN s hs)) (fun s hs => ?_) (fun i hi => ?_) ?_ hK (fun b' y q1 q2 q3 q4 q5 q6 => hQ b' ⟨g1, q1, ?_, ?_, ?_, g3, q6, ht⟩ ?_)
  · rw [samL_o (Or.inl (by decide)), up_same, hnow, nI_1]
  · have := hTS s hs
    unfold TS at *
    rw [so 6 _ _ _ (by decide) (by decide), so 7 _ _ _ (by decide) (by decide), so 7 _ _ _ (by decide) (by decide), b15]; exact this
  · have := k3 i hi
    rw [if_pos hi] at this; exact this
  · obtain ⟨pos, o1, o2, o3⟩ := hOQ
    refine ⟨pos, o1, o2, ?_⟩
    unfold pr at o3 ⊢
    simp only [so 6 _ _ _ (show 1 ≤ 6 by decide) (show 6 < 14 by decide)]; exact o3
  · rw [g2.2.1]; exact q4
  · rw [g2.1]; intro s hs; rw [show 4 * (t + 1) = 4 * t + 4 by omega]; exact q5 s hs
  · rw [g2.1]; exact q3
  · exact FR.tr (FR.tr (FR_up20 (by decide)) k2) q2
theorem m_passL {p0 P : PP} {a0 b0 : IF} {J : JF} {t0 n : Nat} (h0 : IV p0 a0 b0 t0) (hn : t0 + n ≤ 5000) (hth : b0 (20, 0, 0) 0 = 0) {K : Int32 → Int32 → PH → Prop} {Q : Int32 → PH → Prop} : ∀ (k : Nat) (p : PP) (a : IF) (c : Int32), k ≤ n → PS p0 a0 k p a c → (∀ b, IV p a b (t0 + k) → FR b0 b → l7_pass_39 (20, 0, 0) (nI n) K Q (n - k + 1) c (nI k) (S P b J)) → l7_pass_39 (20, 0, 0) (nI n) K Q (n + 1) 0 (nI 0) (S P b0 J) := by
  intro k
  induction k with
  | zero =>
    intro p a c _ h hK
    obtain ⟨rfl, rfl, rfl⟩ := h
    exact hK b0 h0 FR.rf
  | succ k ih =>
    intro p a c hk h hK
    obtain ⟨p1, a1, c1, r, h1, h2, rfl⟩ := h
    refine ih p1 a1 c1 (by omega) h1 (fun b hb hf => ?_)
    rw [show n - k + 1 = (n - (k + 1) + 1) + 1 by omega]
    unfold l7_pass_39
    refine ⟨fun q => ?_, fun _ => ⟨rfl, fun q => absurd ?_ q, fun _ => ?_⟩⟩
    · rw [nI_leI (by omega) (by omega)] at q; omega
    · rw [hI_S, hf _ _ (Or.inr (Or.inl ⟨rfl, rfl⟩))]; exact hth
    · refine m_tick hb (by omega) h2 (fun b' g1 g2 => ?_)
      rw [nI_1]
      exact hK b' g1 (hf.tr g2)
/-- the model's pass, once the class's is known -/
theorem m_passRun {p0 P p : PP} {a0 b0 a : IF} {J : JF} {t0 n : Nat} {c : Int32} (h0 : IV p0 a0 b0 t0) (hn : t0 + n ≤ 5000) (hth : b0 (20, 0, 0) 0 = 0) (hP : PS p0 a0 n p a c) {K : Int32 → Int32 → PH → Prop} {Q : Int32 → PH → Prop} (hK : ∀ b' y, IV p a b' (t0 + n) → FR b0 b' → K c y (S P b' J)) : l7_pass_39 (20, 0, 0) (nI n) K Q (n + 1) 0 (nI 0) (S P b0 J) := by
  refine m_passL h0 hn hth n p a c (Nat.le_refl _) hP (fun b g1 g2 => ?_)
  rw [Nat.sub_self]
  unfold l7_pass_39
  exact ⟨fun _ => hK b _ g1 g2, fun q => absurd ((nI_leI (by omega) (by omega)).mpr (Nat.le_refl _)) q⟩
