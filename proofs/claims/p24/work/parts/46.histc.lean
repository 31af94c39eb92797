/-! The class's ticks keep the history. -/
theorem hC_cg {a a' : IF} (h : ∀ j, a' (4, 0, 0) j = a (4, 0, 0) j) : hC a' = hC a := by unfold hC; rw [h]
theorem HG.cg {a a' : IF} {t : Nat} (h4 : ∀ j, a' (4, 0, 0) j = a (4, 0, 0) j) (h5 : ∀ k j, a' (5, k, 0) j = a (5, k, 0) j) (h1 : ∀ j, a' (1, 0, 0) j = a (1, 0, 0) j) (h : HG a t) : HG a' t := by
  unfold HG hC hTk hNd hVl at *
  simp only [h4, h5, h1]; exact h
theorem HG.mono {a : IF} {t u : Nat} (h : HG a t) (htu : t ≤ u) : HG a u := by
  obtain ⟨h1, h2, h3⟩ := h
  exact ⟨h1, fun k hk => by obtain ⟨g1, g2, g3⟩ := h2 k hk; exact ⟨g1, by omega, g3⟩, h3⟩
theorem HI.cg {p p' : PP} {a a' : IF} {i t : Nat} (hw : gW p' = gW p) (hl : a' (6, gW p i, 0) 7 = 0 ∨ a' (6, gW p i, 0) 7 = a (6, gW p i, 0) 7) (h4 : ∀ j, a' (4, 0, 0) j = a (4, 0, 0) j) (h5 : ∀ k j, a' (5, k, 0) j = a (5, k, 0) j) (h14 : ∀ j, a' (14, i, 0) j = a (14, i, 0) j) (h15 : a' (15, i, 0) 0 = a (15, i, 0) 0) (h : HI p a i t) : HI p' a' i t := by
  unfold HI at *
  rw [hw]
  rcases hl with e | e
  · exact Or.inl e
  · rw [e]
    unfold hR_ hC hTk hNd hVl at *
    simp only [h4, h5, h14, h15]; exact h
theorem vbf_le {hn hv : Nat → Nat} {nd : Nat} : ∀ w, (∀ k, k < w → hv k ≤ 1000) → vbf hn hv nd w ≤ 1000 := by
  intro w
  induction w with
  | zero => intro _; exact Nat.zero_le _
  | succ w ih =>
    intro h
    rw [vbf]; split
    · exact h w (by omega)
    · exact ih (fun k hk => h k (by omega))
set_option maxHeartbeats 1000000 in
theorem HI_samA {p : PP} {a : IF} {i t : Nat} (hW : WF p a) (hi : i < gT p) (ht : t + 1 ≤ 5000) (hT : TI p a i t) (hG : HG a t) (h : HI p a i t) : HI p (samA p a i) i (t + 1) := by
  unfold HI
  rw [samA_o (n := (6, gW p i, 0)) (Or.inr (Or.inl (show 6 < 14 by decide)))]
  by_cases e : a (6, gW p i, 0) 7 = 0
  · exact Or.inl e
  · right
    have hT := hT.resolve_left e
    obtain ⟨w1, w2, w3, w4, w5⟩ := h.resolve_left e
    obtain ⟨g1, g2, g3, g4, g5, g6, -⟩ := hW.2.1 i hi
    obtain ⟨nd1, -, nd2⟩ := bn_tn g2 (by decide)
    obtain ⟨bd1, -, bd2⟩ := bn_tn g3 (by decide)
    obtain ⟨ls1, -, ls2⟩ := bn_tn g4 (by decide)
    obtain ⟨ev1, ev0, ev2⟩ := bn_tn g6 (by decide)
    obtain ⟨E, x, hE, hE1, hE2, hx, hxt, hl⟩ := hT.1
    obtain ⟨q, hq1, hq2, hq3⟩ := hT.2
    have tx : tn (a (14, i, 0) 10) = x := by rw [hx, tn_nI (by omega)]
    have tE : tn (a (15, i, 0) 0) = E := by rw [hE, tn_nI (by omega)]
    have tq : tn (a (14, i, 0) 8) = q := by rw [hq3, tn_nI (by omega)]
    obtain ⟨hf1, hf2⟩ := hst_f (ht := hTk a) (hn := hNd a) (hv := hVl a) (nd := tn (a (14, i, 0) 2)) (e := E) (bd := tn (a (14, i, 0) 3)) (w := tn (a (14, i, 0) 11)) hxt (hC a - tn (a (14, i, 0) 11)) (fun k k1 k2 => by
      rw [← tx]; exact ⟨w4 k k1 (by omega), (hG.2.1 k (by omega)).2.1⟩)
    have hr : hR_ a i = hst (hTk a) (hNd a) (hVl a) (tn (a (14, i, 0) 2)) E x (tn (a (14, i, 0) 3)) (tn (a (14, i, 0) 11)) (hC a - tn (a (14, i, 0) 11)) := by rw [hR_, tx, tE]
    have hv : (hR_ a i).2.2.1 = vbf (hNd a) (hVl a) (tn (a (14, i, 0) 2)) (hC a) := by rw [hr, hst_v, show tn (a (14, i, 0) 11) + (hC a - tn (a (14, i, 0) 11)) = hC a by omega]
    have hvl : vbf (hNd a) (hVl a) (tn (a (14, i, 0) 2)) (hC a) ≤ 1000 := vbf_le _ (fun k hk => (hG.2.1 k hk).2.2.2.2.1)
    have hnode : a (1, 0, 0) (tn (a (14, i, 0) 2)) = nI (hR_ a i).2.2.1 := by rw [hv]; exact hG.2.2 _ (by omega)
    rw [tx, tE, tq] at w5
    rw [← hr] at hf1 hf2
    obtain ⟨F1, F2⟩ := FIN_tick hE1 hf1 hf2 w5
    have hdue : (a (15, i, 0) 1 - 1 ≤ 0) ↔ (t + 1 - x) % E = 0 := by
      have s1 := (hT.1.step ht).1
      rw [hx, hE, nI_sub (show x ≤ t + 1 by omega), pk_rem (by omega) (by omega) (by omega), nI_e0 (by have := Nat.mod_lt (t + 1 - x) (show 0 < E by omega); omega)] at s1
      exact s1
    have hfar : far (a (1, 0, 0) (tn (a (14, i, 0) 2))) (a (14, i, 0) 9) (a (14, i, 0) 3) ↔ awy (hR_ a i).2.2.1 (tn (a (14, i, 0) 9)) (tn (a (14, i, 0) 3)) := by
      rw [hnode, ls1, bd1, tn_nI (show tn (a (14, i, 0) 9) < 2 ^ 31 by omega), tn_nI (show tn (a (14, i, 0) 3) < 2 ^ 31 by omega)]
      exact far_awy (by rw [hv]; exact hvl) ls2 bd2
    have so : ∀ r k z j, r < 14 → samA p a i (r, k, z) j = a (r, k, z) j := fun r k z j g => samA_o (Or.inr (Or.inl g))
    have s14 : ∀ j, j ≠ 8 → j ≠ 9 → samA p a i (14, i, 0) j = a (14, i, 0) j := by
      intro j j8 j9
      unfold samA
      split
      · rfl
      · split
        · split
          · rw [enq, up_nj j8, up_nj j9, setQ_o (by simp) (by simp) (by simp), up_ne (by simp), up_ne (by simp)]
          · rw [up_ne (by simp), up_ne (by simp)]
        · rw [up_ne (by simp)]
    have s15 : samA p a i (15, i, 0) 0 = a (15, i, 0) 0 := by
      unfold samA
      split
      · rfl
      · split
        · split
          · rw [enq, up_ne (by simp), up_ne (by simp), setQ_o (by simp) (by simp) (by simp), up_nj (by decide), up_nj (by decide)]
          · rw [up_nj (by decide), up_nj (by decide)]
        · rw [up_nj (by decide)]
    have er : hR_ (samA p a i) i = hR_ a i := by
      unfold hR_ hC hTk hNd hVl
      simp only [so 4 _ _ _ (by decide), so 5 _ _ _ (by decide), s14 2 (by decide) (by decide), s14 3 (by decide) (by decide), s14 10 (by decide) (by decide), s14 11 (by decide) (by decide), s15]
    have ec : hC (samA p a i) = hC a := hC_cg (fun j => so 4 _ _ _ (by decide))
    have et : ∀ k, hTk (samA p a i) k = hTk a k := fun k => by unfold hTk; rw [so 5 _ _ _ (by decide)]
    rw [er, ec, s14 3 (by decide) (by decide), s14 10 (by decide) (by decide), s14 11 (by decide) (by decide), s15, tx, tE]
    refine ⟨w1, w2, by omega, fun k k1 k2 => by rw [et, ← tx]; exact w4 k k1 k2, ?_⟩
    have key : (a (15, i, 0) 1 - 1 ≤ 0 → far (a (1, 0, 0) (tn (a (14, i, 0) 2))) (a (14, i, 0) 9) (a (14, i, 0) 3) → tn (samA p a i (14, i, 0) 8) = q + 1 ∧ tn (samA p a i (14, i, 0) 9) = (hR_ a i).2.2.1) ∧ (¬ (a (15, i, 0) 1 - 1 ≤ 0 ∧ far (a (1, 0, 0) (tn (a (14, i, 0) 2))) (a (14, i, 0) 9) (a (14, i, 0) 3)) → tn (samA p a i (14, i, 0) 8) = q ∧ tn (samA p a i (14, i, 0) 9) = tn (a (14, i, 0) 9)) := by
      unfold samA
      rw [if_neg e]
      refine ⟨fun z1 z2 => ?_, fun z => ?_⟩
      · rw [if_pos z1, if_pos z2]
        refine ⟨?_, ?_⟩
        · rw [enq, up_same, up_ne (by simp), up_ne (by simp), hq3, nI_1, tn_nI (by omega)]
        · rw [enq, up_nj (by decide), up_same, hnode, tn_nI (by rw [hv]; omega)]
      · by_cases z1 : a (15, i, 0) 1 - 1 ≤ 0
        · rw [if_pos z1, if_neg (fun z2 => z ⟨z1, z2⟩), up_ne (by simp), up_ne (by simp), up_ne (by simp), up_ne (by simp)]
          exact ⟨tq, rfl⟩
        · rw [if_neg z1, up_ne (by simp), up_ne (by simp)]
          exact ⟨tq, rfl⟩
    by_cases z1 : a (15, i, 0) 1 - 1 ≤ 0
    · have d := hdue.mp z1
      by_cases z2 : far (a (1, 0, 0) (tn (a (14, i, 0) 2))) (a (14, i, 0) 9) (a (14, i, 0) 3)
      · obtain ⟨k1, k2⟩ := key.1 z1 z2
        rw [k1, k2]; exact (F2 d).1 (hfar.mp z2)
      · obtain ⟨k1, k2⟩ := key.2 (fun z => z2 z.2)
        rw [k1, k2]; exact (F2 d).2 (fun w => z2 (hfar.mpr w))
    · obtain ⟨k1, k2⟩ := key.2 (fun z => z1 z.1)
      rw [k1, k2]; exact F1 (fun w => z1 (hdue.mpr w))
def HIs (p : PP) (a : IF) (t i : Nat) : Prop := ∀ k, k < gT p → HI p a k (if k < i then t + 1 else t)
theorem HIs_samA {p : PP} {a : IF} {i t : Nat} (hW : WF p a) (hi : i < gT p) (ht : t + 1 ≤ 5000) (hT : TIs p a t i) (hG : HG a t) (h : HIs p a t i) : HIs p (samA p a i) t (i + 1) := by
  intro k hk
  by_cases e : k = i
  · subst e
    rw [if_pos (by omega)]
    have g1 := hT k hk
    have g2 := h k hk
    rw [if_neg (by omega)] at g1 g2
    exact HI_samA hW hi ht g1 hG g2
  · have g := h k hk
    have e2 : (if k < i + 1 then t + 1 else t) = if k < i then t + 1 else t := by
      by_cases z : k < i
      · rw [if_pos z, if_pos (by omega)]
      · rw [if_neg z, if_neg (by omega)]
    rw [e2]
    have so : ∀ r k z j, r < 14 → samA p a i (r, k, z) j = a (r, k, z) j := fun r k z j g => samA_o (Or.inr (Or.inl g))
    exact HI.cg rfl (Or.inr (so 6 _ _ _ (by decide))) (fun j => so 4 _ _ _ (by decide)) (fun k j => so 5 _ _ _ (by decide)) (fun j => samA_o (Or.inl e)) (samA_o (Or.inl e)) g
theorem HIs_samL {p : PP} {t : Nat} (ht : t + 1 ≤ 5000) : ∀ (f i : Nat) (a : IF), i + f = gT p → WF p a → TIs p a t i → HG a t → HIs p a t i → HIs p (samL p a i f) t (gT p) := by
  intro f
  induction f with
  | zero => intro i a hi _ _ _ h; rw [show gT p = i by omega]; exact h
  | succ f ih =>
    intro i a hi hW hT hG h
    have so : ∀ r k z j, r < 14 → samA p a i (r, k, z) j = a (r, k, z) j := fun r k z j g => samA_o (Or.inr (Or.inl g))
    exact ih (i + 1) _ (by omega) (WF_samA hW (by omega)) (TIs_samA ht (by omega) hT) (HG.cg (fun j => so 4 _ _ _ (by decide)) (fun k j => so 5 _ _ _ (by decide)) (fun j => so 1 _ _ _ (by decide)) hG) (HIs_samA hW (by omega) ht hT hG h)
theorem HI_PT {p p' : PP} {a a' : IF} {s i t : Nat} {r : Int32} (hw : gW p' = gW p) (h : PT p a s p' a' r) (hS : HI p a i t) : HI p' a' i t := by
  obtain ⟨f1, f2, -⟩ := PT_fr h
  refine HI.cg hw ?_ (fun j => f1 _ _ (by simp) (by simp) (by simp) (by simp) (by simp)) (fun k j => f1 _ _ (by simp) (by simp) (by simp) (by simp) (by simp)) (fun j => f1 _ _ (by simp) (by simp) (by simp) (by simp) (by simp)) (f1 _ _ (by simp) (by simp) (by simp) (by simp) (by simp)) hS
  by_cases e : gW p i = s
  · rw [e]; exact f2
  · exact Or.inr (f1 _ _ (by simp) (fun w => e (by have := w.1; simp only [Prod.mk.injEq] at this; exact this.2.1)) (by simp) (by simp) (by simp))
theorem HG_PT {p p' : PP} {a a' : IF} {s t : Nat} {r : Int32} (h : PT p a s p' a' r) (hS : HG a t) : HG a' t := by
  obtain ⟨f1, f2, -⟩ := PT_fr h
  exact HG.cg (fun j => f1 _ _ (by simp) (by simp) (by simp) (by simp) (by simp)) (fun k j => f1 _ _ (by simp) (by simp) (by simp) (by simp) (by simp)) (fun j => f1 _ _ (by simp) (by simp) (by simp) (by simp) (by simp)) hS
theorem H_Tr {p0 : PP} {a0 : IF} {T : Nat} (hW : WF p0 a0) (hO : OK p0) (h1 : HG a0 T) (h2 : ∀ i, i < gT p0 → HI p0 a0 i T) : ∀ (t : Nat) (p : PP) (a : IF) (c : Int32), t ≤ gS p0 → Tr p0 a0 t p a c → HG a T ∧ ∀ i, i < gT p0 → HI p a i T := by
  intro t
  induction t with
  | zero => intro p a c _ h; obtain ⟨rfl, rfl, rfl⟩ := h; exact ⟨h1, h2⟩
  | succ t ih =>
    intro p a c ht h
    obtain ⟨p1, a1, c1, r, g1, g2, g3⟩ := h
    obtain ⟨k1, k2⟩ := ih p1 a1 c1 (by omega) g1
    obtain ⟨w, s⟩ := Tr_ok hW hO t p1 a1 c1 (by omega) g1
    obtain ⟨-, s2, -⟩ := PT_ok w (by rw [s.1]; exact hO t (by omega)) g2
    exact ⟨HG_PT g2 k1, fun i hi => HI_PT s2.2.2.2 g2 (k2 i hi)⟩
theorem HG.time {a : IF} {t : Nat} (h : HG a t) : HG a (t + 1) := h.mono (Nat.le_succ t)
theorem H_TK {p p' : PP} {a a' : IF} {c : Int32} {t : Nat} (hW : WF p a) (hO : OK p) (hnow : a (0, 0, 0) 8 = nI t) (ht : t + 1 ≤ 5000) (hT : ∀ i, i < gT p → TI p a i t) (hG : HG a t) (hH : ∀ i, i < gT p → HI p a i t) (h : TK p a p' a' c) : HG a' (t + 1) ∧ ∀ i, i < gT p → HI p' a' i (t + 1) := by
  have hw : WF p (up a (0, 0, 0) 8 (a (0, 0, 0) 8 + 1)) := WF_now hW (by rw [hnow, nI_1]; exact bn_nI (by omega) (by omega))
  have uo : ∀ r k z j, r ≠ 0 → up a (0, 0, 0) 8 (a (0, 0, 0) 8 + 1) (r, k, z) j = a (r, k, z) j := fun r k z j g => up_ne (fun q => by have := q.1; simp only [Prod.mk.injEq] at this; exact g this.1)
  have hT2 : TIs p (up a (0, 0, 0) 8 (a (0, 0, 0) 8 + 1)) t 0 := by
    intro k hk
    rw [if_neg (by omega)]
    have g := hT k hk
    unfold TI at *
    simp only [uo 6 _ _ _ (by decide), uo 15 _ _ _ (by decide), uo 14 _ _ _ (by decide)]
    exact g
  have hG2 : HG (up a (0, 0, 0) 8 (a (0, 0, 0) 8 + 1)) t := HG.cg (fun j => uo 4 _ _ _ (by decide)) (fun k j => uo 5 _ _ _ (by decide)) (fun j => uo 1 _ _ _ (by decide)) hG
  have hH2 : HIs p (up a (0, 0, 0) 8 (a (0, 0, 0) 8 + 1)) t 0 := by
    intro k hk
    rw [if_neg (by omega)]
    exact HI.cg rfl (Or.inr (uo 6 _ _ _ (by decide))) (fun j => uo 4 _ _ _ (by decide)) (fun k j => uo 5 _ _ _ (by decide)) (fun j => uo 14 _ _ _ (by decide)) (uo 15 _ _ _ (by decide)) (hH k hk)
  have so : ∀ r k z j, 1 ≤ r → r < 14 → samL p (up a (0, 0, 0) 8 (a (0, 0, 0) 8 + 1)) 0 (gT p) (r, k, z) j = a (r, k, z) j := fun r k z j q1 q2 => by rw [samL_o (Or.inl q2), uo r _ _ _ (by omega)]
  have h3 := HIs_samL ht (gT p) 0 _ (by omega) hw hT2 hG2 hH2
  refine H_Tr (WF_samL (gT p) 0 _ hw (by omega)) hO (HG.time (HG.cg (fun j => so 4 _ _ _ (by decide) (by decide)) (fun k j => so 5 _ _ _ (by decide) (by decide)) (fun j => so 1 _ _ _ (by decide) (by decide)) hG)) (fun i hi => ?_) (gS p) p' a' c (Nat.le_refl _) h
  have := h3 i hi
  rw [if_pos hi] at this; exact this
