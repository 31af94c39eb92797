/-! The class counts anew what an item queued. -/
theorem c_vb {p : PP} {I : IF} {J : JF} {t nd : Nat} {p1 : Int32} (hG : HG I t) (h512 : hC I ≤ 512) (hnd : nd < 10) {Q K : Int32 → PH → Prop} (hK0 : ∀ y, Q 0 (S p I J) → K y (S p I J)) : ∀ k, k ≤ hC I → (∀ k, k < hC I → hNd I k < 10) → Q (nI (vbf (hNd I) (hVl I) nd k)) (S p I J) → l0_valueBefore_4 (4, 0, 0) p1 (nI nd) K Q (k + 1) (nI k - 1) (S p I J) := by
  intro k
  induction k with
  | zero =>
    intro _ _ hQ
    unfold l0_valueBefore_4
    exact ⟨fun _ => hK0 _ hQ, fun q => absurd (by decide) q⟩
  | succ k ih =>
    intro hk hb hQ
    obtain ⟨g1, g2, g3, g4, g5, -⟩ := hG.2.1 k (by omega)
    rw [nI_sub1 (by omega), Nat.add_sub_cancel]
    unfold l0_valueBefore_4
    refine ⟨fun q => ?_, fun _ => ⟨rfl, _, rfl, rfl, vinL 512 rfl (by omega) (by decide), ?_⟩⟩
    · rw [nI_lt0 (by omega)] at q; exact q.elim
    · rw [hI_S, nI_clamp (by omega), g3, vbf] at *
      refine ⟨fun q => ?_, fun q => ⟨_, rfl, rfl, vinL 512 rfl (by omega) (by decide), ?_⟩⟩
      · have e : ¬ hNd I k = nd := fun z => q (by rw [z])
        rw [if_neg e] at hQ
        rw [← Int32.sub_eq_add_neg]
        exact ih (by omega) hb hQ
      · have e : hNd I k = nd := (nI_eq (by have := hb k (by omega); omega) (by omega)).mp q
        rw [if_pos e] at hQ
        rw [g4]; exact hQ
theorem c_smp {p : PP} {I : IF} {J : JF} {i E ad f u : Nat} (hi : i < gT p) (hE : I (15, i, 0) 0 = nI E) (h1 : 1 ≤ E) (h2 : E ≤ 20) (ha : I (14, i, 0) 10 = nI ad) (hf : ad ≤ f) (hu : ad ≤ u) (hf5 : f ≤ 5000) (hu5 : u ≤ 5000) {Q : Int32 → PH → Prop} (q1 : smp E ad f u → Q 1 (S p I J)) (q0 : ¬ smp E ad f u → Q 0 (S p I J)) : w0_isSampled (4, 0, 0) (14, i, 0) (nI f) (nI u) (S p I J) Q := by
  unfold w0_isSampled
  have d1 : (u - ad) / E < 2 ^ 31 := Nat.lt_of_le_of_lt (Nat.div_le_self _ _) (by omega)
  have d2 : (f - ad) / E < 2 ^ 31 := Nat.lt_of_le_of_lt (Nat.div_le_self _ _) (by omega)
  refine ⟨kq14 hi, _, rq144 hi, kq15 hi, ?_⟩
  rw [hI_S, hE, ha, nI_sub hu, nI_sub hf, pk_div (by omega) (by omega) (by omega), pk_div (by omega) (by omega) (by omega), nI_leI d1 d2, show (1 : Int32) = nI 1 from rfl, nI_leI (by omega) (by omega), nI_e0 (by omega)]
  refine ⟨fun _ => ⟨by omega, by omega, fun w => q0 (fun z => ?_), fun w => q1 ?_⟩, fun w => by omega⟩
  · exact absurd z (by show ¬ _ < _; omega)
  · show _ < _; omega
set_option maxHeartbeats 1000000 in
theorem c_countL {p : PP} {I : IF} {J : JF} {i t E ad nd bd w : Nat} {x1 r0 : Int32} {σ0 : PH} (hi : i < gT p) (hG : HG I t) (h512 : hC I ≤ 512) (hb : ∀ k, k < hC I → hNd I k < 10) (ht : t ≤ 5000) (hE : I (15, i, 0) 0 = nI E) (h1 : 1 ≤ E) (h2 : E ≤ 20) (ha : I (14, i, 0) 10 = nI ad) (hat : ad ≤ t) (hnd : I (14, i, 0) 2 = nI nd) (hnd9 : nd ≤ 9) (hbd : I (14, i, 0) 3 = nI bd) (hbd9 : bd ≤ 1000) (hw : ∀ k, w ≤ k → k < hC I → ad ≤ hTk I k) {K : Int32 → Int32 → Int32 → Int32 → Int32 → PH → Prop} {Q : Int32 → PH → Prop} : ∀ (d n : Nat), w + n + d = hC I → (∀ m, w + m = hC I → let r := hst (hTk I) (hNd I) (hVl I) nd E ad bd w m; K (nI r.2.2.1) (nI r.2.1) (nI r.2.2.2) (nI r.1) (nI (hC I)) (S p I J)) → (let r := hst (hTk I) (hNd I) (hVl I) nd E ad bd w n; r.2.2.1 ≤ 1000 ∧ r.2.1 ≤ 1000 ∧ r.1 ≤ 1 + n) → (let r := hst (hTk I) (hNd I) (hVl I) nd E ad bd w n; l0_countQueued_31 (4, 0, 0) (14, i, 0) x1 r0 σ0 K Q (d + 1) (nI r.2.2.1) (nI r.2.1) (nI r.2.2.2) (nI r.1) (nI (w + n)) (S p I J)) := by
  intro d
  induction d with
  | zero =>
    intro n h hK _
    have hn := hK n (by omega)
    dsimp only at hn ⊢
    rw [show w + n = hC I by omega]
    unfold l0_countQueued_31
    refine ⟨rfl, fun _ => hn, fun q => absurd ?_ q⟩
    rw [hI_S, hG.1, nI_leI (by omega) (by omega)]; exact Nat.le_refl _
  | succ d ih =>
    intro n h hK hr
    have g := ih (n + 1) (by omega) hK
    obtain ⟨f1, f2⟩ := hst_f (ht := hTk I) (hn := hNd I) (hv := hVl I) (nd := nd) (e := E) (bd := bd) (w := w) hat n (fun k k1 k2 => ⟨hw k k1 (by omega), (hG.2.1 k (by omega)).2.1⟩)
    obtain ⟨g1, g2, g3, g4, g5, -⟩ := hG.2.1 (w + n) (by omega)
    have hbn := hb (w + n) (by omega)
    have hwn := hw (w + n) (by omega) (by omega)
    rw [hst] at g
    generalize hst (hTk I) (hNd I) (hVl I) nd E ad bd w n = r at g f1 f2 hr ⊢
    dsimp only at g hr ⊢
    obtain ⟨b1, b2, b3⟩ := hr
    have v512 : ∀ {σ : PH} {N : Nm}, hL σ N = 512 → vp_in (nI (w + n)) (hL σ N) := fun e => vinL 512 e (by omega) (by decide)
    unfold l0_countQueued_31
    refine ⟨rfl, fun q => ?_, fun _ => ⟨_, rfl, rfl, v512 rfl, kq14 hi, ?_⟩⟩
    · rw [hI_S, hG.1, nI_leI (by omega) (by omega)] at q; omega
    · rw [hI_S, nI_clamp (by omega), g3, hnd, nI_1, show w + n + 1 = w + (n + 1) by omega]
      refine ⟨fun q => ?_, fun q => ⟨_, rfl, rfl, v512 rfl, ?_⟩⟩
      · have e : ¬ hNd I (w + n) = nd := fun z => q (by rw [z])
        rw [if_neg e] at g
        exact g ⟨b1, b2, by omega⟩
      · have e : hNd I (w + n) = nd := (nI_eq (by omega) (by omega)).mp q
        rw [if_pos e] at g
        rw [g1]
        refine c_smp hi hE h1 h2 ha f1 hwn (by omega) (by omega) (fun s => ⟨fun z => absurd z (by decide), fun _ => ?_⟩) (fun s => ⟨fun _ => ?_, fun z => absurd rfl z⟩)
        · refine c_leaves hi (fun y => ⟨fun _ => ⟨_, rfl, rfl, v512 rfl, _, rfl, rfl, v512 rfl, ?_⟩, fun z => absurd rfl z⟩) (fun y => ⟨fun z => absurd z (by decide), fun _ => ⟨_, rfl, rfl, v512 rfl, _, rfl, rfl, v512 rfl, ?_⟩⟩)
          · rw [hbd, far_awy b1 b2 hbd9] at y
            rw [hsp, if_neg (fun z => y z.2)] at g
            rw [hI_S, g4, g1]
            exact g ⟨g5, b2, by show r.1 ≤ _; omega⟩
          · rw [hbd, far_awy b1 b2 hbd9] at y
            rw [hsp, if_pos ⟨s, y⟩] at g
            rw [hI_S, g4, g1, nI_1]
            exact g ⟨g5, b1, by show r.1 + 1 ≤ _; omega⟩
        · refine ⟨_, rfl, rfl, v512 rfl, _, rfl, rfl, v512 rfl, ?_⟩
          rw [hsp, if_neg (fun z => s z.1)] at g
          rw [hI_S, g4, g1]
          exact g ⟨g5, b2, by show r.1 ≤ _; omega⟩
theorem hst_l {ht hn hv : Nat → Nat} {nd e ad bd w : Nat} : ∀ n, (∀ k, k < w + n → hv k ≤ 1000) → (hst ht hn hv nd e ad bd w n).2.1 ≤ 1000 := by
  intro n
  induction n with
  | zero => intro h; exact vbf_le _ (fun k hk => h k (by omega))
  | succ n ih =>
    intro h
    have g := ih (fun k hk => h k (by omega))
    have v : (hst ht hn hv nd e ad bd w n).2.2.1 ≤ 1000 := by rw [hst_v]; exact vbf_le _ (fun k hk => h k (by omega))
    rw [hst]
    split
    · unfold hsp; split
      · exact v
      · exact g
    · exact g
theorem c_count {p : PP} {I : IF} {J : JF} {i t : Nat} (hW : WF p I) (hi : i < gT p) (hG : HG I t) (h512 : hC I ≤ 512) (ht : t ≤ 5000) (hl : I (6, gW p i, 0) 7 ≠ 0) (hT : TI p I i t) (hH : HI p I i t) {Q : Int32 → PH → Prop} (hQ : Q (I (14, i, 0) 8) (S p I J)) : w0_countQueued (4, 0, 0) (14, i, 0) (nI t) (S p I J) Q := by
  have hT := hT.resolve_left hl
  obtain ⟨w1, w2, w3, w4, w5⟩ := hH.resolve_left hl
  obtain ⟨g1, g2, g3, g4, g5, g6, -⟩ := hW.2.1 i hi
  obtain ⟨nd1, -, nd2⟩ := bn_tn g2 (by decide)
  obtain ⟨bd1, -, bd2⟩ := bn_tn g3 (by decide)
  obtain ⟨E, x, hE, hE1, hE2, hx, hxt, hl2⟩ := hT.1
  obtain ⟨q, hq1, hq2, hq3⟩ := hT.2
  have tx : tn (I (14, i, 0) 10) = x := by rw [hx, tn_nI (by omega)]
  have tE : tn (I (15, i, 0) 0) = E := by rw [hE, tn_nI (by omega)]
  have tq : tn (I (14, i, 0) 8) = q := by rw [hq3, tn_nI (by omega)]
  have hb : ∀ k, k < hC I → hNd I k < 10 := fun k hk => (hG.2.1 k hk).2.2.2.2.2
  rw [tE, tx, tq] at w5
  unfold hR_ at w5
  rw [tE, tx] at w5
  rw [tx] at w4
  have hv0 : vbf (hNd I) (hVl I) (tn (I (14, i, 0) 2)) (tn (I (14, i, 0) 11)) ≤ 1000 := vbf_le _ (fun k hk => (hG.2.1 k (by omega)).2.2.2.2.1)
  unfold w0_countQueued
  refine ⟨kq14 hi, rfl, ?_⟩
  unfold w0_valueBefore
  rw [hI_S, w1, nd1]
  refine ⟨tn (I (14, i, 0) 11) + 1, ?_⟩
  apply c_vb (nd := tn (I (14, i, 0) 2)) hG h512 (by omega) (hK0 := ?_) (tn (I (14, i, 0) 11)) w2 hb
  rotate_left
  · exact fun _ z => z
  refine ⟨hC I - tn (I (14, i, 0) 11) + 1, ?_⟩
  rw [hI_S, hx]
  have key := c_countL (J := J) (x1 := nI t) (r0 := nI (vbf (hNd I) (hVl I) (tn (I (14, i, 0) 2)) (tn (I (14, i, 0) 11)))) (σ0 := S p I J) (Q := Q) (nd := tn (I (14, i, 0) 2)) (bd := tn (I (14, i, 0) 3)) (w := tn (I (14, i, 0) 11)) hi hG h512 hb ht hE hE1 hE2 hx hxt nd1 nd2 bd1 bd2 w4 (K := fun y1 y2 y3 y4 y5 τ1 => hK τ1 (4, 0, 0) = 1 ∧ w0_isSampled (4, 0, 0) (14, i, 0) y3 (nI t) τ1 (fun r4 σ4 => ((r4 = 0 → Q y4 σ4) ∧ (¬ (r4 = 0) → hK σ4 (14, i, 0) = 2 ∧ w1_leavesBand (14, i, 0) y1 y2 σ4 (fun r5 σ5 => ((r5 = 0 → Q y4 σ5) ∧ (¬ (r5 = 0) → Q (y4 + 1) σ5))))))) (hC I - tn (I (14, i, 0) 11)) 0 (by omega) (fun m hm => ?_) ⟨hv0, hv0, Nat.le_refl _⟩
  · dsimp only at key
    rw [show nI (tn (I (14, i, 0) 11) + 0) = I (14, i, 0) 11 from w1.symm] at key
    exact key
  · have em : m = hC I - tn (I (14, i, 0) 11) := by omega
    subst em
    dsimp only
    obtain ⟨f1, f2⟩ := hst_f (ht := hTk I) (hn := hNd I) (hv := hVl I) (nd := tn (I (14, i, 0) 2)) (e := E) (bd := tn (I (14, i, 0) 3)) (w := tn (I (14, i, 0) 11)) hxt (hC I - tn (I (14, i, 0) 11)) (fun k k1 k2 => ⟨w4 k k1 (by omega), (hG.2.1 k (by omega)).2.1⟩)
    have hlast : (hst (hTk I) (hNd I) (hVl I) (tn (I (14, i, 0) 2)) E x (tn (I (14, i, 0) 3)) (tn (I (14, i, 0) 11)) (hC I - tn (I (14, i, 0) 11))).2.1 ≤ 1000 := by
      exact hst_l _ (fun k hk => (hG.2.1 k (by omega)).2.2.2.2.1)
    have hval := hst_v (ht := hTk I) (hn := hNd I) (hv := hVl I) (nd := tn (I (14, i, 0) 2)) (e := E) (ad := x) (bd := tn (I (14, i, 0) 3)) (w := tn (I (14, i, 0) 11)) (hC I - tn (I (14, i, 0) 11))
    have hval1 : (hst (hTk I) (hNd I) (hVl I) (tn (I (14, i, 0) 2)) E x (tn (I (14, i, 0) 3)) (tn (I (14, i, 0) 11)) (hC I - tn (I (14, i, 0) 11))).2.2.1 ≤ 1000 := by
      rw [hval]; exact vbf_le _ (fun k hk => (hG.2.1 k (by omega)).2.2.2.2.1)
    generalize hst (hTk I) (hNd I) (hVl I) (tn (I (14, i, 0) 2)) E x (tn (I (14, i, 0) 3)) (tn (I (14, i, 0) 11)) (hC I - tn (I (14, i, 0) 11)) = r at w5 f1 f2 hlast hval1 ⊢
    rw [hq3] at hQ
    refine ⟨rfl, c_smp hi hE hE1 hE2 hx f1 hxt (by omega) (by omega) (fun s => ⟨fun z => absurd z (by decide), fun _ => ⟨kq14 hi, c_leaves hi (fun y => ⟨fun _ => ?_, fun z => absurd rfl z⟩) (fun y => ⟨fun z => absurd z (by decide), fun _ => ?_⟩)⟩⟩) (fun s => ⟨fun _ => ?_, fun z => absurd rfl z⟩)⟩
    · rw [bd1, far_awy hval1 hlast bd2] at y
      rw [(w5.2 (fun z => y z.2)).1] at hQ; exact hQ
    · rw [bd1, far_awy hval1 hlast bd2] at y
      rw [(w5.1 ⟨s, y⟩).1] at hQ
      rw [nI_1]; exact hQ
    · rw [(w5.2 (fun z => s z.1)).1] at hQ; exact hQ
