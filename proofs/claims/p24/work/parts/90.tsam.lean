/-! The law's ticks: the sampling. -/
theorem qV_ok {sz c : Nat} {d x : Int32} {v : Nat → Int32} (hv : ∀ k, k < c → v k = nI (tn (v k)) ∧ tn (v k) ≤ 1000) (hx : x = nI (tn x) ∧ tn x ≤ 1000) (hc : c ≤ sz) (k : Nat) (hk : k < qN sz c) : qV sz c d v x k = nI (tn (qV sz c d v x k)) ∧ tn (qV sz c d v x k) ≤ 1000 := by
  have e : ∃ y, qV sz c d v x k = y ∧ y = nI (tn y) ∧ tn y ≤ 1000 := by
    unfold qN at hk
    unfold qV
    by_cases h : c < sz
    · rw [if_pos h] at hk ⊢
      unfold fu
      by_cases g : k = c
      · rw [if_pos g]; exact ⟨x, rfl, hx⟩
      · rw [if_neg g]; exact ⟨_, rfl, hv k (by omega)⟩
    · rw [if_neg h] at hk ⊢
      by_cases hd : d = 0
      · rw [if_pos hd]
        unfold fu
        by_cases g : k = sz - 1
        · rw [if_pos g]; exact ⟨x, rfl, hx⟩
        · rw [if_neg g]; exact ⟨_, rfl, hv k (by omega)⟩
      · rw [if_neg hd]
        unfold fu
        by_cases g : k = c - 1
        · rw [if_pos g]; exact ⟨x, rfl, hx⟩
        · rw [if_neg g]; unfold sh; rw [if_pos (by omega)]; exact ⟨_, rfl, hv (k + 1) (by omega)⟩
  obtain ⟨y, e1, e2⟩ := e
  rw [e1]; exact e2
/-- the item after a sample, on both sides -/
theorem EncI_enq {b I I' : IF} {i sz c cq : Nat} {d x : Int32} {v m : Nat → Int32} (h : EncI b I i) (s4 : sz ≤ 4) (hc : c ≤ sz) (hb27 : b (21, 27, 0) i = nI c) (hb26 : b (21, 26, 0) i = nI cq) (hv : ∀ k, k < 4 → b (21, 28, 0) (4 * i + k) = v k) (hx : x = nI (tn x) ∧ tn x ≤ 1000) (f2 : ∀ k, k = 2 ∨ k = 3 ∨ k = 7 → I' (23, k, 0) i = I (23, k, 0) i) (f4 : I' (23, 4, 0) i = x) (f5 : I' (23, 5, 0) i = nI (cq + 1)) (f6 : I' (23, 6, 0) i = nI (qN sz c)) (f8 : ∀ k, k < qN sz c → I' (23, 8, 0) (4 * i + k) = nI (2 * tn (qV sz c d v x k) + tn (qM sz c d m k))) : EncI (enqR b i sz c d v m x) I' i := by
  obtain ⟨g1, g2, g3, g4, g5, g6, g7, g8, g9⟩ := h
  have bl : ∀ k j, k < 25 → enqR b i sz c d v m x (21, k, 0) j = b (21, k, 0) j := fun k j q => enqR_o (Or.inl (nm_ne (by omega))) (Or.inl (nm_ne (by omega))) (Or.inl (nm_ne (by omega))) (Or.inl (nm_ne (by omega))) (Or.inl (nm_ne (by omega)))
  have e25 : enqR b i sz c d v m x (21, 25, 0) i = x := by rw [enqR, setR_on (by simp) (by simp) (by simp), up_same]
  have e26 : enqR b i sz c d v m x (21, 26, 0) i = nI (cq + 1) := by rw [enqR, setR_on (by simp) (by simp) (by simp), up_ne (by simp), up_same, hb26, nI_1]
  have e27 : enqR b i sz c d v m x (21, 27, 0) i = nI (qN sz c) := by rw [enqR, setR_c]
  have qn4 : qN sz c ≤ 4 := by unfold qN; split <;> omega
  have t27 : tn (b (21, 27, 0) i) = c := by rw [hb27, tn_nI (by omega)]
  rw [t27] at g9
  unfold EncI tkN
  rw [bl 16 _ (by decide), bl 17 _ (by decide), bl 18 _ (by decide), bl 19 _ (by decide), bl 20 _ (by decide), bl 21 _ (by decide), bl 22 _ (by decide), bl 23 _ (by decide), bl 24 _ (by decide), e25, e26, e27, f2 2 (by omega), f2 3 (by omega), f2 7 (by omega), f4, f5, f6, tn_nI (show qN sz c < 2 ^ 31 by omega)]
  refine ⟨g1, g2, g3, rfl, rfl, rfl, g7, qn4, fun k hk => ?_⟩
  have r28 : enqR b i sz c d v m x (21, 28, 0) (4 * i + k) = qV sz c d v x k := by rw [enqR, setR_v (by omega)]
  have r29 : enqR b i sz c d v m x (21, 29, 0) (4 * i + k) = qM sz c d m k := by rw [enqR, setR_m (by omega)]
  obtain ⟨w1, w2⟩ := qV_ok (d := d) (v := v) (fun k hk => by rw [← hv k (by omega)]; exact ⟨(g9 k hk).1, (g9 k hk).2.1⟩) hx hc k hk
  rw [r28, r29]
  exact ⟨w1, w2, f8 k hk⟩
set_option maxHeartbeats 2000000 in
theorem x_sampleS {p P : PP} {J : JF} {K : Int32 → PH → Prop} {Q : Int32 → PH → Prop} {a b I : IF} {i t f : Nat} (hM : MX p a b) (hW : WF p a) (hE : Enc p b I) (g2 : gS p ≤ 2) (g10 : gT p ≤ 10) (hnd2 : tn (a (14, i, 0) 2) ≤ 2) (hi : i < gT p) (ht : t + 1 ≤ 5000) (hb : b (20, 0, 0) 1 = nI (t + 1)) (hT : TI p a i t) (next : ∀ b' I', MX p (samA p a i) b' → Enc p b' I' → FR b b' → FL I I' → b' (20, 0, 0) 1 = nI (t + 1) → lL_tick_11 (23, 0, 0) (23, 1, 0) (23, 2, 0) (23, 3, 0) (23, 4, 0) (23, 5, 0) (23, 6, 0) (23, 7, 0) (23, 8, 0) (23, 9, 0) (23, 10, 0) (23, 11, 0) K Q f (nI (i + 1)) (S P I' J)) : lL_tick_11 (23, 0, 0) (23, 1, 0) (23, 2, 0) (23, 3, 0) (23, 4, 0) (23, 5, 0) (23, 6, 0) (23, 7, 0) (23, 8, 0) (23, 9, 0) (23, 10, 0) (23, 11, 0) K Q (f + 1) (nI i) (S P I J) := by
  have hsl := hW.1.2.2.2.2.2.1 i hi
  obtain ⟨h1, h2, h3, h4', h5, h6, sz, c, j1, j2, j3, j4, j5, j6⟩ := hW.2.1 i hi
  have hn := bn_tn h2 (by decide)
  have hbd := bn_tn h3 (by decide)
  have hls := bn_tn h4' (by decide)
  have hev := bn_tn h6 (by decide)
  obtain ⟨m1, m2, m3, m4, m5, m6, m7, m8, m9, m10, m11, m12, m13, m14⟩ := hM.2.2.1 i hi
  have hEI := hE.2.2.1 i hi
  obtain ⟨N, q2, hN, r1, rn, re, rs, rd, r6, rb⟩ := x_itm hW hM hE g2 hi
  have e2 : I (23, 11, 0) 2 = nI (gT p) := by rw [hE.2.2.2.2.2.2.1, hM.1.2.2.2.1, hW.1.2.2.1]
  have e0 : I (23, 11, 0) 0 = nI (t + 1) := by rw [hE.2.2.2.2.1, hb]
  have ci : (nI i).toNatClampNeg = i := nI_clamp (by omega)
  have e11 : 11 * nI (gW p i) = nI (11 * gW p i) := nI_mul 11 _
  have es : I (23, 1, 0) (11 * gW p i) = a (6, gW p i, 0) 7 := by
    have := hE.2.1 (gW p i) 0 (by omega) (by decide)
    rw [show 11 * gW p i + 0 = 11 * gW p i from rfl, show 4 + 0 = 4 from rfl] at this
    rw [this]; exact (hM.2.1 _ hsl).1.1
  have e3 : I (23, 3, 0) i = a (14, i, 0) 10 := by rw [hEI.2.2.1, m3]
  have v10 : ∀ {σ : PH} {m : Nm}, hL σ m = 10 → vp_in (nI i) (hL σ m) := fun e => vinL 10 e (by omega) (by decide)
  unfold lL_tick_11
  rw [hI_S, show Int32.toNatClampNeg 2 = 2 from rfl, show Int32.toNatClampNeg 0 = 0 from rfl, e2, e0, ci, q2, fld_sub, fld_every hN, r1, re, ← hev.1, e11, nI_clamp (show 11 * gW p i < 2 ^ 31 by omega), es, e3, nI_1]
  refine ⟨rfl, vinL (i := 2) 4 rfl (by decide) (by decide), fun q => ?_, fun _ => ⟨rfl, v10 rfl, rfl, vinL 22 rfl (by omega) (by decide), fun q => ?_, fun q => ⟨vinL (i := 0) 4 rfl (by decide) (by decide), rfl, v10 rfl, ?_⟩⟩⟩
  · rw [nI_leI (by omega) (by omega)] at q; omega
  · have e : a (6, gW p i, 0) 7 = 0 := by
      rcases (hW.2.2 _ hsl).1 with e | e
      · exact e
      · exact absurd e q
    refine next b I ?_ hE FR.rf FL.rf hb
    rw [samA, if_pos e]; exact hM
  · have e : ¬ a (6, gW p i, 0) 7 = 0 := by rw [q]; decide
    have hT := hT.resolve_left e
    obtain ⟨s1, s2, s3⟩ := hT.1.step ht
    obtain ⟨u, u1, u2, u3⟩ := hT.2
    refine ⟨s3, fun z => ?_, fun z => ?_⟩
    · refine next b I ?_ hE FR.rf FL.rf hb
      rw [samA, if_neg e, if_neg (fun y => z (s1.mp y))]
      exact MX_tick hM hi
    · have y := s1.mpr z
      obtain ⟨xv1, -, xv2⟩ := bn_tn (hW.1.2.2.2.2.1 (tn (a (14, i, 0) 2)) (by omega)) (by decide)
      have ts : tn (a (16, i, 0) 0) = sz := by rw [j1, tn_nI (by omega)]
      rw [ts] at rs
      have hfa : far (a (1, 0, 0) (tn (a (14, i, 0) 2))) (a (14, i, 0) 9) (a (14, i, 0) 3) ↔ awy (tn (a (1, 0, 0) (tn (a (14, i, 0) 2)))) (tn (a (14, i, 0) 9)) (N / 32768) := by
        have := far_awy (x := tn (a (1, 0, 0) (tn (a (14, i, 0) 2)))) (y := tn (a (14, i, 0) 9)) (bd := N / 32768) xv2 hls.2.2 (by rw [rb]; exact hbd.2.2)
        rw [← xv1, ← hls.1, rb, ← hbd.1] at this
        rw [rb]; exact this
      have g9 := hEI.2.2.2.2.2.2.2.2
      have t27 : tn (b (21, 27, 0) i) = c := by rw [m12, j4, tn_nI (by omega)]
      rw [t27] at g9
      refine x_sample (N := N) (cq := u) (x := tn (a (1, 0, 0) (tn (a (14, i, 0) 2)))) (ls := tn (a (14, i, 0) 9)) (c := c) (v := fun k => a (17, i, 0) k) (m := fun k => a (18, i, 0) k) (by omega) hN (by omega) (by rw [rb]; exact hbd.2.2) xv2 (by rw [rs]; exact j2) (by rw [rs]; exact j3) (by rw [rs]; exact j5) (by omega) j6 q2 ?_ (fun _ => ⟨?_, hls.2.2⟩) ?_ ?_ (fun k hk => ?_) (fun _ w => ?_) (fun w I' f1 f2 f3 f4 f5 f6 f8 => ?_)
      · rw [rn, ← xv1, hE.1 _ (by omega)]; exact hM.1.2.2.2.2 _ (by omega)
      · rw [hEI.2.2.2.1, m10]; exact hls.1
      · rw [hEI.2.2.2.2.1, m11, u3]
      · rw [hEI.2.2.2.2.2.1, m12, j4]
      · obtain ⟨-, -, w3⟩ := g9 k hk
        rw [m13 k (by omega), m14 k (by omega)] at w3; exact w3
      · refine next b I ?_ hE FR.rf FL.rf hb
        rw [samA, if_neg e, if_pos y, if_neg (fun w' => w (hfa.mp w'))]
        exact MX_tick (MX_tick hM hi) hi
      · have w := w.resolve_left (by omega)
        rw [rs, rd, ← xv1] at f8
        rw [rs] at f6
        rw [← xv1] at f4
        have hL : FL I I' := fun n j hn => f1 n j (fun z => hn (by rw [z])) (fun z => hn (by rw [z])) (fun z => hn (by rw [z])) (fun z => hn (by rw [z]))
        refine next (enqR b i sz c (a (16, i, 0) 1) (fun k => a (17, i, 0) k) (fun k => a (18, i, 0) k) (a (1, 0, 0) (tn (a (14, i, 0) 2)))) I' ?_ ?_ FR_enqR hL (by rw [enqR_o (Or.inl (by simp)) (Or.inl (by simp)) (Or.inl (by simp)) (Or.inl (by simp)) (Or.inl (by simp))]; exact hb)
        · rw [samA, if_neg e, if_pos y, if_pos (hfa.mpr w), j1, j4, tn, tn, nI_clamp (by omega), nI_clamp (by omega)]
          have key := MX_enq (d := a (16, i, 0) 1) (x := a (1, 0, 0) (tn (a (14, i, 0) 2))) (c := c) (MX_tick (v := a (15, i, 0) 0) (MX_tick (v := a (15, i, 0) 1 - 1) hM hi) hi) hi (show up (up a (15, i, 0) 1 (a (15, i, 0) 1 - 1)) (15, i, 0) 1 (a (15, i, 0) 0) (16, i, 0) 0 = nI sz by rw [up_ne (by simp), up_ne (by simp)]; exact j1)
          have e17 : (fun k => up (up a (15, i, 0) 1 (a (15, i, 0) 1 - 1)) (15, i, 0) 1 (a (15, i, 0) 0) (17, i, 0) k) = fun k => a (17, i, 0) k := by
            funext k; rw [up_ne (by simp), up_ne (by simp)]
          have e18 : (fun k => up (up a (15, i, 0) 1 (a (15, i, 0) 1 - 1)) (15, i, 0) 1 (a (15, i, 0) 0) (18, i, 0) k) = fun k => a (18, i, 0) k := by
            funext k; rw [up_ne (by simp), up_ne (by simp)]
          rw [e17, e18] at key
          exact key
        · have bo : ∀ N j, N ≠ (21, 25, 0) → N ≠ (21, 26, 0) → N ≠ (21, 27, 0) → N ≠ (21, 28, 0) → N ≠ (21, 29, 0) → enqR b i sz c (a (16, i, 0) 1) (fun k => a (17, i, 0) k) (fun k => a (18, i, 0) k) (a (1, 0, 0) (tn (a (14, i, 0) 2))) N j = b N j := fun N j a1 a2 a3 a4 a5 => enqR_o (Or.inl a1) (Or.inl a2) (Or.inl a3) (Or.inl a4) (Or.inl a5)
          refine hE.item (i := i) (Or.inl rfl) (fun k j g => bo _ _ (n21 (by omega)) (n21 (by omega)) (n21 (by omega)) (n21 (by omega)) (n21 (by omega))) (fun k j g1 g2 g3 => enqR_o (Or.inr g3) (Or.inr g3) (Or.inr g3) (Or.inl (n21 (by omega))) (Or.inl (n21 (by omega)))) (fun k j g1 g2 => enqR_o (Or.inl (n21 (by omega))) (Or.inl (n21 (by omega))) (Or.inl (n21 (by omega))) (Or.inr g2) (Or.inr g2)) (fun k j g => f1 _ _ (n23 (by omega)) (n23 (by omega)) (n23 (by omega)) (n23 (by omega))) (fun k j g1 g2 g3 => f2 k j (by omega) g3) f3 ?_ ?_
          · rw [f1 _ _ (by simp) (by simp) (by simp) (by simp), f1 _ _ (by simp) (by simp) (by simp) (by simp), f1 _ _ (by simp) (by simp) (by simp) (by simp), f1 _ _ (by simp) (by simp) (by simp) (by simp), bo _ _ (by simp) (by simp) (by simp) (by simp) (by simp), bo _ _ (by simp) (by simp) (by simp) (by simp) (by simp), bo _ _ (by simp) (by simp) (by simp) (by simp) (by simp), bo _ _ (by simp) (by simp) (by simp) (by simp) (by simp)]
            exact hE.2.2.2.2
          · exact EncI_enq (cq := u) hEI j3 j5 (by rw [m12, j4]) (by rw [m11, u3]) m13 ⟨xv1, xv2⟩ (fun k g => f1 _ _ (n23 (by omega)) (n23 (by omega)) (n23 (by omega)) (n23 (by omega))) f4 f5 f6 f8
theorem x_sampleL {p P : PP} {J : JF} {K : Int32 → PH → Prop} {Q : Int32 → PH → Prop} {t : Nat} (g2 : gS p ≤ 2) (g10 : gT p ≤ 10) (ht : t + 1 ≤ 5000) : ∀ (f i : Nat) (a b I : IF), MX p a b → WF p a → Enc p b I → (∀ k, k < gT p → tn (a (14, k, 0) 2) ≤ 2) → i + f = gT p → b (20, 0, 0) 1 = nI (t + 1) → TIs p a t i → (∀ b' I', MX p (samL p a i f) b' → Enc p b' I' → FR b b' → FL I I' → TIs p (samL p a i f) t (gT p) → K (nI (gT p)) (S P I' J)) → lL_tick_11 (23, 0, 0) (23, 1, 0) (23, 2, 0) (23, 3, 0) (23, 4, 0) (23, 5, 0) (23, 6, 0) (23, 7, 0) (23, 8, 0) (23, 9, 0) (23, 10, 0) (23, 11, 0) K Q (f + 1) (nI i) (S P I J) := by
  intro f
  induction f with
  | zero =>
    intro i a b I hM hW hE hnd hi hb hT hK
    have : i = gT p := by omega
    subst this
    have e2 : I (23, 11, 0) 2 = nI (gT p) := by rw [hE.2.2.2.2.2.2.1, hM.1.2.2.2.1, hW.1.2.2.1]
    unfold lL_tick_11
    refine ⟨rfl, vinL (i := 2) 4 rfl (by decide) (by decide), fun _ => hK b I hM hE FR.rf FL.rf hT, fun q => absurd ?_ q⟩
    rw [hI_S, show Int32.toNatClampNeg 2 = 2 from rfl, e2, nI_leI (by omega) (by omega)]; exact Nat.le_refl _
  | succ f ih =>
    intro i a b I hM hW hE hnd hi hb hT hK
    have g := hT i (by omega)
    rw [if_neg (by omega)] at g
    have s14 : ∀ k, samA p a i (14, k, 0) 2 = a (14, k, 0) 2 := by
      intro k
      unfold samA
      split
      · rfl
      · split
        · split
          · rw [enq, up_nj (by decide), up_nj (by decide), setQ_o (by simp) (by simp) (by simp), up_ne (by simp), up_ne (by simp)]
          · rw [up_ne (by simp), up_ne (by simp)]
        · rw [up_ne (by simp)]
    refine x_sampleS hM hW hE g2 g10 (hnd i (by omega)) (by omega) ht hb g (fun b' I' k1 k2 k3 k4 k5 => ?_)
    exact ih (i + 1) _ b' I' k1 (WF_samA hW (by omega)) k2 (fun k hk => by rw [s14]; exact hnd k hk) (by omega) k5 (TIs_samA ht (by omega) hT) (fun b2 I2 l1 l2 l3 l4 l5 => hK b2 I2 l1 l2 (k3.tr l3) (k4.tr l4) l5)
