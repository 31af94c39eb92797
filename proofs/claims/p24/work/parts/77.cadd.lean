/-! add: the class's call. -/
def adI (I I2 : IF) (i s c : Nat) (p2 p3 p4 p5 p6 : Int32) : Prop := (I2 (14, i, 0) 0 = nI i ∧ I2 (14, i, 0) 2 = p2 ∧ I2 (14, i, 0) 3 = p6 ∧ I2 (14, i, 0) 6 = 1 ∧ I2 (14, i, 0) 7 = 0 ∧ I2 (14, i, 0) 8 = 0 ∧ I2 (14, i, 0) 9 = 0) ∧ (I2 (15, i, 0) 0 = p3 ∧ I2 (15, i, 0) 1 = p3) ∧ (I2 (16, i, 0) 0 = p4 ∧ I2 (16, i, 0) 1 = p5 ∧ I2 (16, i, 0) 4 = 0 ∧ (∀ k, I2 (17, i, 0) k = 0) ∧ ∀ k, I2 (18, i, 0) k = 0) ∧ I2 (0, 0, 0) 6 = nI (i + 1) ∧ I2 (6, s, 0) 8 = nI (c + 1) ∧ ∀ n j, n ≠ (14, i, 0) → n ≠ (15, i, 0) → n ≠ (16, i, 0) → n ≠ (17, i, 0) → n ≠ (18, i, 0) → ¬ (n = (0, 0, 0) ∧ j = 6) → ¬ (n = (6, s, 0) ∧ j = 8) → I2 n j = I n j
/-- set up, before its first sample -/
def adB (I I2 : IF) (i : Nat) : IF := up (up I2 (14, i, 0) 10 (I (0, 0, 0) 8)) (14, i, 0) 11 (I (4, 0, 0) 3)
def adC (I I2 : IF) (i nd sz : Nat) (d : Int32) : IF := enq (adB I I2 i) i sz 0 d (fun k => adB I I2 i (17, i, 0) k) (fun k => adB I I2 i (18, i, 0) k) (I (1, 0, 0) nd)
theorem Kz14 {p : PP} {r i : Nat} (h : ¬ i < gT p) (hr : r = 14 ∨ r = 15 ∨ r = 16 ∨ r = 17 ∨ r = 18) : Kf p (r, i, 0) = 0 := by
  rcases hr with rfl | rfl | rfl | rfl | rfl
  · exact if_neg (fun q => h q.1)
  · exact if_neg (fun q => h q.1)
  · exact if_neg (fun q => h q.1)
  · exact if_neg (fun q => h q.1)
  · exact if_neg (fun q => h q.1)
theorem c_take {σ : PH} {p' : PP} {s i c : Nat} {Q : PH → Prop} (k5 : hK σ (6, s, 0) = 5) (e8 : hI σ (6, s, 0) 8 = nI c) (hc : c < 16) (r5 : hR σ (6, s, 0) 5 = some (8, s, 0)) (k8 : hK σ (8, s, 0) = 11) (l8 : hL σ (8, s, 0) = 16) (ki : hK σ (14, i, 0) = 2) (h1 : hK σ = Kf p') (h2 : hL σ = Lf p') (h3 : hR (sR σ (8, s, 0) c (some (14, i, 0))) = Rf p') (hQ : Q (S p' (up (hI σ) (6, s, 0) 8 (nI (c + 1))) (hJ σ))) : w4_take (6, s, 0) (14, i, 0) σ Q := by
  unfold w4_take
  rw [e8]
  refine ⟨k5, fun w => ?_, fun _ => ⟨_, r5, k8, vinL 16 l8 hc (by decide), ki, ?_⟩⟩
  · rw [show (16 : Int32) = nI 16 from rfl, nI_leI (by decide) (by omega)] at w; omega
  · rw [forall_eq, forall_eq, nI_clamp (by omega)]
    have : hI (sR σ (8, s, 0) c (some (14, i, 0))) (6, s, 0) 8 + 1 = nI (c + 1) := by rw [hI_sR, e8, nI_1]
    rw [this]
    rw [S_of (p := p') (σ := sI (sR σ (8, s, 0) c (some (14, i, 0))) (6, s, 0) 8 (nI (c + 1))) h1 h2 h3]
    exact hQ
theorem c_begin1 {p p' : PP} {I I2 : IF} {J : JF} {i s c nd sz : Nat} {p2 p3 p4 p5 p6 : Int32} {Q : PH → Prop} (hi : i < gT p') (f : adI I I2 i s c p2 p3 p4 p5 p6) (hsz : p4 = nI sz) (s1 : 1 ≤ sz) (s4 : sz ≤ 4) (hQ : Q (S p' (adC I I2 i nd sz p5) J)) : w1_begin (14, i, 0) (I (0, 0, 0) 8) (I (4, 0, 0) 3) (I (1, 0, 0) nd) (S p' I2 J) Q := by
  obtain ⟨-, -, ⟨q0, q1, q4, q7, q8⟩, -⟩ := f
  have o : ∀ r j, r ≠ 14 → adB I I2 i (r, i, 0) j = I2 (r, i, 0) j := fun r j g => by
    have : ¬ ((r, i, 0) : Nm) = (14, i, 0) := fun e => by simp only [Prod.mk.injEq] at e; exact g e.1
    rw [adB, up_ne (fun q => this q.1), up_ne (fun q => this q.1)]
  unfold w1_begin
  refine ⟨kq14 hi, ?_⟩
  rw [forall_eq, forall_eq, sI_S, sI_S]
  refine c_enqueue (sz := sz) (c := 0) (d := p5) (v := fun k => adB I I2 i (17, i, 0) k) (m := fun k => adB I I2 i (18, i, 0) k) hi ⟨?_, fun k => rfl, fun k => rfl⟩ s1 s4 (Nat.zero_le _) (fun k => ?_) ?_ ?_ hQ
  · exact (o 16 4 (by decide)).trans q4
  · show zb (adB I I2 i (18, i, 0) k)
    rw [o 18 k (by decide), q8]; exact zb0
  · exact (o 16 0 (by decide)).trans (q0.trans hsz)
  · exact (o 16 1 (by decide)).trans q1
set_option maxHeartbeats 16000000 in
theorem c_add {p : PP} {I : IF} {J : JF} {p1 p2 p3 p4 p5 p6 : Int32} (hW : WF p I) (hz : zb p5) {Q : Int32 → PH → Prop} {X : String → PH → Prop} (h1 : ¬ ((∃ s, s < gS p ∧ p1 = nI s ∧ I (6, s, 0) 7 ≠ 0) ∧ bn p2 0 9) → X xIO (S p I J)) (h2 : ((∃ s, s < gS p ∧ p1 = nI s ∧ I (6, s, 0) 7 ≠ 0) ∧ bn p2 0 9) → ¬ (bn p3 1 20 ∧ bn p4 1 4 ∧ bn p6 0 1000) → X xIA (S p I J)) (h3 : ((∃ s, s < gS p ∧ p1 = nI s ∧ I (6, s, 0) 7 ≠ 0) ∧ bn p2 0 9) → (bn p3 1 20 ∧ bn p4 1 4 ∧ bn p6 0 1000) → gT p = 16 → X xIS (S p I J)) (h4 : ((∃ s, s < gS p ∧ p1 = nI s ∧ I (6, s, 0) 7 ≠ 0) ∧ bn p2 0 9) → (bn p3 1 20 ∧ bn p4 1 4 ∧ bn p6 0 1000) → gT p < 16 → ∀ s nd sz, s < gS p → p1 = nI s → I (6, s, 0) 7 ≠ 0 → nd < 10 → p2 = nI nd → 1 ≤ sz → sz ≤ 4 → p4 = nI sz → ∀ I2 J2, adI I I2 (gT p) s (cnt (gW p) s (gT p)) p2 p3 p4 p5 p6 → Q (nI (gT p)) (S (wT p s) (adC I I2 (gT p) nd sz p5) J2)) : w6_add (0, 0, 0) p1 p2 p3 p4 p5 p6 (S p I J) Q X := by
  have h6 := hW.1.2.2.1
  have h16 := hW.1.2.2.2.1
  unfold w6_add
  refine ⟨rfl, c_openS hW (fun s hs e l => ?_) (fun hn => h1 (fun q => ?_))⟩
  case refine_2 =>
    obtain ⟨⟨s, g1, g2, g3⟩, -⟩ := q
    exact g3 (hn s g1 g2)
  have hsub : ∃ s, s < gS p ∧ p1 = nI s ∧ I (6, s, 0) 7 ≠ 0 := ⟨s, hs, e, l⟩
  unfold w6_checkNode
  refine ⟨fun q => h1 (fun g => ?_), fun q => ⟨fun w => ?_, fun w => h1 (fun g => ?_)⟩⟩
  · obtain ⟨k, k1, k2, k3⟩ := g.2
    rw [k3, nI_lt0 (by omega)] at q; exact q.elim
  case refine_3 =>
    obtain ⟨k, k1, k2, k3⟩ := g.2
    rw [k3, show (10 : Int32) = nI 10 from rfl, nI_ltI (by omega) (by decide)] at w; omega
  obtain ⟨nd, hnd31, hnd⟩ := nI_of q
  rw [hnd, show (10 : Int32) = nI 10 from rfl, nI_ltI hnd31 (by decide)] at w
  have hnode : bn p2 0 9 := ⟨nd, Nat.zero_le _, by omega, hnd⟩
  refine c_rng (lo := 1) (hi := 20) (by decide) (by decide) (fun k1 a1 b1 e1 => c_rng (lo := 1) (hi := 4) (by decide) (by decide) (fun sz a2 b2 e2 => c_rng (lo := 0) (hi := 1000) (by decide) (by decide) (fun k3 a3 b3 e3 => ⟨fun v => ?_, fun v => ?_⟩) (fun hn => h2 ⟨hsub, hnode⟩ (fun g => bn_no hn g.2.2))) (fun hn => h2 ⟨hsub, hnode⟩ (fun g => bn_no hn g.2.1))) (fun hn => h2 ⟨hsub, hnode⟩ (fun g => bn_no hn g.1))
  case refine_2 =>
    rw [hI_S, h6, show (16 : Int32) = nI 16 from rfl, nI_ltI (by omega) (by decide)] at v
    exact h3 ⟨hsub, hnode⟩ ⟨⟨k1, a1, b1, e1⟩, ⟨sz, a2, b2, e2⟩, ⟨k3, a3, b3, e3⟩⟩ (by omega)
  rw [hI_S, h6] at v ⊢
  rw [show (16 : Int32) = nI 16 from rfl, nI_ltI (by omega) (by decide)] at v
  have h4' := h4 ⟨hsub, hnode⟩ ⟨⟨k1, a1, b1, e1⟩, ⟨sz, a2, b2, e2⟩, ⟨k3, a3, b3, e3⟩⟩ v s nd sz hs e l w hnd a2 b2 e2
  have z14 : Kf p (14, gT p, 0) = 0 := Kz14 (by omega) (by decide)
  have z15 : Kf p (15, gT p, 0) = 0 := Kz14 (by omega) (by decide)
  have z16 : Kf p (16, gT p, 0) = 0 := Kz14 (by omega) (by decide)
  have z17 : Kf p (17, gT p, 0) = 0 := Kz14 (by omega) (by decide)
  have z18 : Kf p (18, gT p, 0) = 0 := Kz14 (by omega) (by decide)
  have y6 : Kf p (6, s, 0) = 5 := kq6 hs
  refine ⟨(14, gT p, 0), z14, (6, s, 0), rfl, by rw [hK_S, y6]; decide, ?_⟩
  rw [forall_eq]
  refine ⟨(16, gT p, 0), by simp [hK_sN, hK_S, z16], by simp [hK_sN, hK_S, y6], ?_⟩
  rw [forall_eq]
  refine ⟨by simp [hK_sN, hK_S, y6], ?_⟩
  unfold w3_init
  refine ⟨(17, gT p, 0), by simp [hK_sN, hK_S, z17], by simp [hK_sN], ?_⟩
  rw [forall_eq]
  refine ⟨by simp [hK_sN], ?_⟩
  rw [forall_eq]
  refine ⟨(18, gT p, 0), by simp [hK_sN, hK_sR, hK_S, z18], ?_⟩
  rw [forall_eq, forall_eq, forall_eq, forall_eq]
  refine ⟨hz, ?_⟩
  rw [forall_eq]
  refine ⟨by simp [hK_sN, hK_sI, hK_sR, hK_S, y6], ?_⟩
  unfold w1_init
  refine ⟨by simp [hK_sN, hK_sI, hK_sR, hK_S], ?_⟩
  rw [forall_eq, forall_eq, forall_eq, forall_eq, forall_eq, forall_eq, forall_eq]
  refine ⟨by simp [hK_sN, hK_sI, hK_sR, hK_S, y6], ?_⟩
  rw [forall_eq, forall_eq, forall_eq]
  refine ⟨(15, gT p, 0), by simp [hK_sN, hK_sI, hK_sR, hK_S, z15], by simp [hK_sN, hK_sI, hK_sR, hK_S], ?_⟩
  rw [forall_eq]
  unfold w5_init
  refine ⟨by simp [hK_sN], ?_⟩
  rw [forall_eq, forall_eq, forall_eq]
  refine ⟨by simp [hK_sN, hK_sI, hK_sR, hK_S], ?_⟩
  rw [forall_eq]
  refine ⟨(3, 0, 0), by simp [hR_sI, hR_sN, hR_sR, hR_S, rq03], by simp [hK_sI, hK_sN, hK_sR, hK_S, kq3], ?_, ?_⟩
  · exact vinL 16 (by simp [hL_sI, hL_sN, hL_sR, hL_S, lq3]) v (by decide)
  rw [forall_eq, forall_eq, nI_clamp (by omega)]
  refine ⟨by simp [hK_sI, hK_sN, hK_sR, hK_S, y6], ?_⟩
  have hcl := cnt_le (gW p) s (gT p)
  have e8 : I (6, s, 0) 8 = nI (cnt (gW p) s (gT p)) := (hW.2.2 s hs).2.2.2.2.1
  refine c_take (p' := wT p s) (c := cnt (gW p) s (gT p)) ?_ ?_ (by omega) ?_ ?_ ?_ ?_ ?_ ?_ ?_ ?_
  · simp [hK_sI, hK_sN, hK_sR, hK_S, y6]
  · simp [hI_sI, hI_sN, hI_sR, hI_S, e8]
  · simp [hR_sI, hR_sN, hR_sR, hR_S, rq65 hs]
  · simp [hK_sI, hK_sN, hK_sR, hK_S, kq8 hs]
  · simp [hL_sI, hL_sN, hL_sR, hL_S, lq8 hs]
  · simp [hK_sI, hK_sN, hK_sR, hK_S]
  · rw [Kf_wt]; rfl
  · rw [Lf_wt]; rfl
  · rw [Rf_wt hs]; rfl
  · have hi' : gT p < gT (wT p s) := Nat.lt_succ_self _
    refine ⟨(4, 0, 0), rfl, rfl, (1, 0, 0), rfl, rfl, by rw [hnd]; exact vinL 10 rfl w (by decide), ?_⟩
    generalize hJ2 : hJ _ = J2
    have fac : ∀ I2, adI I I2 (gT p) s (cnt (gW p) s (gT p)) p2 p3 p4 p5 p6 → w1_begin (14, gT p, 0) (hI (S (wT p s) I2 J2) (0, 0, 0) 8) (hI (S (wT p s) I2 J2) (4, 0, 0) 3) (hI (S (wT p s) I2 J2) (1, 0, 0) (Int32.toNatClampNeg p2)) (S (wT p s) I2 J2) (fun σ13 => Q (nI (gT p)) σ13) := by
      intro I2 f
      have f' := f
      obtain ⟨-, -, -, -, -, fr⟩ := f'
      rw [hI_S, fr _ _ (by simp) (by simp) (by simp) (by simp) (by simp) (by simp) (by simp), fr _ _ (by simp) (by simp) (by simp) (by simp) (by simp) (by simp) (by simp), hnd, nI_clamp hnd31, fr _ _ (by simp) (by simp) (by simp) (by simp) (by simp) (by simp) (by simp)]
      exact c_begin1 (p := p) hi' f e2 a2 b2 (h4' I2 J2 f)
    refine fac _ ⟨⟨?_, ?_, ?_, ?_, ?_, ?_, ?_⟩, ⟨?_, ?_⟩, ⟨?_, ?_, ?_, fun k => ?_, fun k => ?_⟩, ?_, ?_, fun n j n14 n15 n16 n17 n18 n0 n6 => ?_⟩
    · simp [up, hI_sI, hI_sN, hI_sR, hI_S]
    · simp [up, hI_sI, hI_sN, hI_sR, hI_S]
    · simp [up, hI_sI, hI_sN, hI_sR, hI_S]
    · simp [up, hI_sI, hI_sN, hI_sR, hI_S]
    · simp [up, hI_sI, hI_sN, hI_sR, hI_S]
    · simp [up, hI_sI, hI_sN, hI_sR, hI_S]
    · simp [up, hI_sI, hI_sN, hI_sR, hI_S]
    · simp [up, hI_sI, hI_sN, hI_sR, hI_S]
    · simp [up, hI_sI, hI_sN, hI_sR, hI_S]
    · simp [up, hI_sI, hI_sN, hI_sR, hI_S]
    · simp [up, hI_sI, hI_sN, hI_sR, hI_S]
    · simp [up, hI_sI, hI_sN, hI_sR, hI_S]
    · simp [up, hI_sI, hI_sN, hI_sR, hI_S]
    · simp [up, hI_sI, hI_sN, hI_sR, hI_S]
    · have g : ∀ σ : PH, hI σ (0, 0, 0) 6 = nI (gT p) → hI σ (0, 0, 0) 6 + 1 = nI (gT p + 1) := fun σ e => by rw [e, nI_1]
      rw [up_ne (by simp), hI_sI, if_pos ⟨rfl, rfl⟩]
      refine g _ ?_
      simp [hI_sI, hI_sN, hI_sR, hI_S, h6]
    · exact up_same _ _ _ _
    · have n0' : ∀ σ : PH, ∀ v, hI (sI σ (0, 0, 0) 6 v) n j = hI σ n j := fun σ v => by rw [hI_sI, if_neg n0]
      rw [up_ne n6, n0']
      simp [hI_sI, hI_sN, hI_sR, hI_S, n14, n15, n16, n17, n18]
