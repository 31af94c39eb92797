/-! The model sends a message. -/
set_option maxHeartbeats 4000000 in
theorem m_sendL43 {p P : PP} {J : JF} {s at_ o K mo i : Nat} {T x4 : Int32} {F : Int32 → PH → Prop} {Q : PH → Prop} (hs : s < gS p) (h4 : gS p ≤ 4) (ho : o < gM p s) (hat : at_ < 5) (hi : i < gT p) (h16 : gT p ≤ 16) (hmo : mo ≤ 10) (hK : K ≤ gM p s) (hP : ∀ q, q < K → gP p s q ≠ o) (hT : bq T i = true) : ∀ (d : Nat) (a b : IF) (n c : Nat), WF p a → MXs p a b s at_ o K n → a (16, i, 0) 4 = nI c → d = min c (mo - n) → c ≤ 4 → n ≤ mo → a (6, s, 0) 4 = nI mo → (∀ b', MXs p (gvN i s o d a) b' s at_ o K (n + d) → FR b b' → F (nI (n + d)) (S P b' J)) → l7_sendsMessage_43 (20, 0, 0) (nI s) T (nI (5 * s + at_)) x4 (nI i) F Q (d + 1) (nI n) (S P b J) := by
  have v16 : ∀ {σ : PH} {N : Nm}, hL σ N = 16 → vp_in (nI i) (hL σ N) := fun e => vinL 16 e (by omega) (by decide)
  intro d
  induction d with
  | zero =>
    intro a b n c hW hM hc hd c4 hn hm hF
    obtain ⟨g1, g2, g3, g4, g5, g6, g7, g8, g9, g10, g11, g12, g13, g14⟩ := hM.2.2.2.2.1 i hi
    have hf := hF b hM FR.rf
    unfold l7_sendsMessage_43
    refine ⟨fun z => absurd ((bq_tst T (by omega)).mpr hT) z, fun _ => ⟨rfl, _, rfl, rfl, v16 rfl, fun _ => hf, fun q => ⟨_, rfl, rfl, vinL 4 rfl (by omega) (by decide), fun _ => hf, fun w => ?_⟩⟩⟩
    exfalso
    rw [hI_S, nI_clamp (by omega), g12, hc, nI_le0 (by omega)] at q
    rw [hI_S, nI_clamp (by omega), hM.2.2.1.2.2.2.2.2.1, hm, nI_leI (by omega) (by omega)] at w
    omega
  | succ d ih =>
    intro a b n c hW hM hc hd c4 hn hm hF
    obtain ⟨g1, g2, g3, g4, g5, g6, g7, g8, g9, g10, g11, g12, g13, g14⟩ := hM.2.2.2.2.1 i hi
    have t16 : tn (a (16, i, 0) 4) = c := by rw [hc, tn_nI (by omega)]
    obtain ⟨-, -, -, -, -, -, sz, c', q1, q2, q3, q4, q5, q6⟩ := hW.2.1 i hi
    have e28 : b (21, 28, 0) (4 * i) = a (17, i, 0) 0 := g13 0 (by decide)
    have e29 : b (21, 29, 0) (4 * i) = a (18, i, 0) 0 := g14 0 (by decide)
    have v200 : ∀ {σ : PH} {N : Nm}, hL σ N = 200 → vp_in (nI (10 * (5 * s + at_) + n)) (hL σ N) := fun e => vinL 200 e (by omega) (by decide)
    have v64 : ∀ {σ : PH} {N : Nm}, hL σ N = 64 → vp_in (nI (4 * i)) (hL σ N) := fun e => vinL 64 e (by omega) (by decide)
    have cx : (nI (10 * (5 * s + at_) + n)).toNatClampNeg = 10 * (5 * s + at_) + n := nI_clamp (by omega)
    have c4i : (nI (4 * i)).toNatClampNeg = 4 * i := nI_clamp (by omega)
    have ci : (nI i).toNatClampNeg = i := nI_clamp (by omega)
    have cs : (nI s).toNatClampNeg = s := nI_clamp (by omega)
    unfold l7_sendsMessage_43
    rw [nIx4, nIx10, nI_add, cx, c4i, ci, cs]
    refine ⟨fun z => absurd ((bq_tst T (by omega)).mpr hT) z, fun _ => ⟨rfl, _, rfl, rfl, v16 rfl, fun q => ?_, fun q => ⟨_, rfl, rfl, vinL 4 rfl (by omega) (by decide), fun w => ?_, fun w => ⟨_, rfl, rfl, v64 rfl, _, rfl, rfl, v200 rfl, ?_⟩⟩⟩⟩
    · exfalso
      rw [hI_S, g12, hc, nI_le0 (by omega)] at q
      omega
    · exfalso
      rw [hI_S, hM.2.2.1.2.2.2.2.2.1, hm, nI_leI (by omega) (by omega)] at w
      omega
    rw [forall_eq, hI_S, e28, sI_S]
    refine ⟨_, rfl, rfl, v200 rfl, ?_⟩
    rw [forall_eq, sI_S]
    refine ⟨_, rfl, rfl, v64 rfl, _, rfl, rfl, v200 rfl, ?_, ?_⟩
    · rw [hI_S, up_ne (by simp), up_ne (by simp), e29]; exact q6 0
    rw [forall_eq, hI_S, up_ne (by simp), up_ne (by simp), e29, sI_S]
    have key : ∀ (B : IF), isR B i c (fun k => a (17, i, 0) k) (fun k => a (18, i, 0) k) → S P B J = S P (setR B i c (fun k => a (17, i, 0) k) (fun k => a (18, i, 0) k)) J := fun B hB => by rw [setR_id hB]
    rw [key _ ⟨by rw [up_ne (by simp), up_ne (by simp), up_ne (by simp), g12, hc], fun k hk => by rw [up_ne (by simp), up_ne (by simp), up_ne (by simp)]; exact g13 k hk, fun k hk => by rw [up_ne (by simp), up_ne (by simp), up_ne (by simp)]; exact g14 k hk⟩]
    refine m_drop (by omega) (by omega) c4 q6 ?_
    have hM' := MXs_gv hW hM hi hs hat (show n < 10 by omega) hc (by omega) c4 hK hP
    have hW' := WF_gv1 hW hi hs ho hc (by omega) c4 hM.2.2.2.1.2.2.2.1 (show n < 10 by omega)
    have g := ih (gv1 a i s o) (gvR a b i s o at_ n) (n + 1) (c - 1) hW' hM' (by rw [gv1_16, t16]) (by omega) (by omega) (by omega) (by rw [gv1_o ⟨fun y => by simp only at y; omega, fun y => by simp only at y; omega⟩]; exact hm) (fun b' k1 k2 => by
      have e : n + 1 + d = n + (d + 1) := by omega
      rw [e] at k1 ⊢
      exact hF b' k1 (FR_gvR.tr k2))
    unfold gvR at g
    rw [t16] at g
    rw [nI_1]
    exact g
theorem m_sendL34 {p P : PP} {J : JF} {s at_ o K mo : Nat} {T : Int32} {F : Int32 → Int32 → PH → Prop} {Q : PH → Prop} (hs : s < gS p) (h4 : gS p ≤ 4) (ho : o < gM p s) (hat : at_ < 5) (h16 : gT p ≤ 16) (hmo : mo ≤ 10) (hK : K ≤ gM p s) (hP : ∀ q, q < K → gP p s q ≠ o) : ∀ (d i : Nat) (a b : IF) (n : Nat), i + d = gT p → WF p a → MXs p a b s at_ o K n → n ≤ mo → a (6, s, 0) 4 = nI mo → (∀ b' n' y, n' ≤ mo → MXs p (flL s o mo T i d a) b' s at_ o K n' → FR b b' → F (nI n') y (S P b' J)) → l7_sendsMessage_34 (20, 0, 0) (nI s) T (nI (5 * s + at_)) F Q (d + 1) (nI n) (nI i) (S P b J) := by
  intro d
  induction d with
  | zero =>
    intro i a b n h hW hM hn hm hF
    have : i = gT p := by omega
    subst this
    unfold l7_sendsMessage_34
    refine ⟨rfl, fun _ => hF b n _ hn hM FR.rf, fun q => absurd ?_ q⟩
    rw [hI_S, hM.1.2.2.2.1, hW.1.2.2.1, nI_leI (by omega) (by omega)]; exact Nat.le_refl _
  | succ d ih =>
    intro i a b n h hW hM hn hm hF
    have hi : i < gT p := by omega
    unfold l7_sendsMessage_34
    refine ⟨rfl, fun q => ?_, fun _ => ?_⟩
    · rw [hI_S, hM.1.2.2.2.1, hW.1.2.2.1, nI_leI (by omega) (by omega)] at q; omega
    · rw [nI_1]
      cases hb : bq T i with
      | false =>
        refine ⟨1, ?_⟩
        unfold l7_sendsMessage_43
        refine ⟨fun _ => ?_, fun z => ?_⟩
        · refine ih (i + 1) a b n (by omega) hW hM hn hm (fun b' n' y k1 k2 k3 => hF b' n' y k1 ?_ k3)
          rw [flL, hb]; exact k2
        · rw [bq_tst T (by omega), hb] at z; cases z
      | true =>
        obtain ⟨c, hc, hc4, tc⟩ := IS_c (hW.2.1 i hi)
        have t10 : tn (a (10, s, o) 4) = n := by rw [hM.2.2.2.1.2.2.2.1, tn_nI (by omega)]
        refine ⟨min c (mo - n) + 1, ?_⟩
        refine m_sendL43 hs h4 ho hat hi h16 hmo hK hP hb (min c (mo - n)) a b n c hW hM hc rfl hc4 hn hm (fun b' k1 k2 => ?_)
        obtain ⟨w1, w2, w3⟩ := gvN_c hi hs ho (min c (mo - n)) a c n hW hc (by omega) hc4 hM.2.2.2.1.2.2.2.1 (by omega)
        refine ih (i + 1) _ b' (n + min c (mo - n)) (by omega) w1 k1 (by omega) (by rw [gvN_o ⟨fun y => by simp only at y; omega, fun y => by simp only at y; omega⟩]; exact hm) (fun b2 n' y l1 l2 l3 => hF b2 n' y l1 ?_ (k2.tr l3))
        rw [flL, hb, giA, tc, t10]; exact l2
theorem m_oldestL {P : PP} {b : IF} {J : JF} {s : Nat} {y : Nat → Nat} (hs : s < 4) (hy : ∀ k, k < 5 → b (21, 30, 0) (5 * s + k) = nI (y k) ∧ y k < 2 ^ 31) {F : Int32 → Int32 → PH → Prop} {Q : Int32 → PH → Prop} (hF : ∀ k z, k < 5 → (∀ l, l < 5 → y k ≤ y l) → F (nI (5 * s + k)) z (S P b J)) : ∀ (d j k : Nat), j + d = 5 → k < 5 → (∀ l, l < j → y k ≤ y l) → l7_oldest_8 (20, 0, 0) (nI s) F Q (d + 1) (nI (5 * s + k)) (nI (5 * s + j)) (S P b J) := by
  intro d
  induction d with
  | zero =>
    intro j k h hk hl
    have : j = 5 := by omega
    subst this
    unfold l7_oldest_8
    refine ⟨fun _ => hF k _ hk hl, fun q => absurd ?_ q⟩
    rw [nIx5, show (5 : Int32) = nI 5 from rfl, nI_add, nI_leI (by omega) (by omega)]; exact Nat.le_refl _
  | succ d ih =>
    intro j k h hk hl
    unfold l7_oldest_8
    rw [nIx5, show (5 : Int32) = nI 5 from rfl, nI_add, nI_leI (by omega) (by omega), hI_S, nI_clamp (by omega), nI_clamp (by omega), nI_1]
    refine ⟨fun q => by omega, fun _ => ⟨rfl, _, rfl, rfl, vinL 20 rfl (by omega) (by decide), vinL 20 rfl (by omega) (by decide), ?_⟩⟩
    rw [(hy k hk).1, (hy j (by omega)).1, nI_leI (hy k hk).2 (hy j (by omega)).2]
    refine ⟨fun q => ?_, fun q => ?_⟩
    · refine ih (j + 1) k (by omega) hk (fun l w => ?_)
      by_cases e : l = j
      · subst e; exact q
      · exact hl l (by omega)
    · refine ih (j + 1) j (by omega) (by omega) (fun l w => ?_)
      by_cases e : l = j
      · subst e; exact Nat.le_refl _
      · have := hl l (by omega); omega
