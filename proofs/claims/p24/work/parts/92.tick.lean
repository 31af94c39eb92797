/-! The law's ticks. -/
/-- each subscription's turn comes once -/
def Inj (p : PP) : Prop := ∀ k l, k < gS p → l < gS p → gO p k = gO p l → k = l
theorem OQ.inj {p : PP} {a : IF} (h : OQ p a) : Inj p := by
  obtain ⟨pos, o1, o2, o3⟩ := h
  intro k l hk hl e
  have a1 := (o2 k hk).2
  have a2 := (o2 l hl).2
  rw [e, a2] at a1; exact a1.symm
theorem way {p0 : PP} {a0 : IF} {T : Nat} (hW : WF p0 a0) (hO : OK p0) (hI : Inj p0) (h1 : ∀ u, u < gS p0 → SN p0 a0 u T) (h2 : ∀ u, u < gS p0 → tn (a0 (6, u, 0) 4) ≤ 6 ∧ Lst a0 u) (h3 : Trg p0 a0) (h4 : ∀ i, i < gT p0 → tn (a0 (14, i, 0) 2) ≤ 2) : ∀ (t : Nat) (p : PP) (a : IF) (c : Int32), t ≤ gS p0 → Tr p0 a0 t p a c → (∀ u, u < gS p0 → SN p a u (T + 1)) ∧ (∀ u, u < gS p0 → (∀ k, k < t → gO p0 k ≠ u) → SN p a u T) ∧ (∀ u, u < gS p0 → tn (a (6, u, 0) 4) ≤ 6 ∧ Lst a u) ∧ Trg p a ∧ (∀ i, i < gT p0 → tn (a (14, i, 0) 2) ≤ 2) ∧ ∀ u, a (6, u, 0) 3 = a0 (6, u, 0) 3 := by
  intro t
  induction t with
  | zero =>
    intro p a c _ h
    obtain ⟨rfl, rfl, rfl⟩ := h
    exact ⟨fun u hu => (h1 u hu).mono (by omega), fun u hu _ => h1 u hu, h2, h3, h4, fun _ => rfl⟩
  | succ t ih =>
    intro p a c ht h
    obtain ⟨p1, a1, c1, r, g1, g2, g3⟩ := h
    obtain ⟨k1, k2, k3, k4, k5, k6⟩ := ih p1 a1 c1 (by omega) g1
    obtain ⟨w, s⟩ := Tr_ok hW hO t p1 a1 c1 (by omega) g1
    obtain ⟨w2, s2, -⟩ := PT_ok w (by rw [s.1]; exact hO t (by omega)) g2
    obtain ⟨f1, -, -⟩ := PT_fr g2
    refine ⟨fun u hu => ?_, fun u hu hk => ?_, fun u hu => ⟨?_, PT_Lst g2 (k3 u hu).2⟩, PT_Trg s2 g2 k4, fun i hi => ?_, fun u => ?_⟩
    · by_cases e : u = gO p0 t
      · refine PT_SN g2 (k2 u hu (fun k hk z => ?_))
        have := hI k t (by omega) (by omega) (z.trans e)
        omega
      · exact PT_SNo g2 e (k1 u hu)
    · exact PT_SNo g2 (fun e => hk t (by omega) e.symm) (k2 u hu (fun k hk' => hk k (by omega)))
    · rw [f1 (6, u, 0) 4 (by simp) (by simp) (by simp) (by simp) (by simp)]; exact (k3 u hu).1
    · rw [f1 (14, i, 0) 2 (by simp) (by simp) (by simp) (by simp) (by simp)]; exact k5 i hi
    · rw [f1 (6, u, 0) 3 (by simp) (by simp) (by simp) (by simp) (by simp)]; exact k6 u
set_option maxHeartbeats 1000000 in
theorem x_turns {p0 P pF : PP} {a0 b0 aF I0 : IF} {J : JF} {T : Nat} {cF x1 : Int32} {K : Int32 → Int32 → PH → Prop} {Q : Int32 → PH → Prop} (hT : T + 1 ≤ 5000) (hW0 : WF p0 a0) (hM0 : MX p0 a0 b0) (hE0 : Enc p0 b0 I0) (hnow : a0 (0, 0, 0) 8 = nI (T + 1)) (g2 : gS p0 ≤ 2) (g10 : gT p0 ≤ 10) (hX : XT p0 a0 T) (hTS : ∀ s, s < gS p0 → TS a0 b0 s T) (hOQ : OQ p0 a0) (hx : (0 < gS p0 → x1 = nI (11 * gO p0 0)) ∧ (1 < gS p0 → 11 - x1 = nI (11 * gO p0 1))) (hTr : Tr p0 a0 (gS p0) pF aF cF) (hK : ∀ b' I' y, MX pF aF b' → Enc pF b' I' → FR b0 b' → FL I0 I' → (∀ s, s < gS p0 → TS aF b' s (T + 1)) → K cF y (S P I' J)) : lL_tick_110 (23, 1, 0) (23, 2, 0) (23, 6, 0) (23, 7, 0) (23, 8, 0) (23, 9, 0) (23, 10, 0) (23, 11, 0) x1 K Q (gS p0 + 1) 0 0 (S P I0 J) := by
  have hO : OK p0 := hOQ.ok
  have hI : Inj p0 := hOQ.inj
  obtain ⟨-, -, hnd, hsub, htrg⟩ := hX
  obtain ⟨ps, as, cs, rs, s0, s1, s2, s3, s4, s5, s6⟩ := Tr_seq _ _ _ _ hTr
  have tr : ∀ t, t ≤ gS p0 → Tr p0 a0 t (ps t) (as t) (cs t) := by
    intro t
    induction t with
    | zero => intro _; exact ⟨s0, s1, s2⟩
    | succ t ih => intro ht; exact ⟨ps t, as t, cs t, rs t, ih (by omega), (s6 t (by omega)).1, (s6 t (by omega)).2⟩
  have go : ∀ (d t : Nat) (b I : IF), t + d = gS p0 → MX (ps t) (as t) b → Enc (ps t) b I → FR b0 b → FL I0 I → (∀ u, u < gS p0 → (∀ k, k < t → gO p0 k ≠ u) → TS (as t) b u T) → (∀ k, k < t → TS (as t) b (gO p0 k) (T + 1)) → lL_tick_110 (23, 1, 0) (23, 2, 0) (23, 6, 0) (23, 7, 0) (23, 8, 0) (23, 9, 0) (23, 10, 0) (23, 11, 0) x1 K Q (d + 1) (cs t) (nI t) (S P I J) := by
    intro d
    induction d with
    | zero =>
      intro t b I ht hM hE hF hL u1 u2
      have : t = gS p0 := by omega
      subst this
      obtain ⟨w, s⟩ := Tr_ok hW0 hO _ _ _ _ (Nat.le_refl _) (tr _ (Nat.le_refl _))
      have e1 : I (23, 11, 0) 1 = nI (gS p0) := by rw [hE.2.2.2.2.2.1, hM.1.2.2.1, w.1.1, s.1]
      unfold lL_tick_110
      refine ⟨rfl, vinL (i := 1) 4 rfl (by decide) (by decide), fun _ => ?_, fun q => absurd ?_ q⟩
      · rw [s5]
        rw [s3, s4] at hM
        rw [s3] at hE
        rw [s4] at u2
        refine hK b I _ hM hE hF hL (fun u hu => ?_)
        obtain ⟨pos, o1, -, -⟩ := hOQ
        obtain ⟨z1, z2⟩ := o1 u hu
        have := u2 (pos u) z1
        rw [z2] at this; exact this
      · rw [hI_S, show Int32.toNatClampNeg 1 = 1 from rfl, e1, nI_leI (by omega) (by omega)]; exact Nat.le_refl _
    | succ d ih =>
      intro t b I ht hM hE hF hL u1 u2
      have htl : t < gS p0 := by omega
      obtain ⟨w, s⟩ := Tr_ok hW0 hO t _ _ _ (by omega) (tr t (by omega))
      obtain ⟨k1, k2, k3, k4, k5, k6⟩ := way hW0 hO hI (fun u hu => (hsub u hu).2.1) (fun u hu => ⟨(hsub u hu).1, (hsub u hu).2.2⟩) htrg hnd t _ _ _ (by omega) (tr t (by omega))
      have hu := hO t htl
      have nv : ∀ k, k < t → gO p0 k ≠ gO p0 t := fun k hk z => by have := hI k t (by omega) htl z; omega
      have hp := (s6 t htl).1
      have e2 : as t (0, 0, 0) 8 = nI (T + 1) := by rw [Tr_now _ _ _ _ (tr t (by omega))]; exact hnow
      refine x_turn (B := T) (t := T) (k := t) (by omega) w hM hE (by rw [s.1]; exact g2) (by rw [s.2.1]; exact g10) k4 (k3 _ hu).1 (k3 _ hu).2 (by rw [s.1]; exact hu) (k2 _ hu nv) hT (by rw [hM.1.1]; exact e2) (u1 _ hu nv) (by rw [s.1]; exact htl) ⟨fun z => ?_, fun z => ?_⟩ hp (fun b' I' q1 q2 q3 q4 => ?_)
      · subst z; exact hx.1 (by omega)
      · have : t = 1 := by omega
        subst this; exact hx.2 (by omega)
      · rw [← (s6 t htl).2]
        have b5 : ∀ u, b' (21, 5, 0) u = b (21, 5, 0) u := fun u => q3 _ _ (Or.inr (Or.inr (Or.inl ⟨rfl, rfl⟩)))
        refine ih (t + 1) b' I' (by omega) q1 q2 (hF.tr q3) (hL.tr q4) (fun u hu hk => ?_) (fun k hk => ?_)
        · exact PT_TSo (fun e => hk t (by omega) e.symm) hp (b5 u) (u1 u hu (fun k hk' => hk k (by omega)))
        · by_cases e : k = t
          · subst e; exact PT_TS hT hp (b5 _) (u1 _ hu nv)
          · exact PT_TSo (nv k (by omega)) hp (b5 _) (u2 k (by omega))
  have g := go (gS p0) 0 b0 I0 (by omega) (by rw [s0, s1]; exact hM0) (by rw [s0]; exact hE0) FR.rf FL.rf (fun u hu _ => by rw [s1]; exact hTS u hu) (fun k hk => by omega)
  rw [s2] at g
  exact g
set_option maxHeartbeats 1000000 in
theorem x_tick {p p' P : PP} {a a' b I : IF} {J : JF} {t : Nat} {c : Int32} (h : IV p a b t) (hX : XT p a t) (hE : Enc p b I) (ht : t + 1 ≤ 5000) (hK : TK p a p' a' c) {Q : Int32 → PH → Prop} (hQ : ∀ b' I', IV p' a' b' (t + 1) → XT p' a' (t + 1) → Enc p' b' I' → FR b b' → FL I I' → Q c (S P I' J)) : wL_tick (23, 0, 0) (23, 1, 0) (23, 2, 0) (23, 3, 0) (23, 4, 0) (23, 5, 0) (23, 6, 0) (23, 7, 0) (23, 8, 0) (23, 9, 0) (23, 10, 0) (23, 11, 0) (S P I J) Q := by
  obtain ⟨hW, hM, hTI, hSN, hTS, hnow, hOQ, -⟩ := h
  obtain ⟨g2, g10, hnd, hsub, htrg⟩ := hX
  have hO : OK p := hOQ.ok
  have hw : WF p (up a (0, 0, 0) 8 (a (0, 0, 0) 8 + 1)) := WF_now hW (by rw [hnow, nI_1]; exact bn_nI (by omega) (by omega))
  have eb : b (20, 0, 0) 1 + 1 = nI (t + 1) := by rw [hM.1.1, hnow, nI_1]
  have uo : ∀ r k z j, r ≠ 0 → up a (0, 0, 0) 8 (a (0, 0, 0) 8 + 1) (r, k, z) j = a (r, k, z) j := fun r k z j g => up_ne (fun q => by have := q.1; simp only [Prod.mk.injEq] at this; exact g this.1)
  have hMn : MX p (up a (0, 0, 0) 8 (a (0, 0, 0) 8 + 1)) (up b (20, 0, 0) 1 (b (20, 0, 0) 1 + 1)) := by
    refine MX.g hM (fun r k z j g _ _ _ => up_ne (fun q => by have := q.1; simp only [Prod.mk.injEq] at this; exact g this.1)) (fun k j _ => up_ne (by simp)) ?_
    obtain ⟨g1, g2, g3, g4, g5⟩ := hM.1
    refine ⟨?_, ?_, ?_, ?_, fun k hk => ?_⟩
    · rw [up_same, up_same, g1]
    · rw [up_nj (by decide), up_nj (by decide)]; exact g2
    · rw [up_nj (by decide), up_nj (by decide)]; exact g3
    · rw [up_nj (by decide), up_nj (by decide)]; exact g4
    · rw [up_ne (by simp), up_ne (by simp)]; exact g5 k hk
  have hTIn : TIs p (up a (0, 0, 0) 8 (a (0, 0, 0) 8 + 1)) t 0 := by
    intro k hk
    rw [if_neg (by omega)]
    have g := hTI k hk
    unfold TI at *
    simp only [uo 6 _ _ _ (by decide), uo 15 _ _ _ (by decide), uo 14 _ _ _ (by decide)]
    exact g
  obtain ⟨g1, g2', g3⟩ := TK_ok hW hO hnow ht hK
  have so : ∀ r k z j, 1 ≤ r → r < 14 → samL p (up a (0, 0, 0) 8 (a (0, 0, 0) 8 + 1)) 0 (gT p) (r, k, z) j = a (r, k, z) j := fun r k z j q1 q2 => by rw [samL_o (Or.inl q2), uo r _ _ _ (by omega)]
  -- what sampling leaves of an item
  have s14 : ∀ (f i : Nat) (x : IF) (k j : Nat), j ≠ 8 → j ≠ 9 → samL p x i f (14, k, 0) j = x (14, k, 0) j := by
    intro f
    induction f with
    | zero => intro i x k j _ _; rfl
    | succ f ih =>
      intro i x k j j8 j9
      rw [samL, ih _ _ _ _ j8 j9]
      unfold samA
      split
      · rfl
      · split
        · split
          · rw [enq, up_nj j8, up_nj j9, setQ_o (by simp) (by simp) (by simp), up_ne (by simp), up_ne (by simp)]
          · rw [up_ne (by simp), up_ne (by simp)]
        · rw [up_ne (by simp)]
  have hE1 := hE.num (k := 0) (f := 1) (by simp) (b (20, 0, 0) 1 + 1)
  unfold wL_tick
  refine ⟨rfl, vinL (i := 0) 4 rfl (by decide) (by decide), ?_⟩
  rw [forall_eq, hI_S, show Int32.toNatClampNeg 0 = 0 from rfl, hE.2.2.2.2.1, sI_S]
  refine ⟨gT p + 1, ?_⟩
  refine x_sampleL g2 g10 ht (gT p) 0 _ _ _ hMn hw hE1 (fun k hk => by rw [uo 14 _ _ _ (by decide)]; exact hnd k hk) (by omega) (by rw [up_same, eb]) hTIn (fun b1 I1 k1 k2 k3 k4 k5 => ?_)
  have hWs := WF_samL (gT p) 0 _ hw (Nat.le_of_eq (Nat.zero_add _))
  have b15 : ∀ s, b1 (21, 5, 0) s = b (21, 5, 0) s := fun s => by rw [k3 _ _ (Or.inr (Or.inr (Or.inl ⟨rfl, rfl⟩))), up_ne (by simp)]
  have hXs : XT p (samL p (up a (0, 0, 0) 8 (a (0, 0, 0) 8 + 1)) 0 (gT p)) t := by
    refine ⟨g2, g10, fun i hi => ?_, fun s hs => ⟨?_, SN.cg rfl (so 6 _ _ _ (by decide) (by decide)) (so 6 _ _ _ (by decide) (by decide)) (fun o => so 10 _ _ _ (by decide) (by decide)) (hsub s hs).2.1, (hsub s hs).2.2.cg (fun j _ => so 6 _ _ _ (by decide) (by decide))⟩, fun i hi j hj hb => ?_⟩
    · rw [s14 _ _ _ _ _ (by decide) (by decide), uo 14 _ _ _ (by decide)]; exact hnd i hi
    · rw [so 6 _ _ _ (by decide) (by decide)]; exact (hsub s hs).1
    · rw [s14 _ _ _ _ _ (by decide) (by decide), uo 14 _ _ _ (by decide)] at hb; exact htrg i hi j hj hb
  have hOQs : OQ p (samL p (up a (0, 0, 0) 8 (a (0, 0, 0) 8 + 1)) 0 (gT p)) := by
    obtain ⟨pos, o1, o2, o3⟩ := hOQ
    refine ⟨pos, o1, o2, ?_⟩
    unfold pr at o3 ⊢
    simp only [so 6 _ _ _ (show 1 ≤ 6 by decide) (show 6 < 14 by decide)]; exact o3
  have hTSs : ∀ s, s < gS p → TS (samL p (up a (0, 0, 0) 8 (a (0, 0, 0) 8 + 1)) 0 (gT p)) b1 s t := fun s hs => by
    have := hTS s hs
    unfold TS at *
    rw [so 6 _ _ _ (by decide) (by decide), so 7 _ _ _ (by decide) (by decide), so 7 _ _ _ (by decide) (by decide), b15]; exact this
  have hnows : samL p (up a (0, 0, 0) 8 (a (0, 0, 0) 8 + 1)) 0 (gT p) (0, 0, 0) 8 = nI (t + 1) := by rw [samL_o (Or.inl (by decide)), up_same, hnow, nI_1]
  have hTr : Tr p (samL p (up a (0, 0, 0) 8 (a (0, 0, 0) 8 + 1)) 0 (gT p)) (gS p) p' a' c := hK
  have hTI' := TI_TK hW hO hnow ht hTI hK
  obtain ⟨y1, -, y3, y4, y5, y6⟩ := way hWs hO hOQ.inj (fun u hu => (hXs.2.2.2.1 u hu).2.1) (fun u hu => ⟨(hXs.2.2.2.1 u hu).1, (hXs.2.2.2.1 u hu).2.2⟩) hXs.2.2.2.2 hXs.2.2.1 (gS p) p' a' c (Nat.le_refl _) hTr
  obtain ⟨q0, q1⟩ := OQ_two hOQs g2
  generalize samL p (up a (0, 0, 0) 8 (a (0, 0, 0) 8 + 1)) 0 (gT p) = A at *
  have e1 : I1 (23, 11, 0) 1 = nI (gS p) := by rw [k2.2.2.2.2.2.1, k1.1.2.2.1, hWs.1.1]
  refine ⟨rfl, vinL (i := 1) 4 rfl (by decide) (by decide), ?_⟩
  refine jV_i (fun x => x = nI (11 * fS p A)) (fun x hx => ⟨gS p + 1, ?_⟩) (fun K1 hK1 => ?_)
  · subst hx
    have hf : fS p A ≤ 1 := by unfold fS; split <;> omega
    refine x_turns ht hWs k1 k2 hnows g2 g10 hXs hTSs hOQs ⟨fun z => by rw [q0 z], fun z => ?_⟩ hTr (fun b' I' y w1 w2 w3 w4 w5 => hQ b' I' ⟨g1, w1, ?_, ?_, ?_, g3, ?_, ht⟩ ?_ w2 ?_ ?_)
    · rw [q1 z]
      have : fS p A = 0 ∨ fS p A = 1 := by omega
      rcases this with e | e <;> rw [e] <;> rfl
    · rw [g2'.2.1]; exact hTI'
    · rw [g2'.1]; intro s hs; exact (y1 s hs).mono (by omega)
    · rw [g2'.1]; exact w5
    · obtain ⟨pos, o1, o2, o3⟩ := hOQs
      refine ⟨pos, ?_, ?_, ?_⟩
      · rw [g2'.1, g2'.2.2.1]; exact o1
      · rw [g2'.1, g2'.2.2.1]; exact o2
      · rw [g2'.1]
        unfold pr at o3 ⊢
        simp only [y6]; exact o3
    · refine ⟨by rw [g2'.1]; exact g2, by rw [g2'.2.1]; exact g10, by rw [g2'.2.1]; exact y5, ?_, y4⟩
      rw [g2'.1]; exact fun s hs => ⟨(y3 s hs).1, y1 s hs, (y3 s hs).2⟩
    · exact (FR.tr (FR_up20 (by decide)) k3).tr w3
    · exact (FL_up.tr k4).tr w4
  · rw [hI_S, show Int32.toNatClampNeg 1 = 1 from rfl, e1]
    refine ⟨fun w => hK1 _ ?_, fun w => ⟨rfl, vinL (i := 16) 22 rfl (by decide) (by decide), vinL (i := 5) 22 rfl (by decide) (by decide), ?_⟩⟩
    · unfold fS
      rw [if_neg (fun z => w (by rw [z.1]; rfl))]; rfl
    · have w2 : gS p = 2 := (nI_eq (b := 2) (by omega) (by decide)).mp w
      have z1 : I1 (23, 1, 0) 16 = A (6, 1, 0) 3 := by
        have := k2.2.1 1 5 (by decide) (by decide)
        rw [show 11 * 1 + 5 = 16 from rfl, show 4 + 5 = 9 from rfl] at this
        rw [this]; exact (k1.2.1 1 (by omega)).1.2.2.2.2.1
      have z0 : I1 (23, 1, 0) 5 = A (6, 0, 0) 3 := by
        have := k2.2.1 0 5 (by decide) (by decide)
        rw [show 11 * 0 + 5 = 5 from rfl, show 4 + 5 = 9 from rfl] at this
        rw [this]; exact (k1.2.1 0 (by omega)).1.2.2.2.2.1
      obtain ⟨v1, -, v1'⟩ := bn_tn (hWs.2.2 1 (by omega)).2.2.1 (by decide)
      obtain ⟨v0, -, v0'⟩ := bn_tn (hWs.2.2 0 (by omega)).2.2.1 (by decide)
      rw [show Int32.toNatClampNeg 16 = 16 from rfl, show Int32.toNatClampNeg 5 = 5 from rfl, z1, z0, v1, v0, nI_leI (by omega) (by omega)]
      unfold fS pr at hK1
      refine ⟨fun u => hK1 _ ?_, fun u => hK1 _ ?_⟩
      · rw [if_neg (by omega)]; rfl
      · rw [if_pos (by omega)]; rfl
