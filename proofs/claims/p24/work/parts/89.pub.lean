/-! The law publishes. -/
set_option maxHeartbeats 2000000 in
theorem x_publishes {p p' P : PP} {a a' b I : IF} {J : JF} {s B : Nat} {r : Int32} (hB : B + 1 < 8192) (hW : WF p a) (hM : MX p a b) (hE : Enc p b I) (g2 : gS p ≤ 2) (g10 : gT p ≤ 10) (hTr : Trg p a) (hmo6 : tn (a (6, s, 0) 4) ≤ 6) (hs : s < gS p) (hSN : SN p a s B) (hlive : a (6, s, 0) 7 ≠ 0) {lr lf : Nat} (l1 : a (6, s, 0) 13 = nI lr) (l2 : a (6, s, 0) 2 = nI lf) (l3 : lf ≤ 30) (l4 : lr < lf) (hP : Pub p a s p' a' r) {Q : Int32 → PH → Prop} (hQ : ∀ b' I', MX p' a' b' → Enc p' b' I' → FR b b' → FL I I' → Q r (S P I' J)) : wL_publish (nI (11 * s)) (23, 1, 0) (23, 2, 0) (23, 6, 0) (23, 7, 0) (23, 8, 0) (23, 9, 0) (23, 10, 0) (23, 11, 0) (S P I J) Q := by
  have h16 := hW.1.2.2.2.1
  have hs2 : s < 2 := by omega
  have v22 : ∀ {σ : PH} {N : Nm} {j : Nat}, hL σ N = 22 → j < 22 → vp_in (nI j) (hL σ N) := fun e h => vinL 22 e h (by decide)
  have cj : ∀ j, j < 22 → (nI j).toNatClampNeg = j := fun j h => nI_clamp (by omega)
  obtain ⟨m1, m2, m3, m4, m5, m6, m7, m8, m9, m10⟩ := (hM.2.1 s hs).1
  have hl1 : a (6, s, 0) 7 = 1 := by
    rcases (hW.2.2 s hs).1 with e | e
    · exact absurd e hlive
    · exact e
  have hr7 : b (20, 0, 0) 35 = a (0, 0, 0) 7 := hM.1.2.1
  obtain ⟨T, hT, hP⟩ := hP
  unfold wL_publish
  refine ⟨by decide, gT p + 1, ?_⟩
  refine x_told12 hW hM hE g2 g10 hs2 (fun T0 y h0 => ⟨gT p + 1, ?_⟩) (gT p) 0 0 (by omega) (fun i hi => by rw [bq_0]; unfold rB; simp [tB])
  refine x_told78 (s := s) (T0 := T0) hW hM hE g10 (fun T2 z h1 => ?_) (gT p) 0 T0 (by omega) (fun i hi => by simp)
  have eT : T2 = T := (Told_of hTr h0 h1).eq hT
  subst eT
  have i7 : I (23, 1, 0) (11 * s + 7) = a (6, s, 0) 12 := by rw [hE.2.1 s 7 hs2 (by decide)]; exact m7
  have i3 : I (23, 1, 0) (11 * s + 3) = a (6, s, 0) 1 := by rw [hE.2.1 s 3 hs2 (by decide)]; exact m3
  have e7 : nI (11 * s) + 7 = nI (11 * s + 7) := nI_add _ 7
  have e8 : nI (11 * s) + 8 = nI (11 * s + 8) := nI_add _ 8
  have e9 : nI (11 * s) + 9 = nI (11 * s + 9) := nI_add _ 9
  have e10 : nI (11 * s) + 10 = nI (11 * s + 10) := nI_add _ 10
  have e3 : nI (11 * s) + 3 = nI (11 * s + 3) := nI_add _ 3
  have e4 : nI (11 * s) + 4 = nI (11 * s + 4) := nI_add _ 4
  have c0 : (nI (11 * s)).toNatClampNeg = 11 * s := nI_clamp (by omega)
  rw [e7, e8, e10, e3, e4, cj (11 * s + 7) (by omega), cj (11 * s + 8) (by omega), cj (11 * s + 10) (by omega), cj (11 * s + 3) (by omega), cj (11 * s + 4) (by omega), c0, show Int32.toNatClampNeg 3 = 3 from rfl]
  refine jS_i (fun σ => σ = S P (up I (23, 1, 0) (11 * s + 7) (if T2 = 0 then a (6, s, 0) 12 + 1 else 0)) J ∧ ¬ (T2 = 0 ∧ a (6, s, 0) 12 + 1 < a (6, s, 0) 1)) (fun σ3 h3 => ?_) (fun K1 hK1 => ⟨fun e => ?_, fun e => ?_⟩)
  · obtain ⟨rfl, hd⟩ := h3
    have hP2 := hP.resolve_left (fun w => hd ⟨w.1, w.2.1⟩)
    have iv : idl a s T2 = up a (6, s, 0) 12 (if T2 = 0 then a (6, s, 0) 12 + 1 else 0) := rfl
    have hE1 := hE.sub (j := 7) hs2 (by decide) (if T2 = 0 then a (6, s, 0) 12 + 1 else 0)
    rw [show 4 + 7 = 11 from rfl] at hE1
    rw [iv] at hP2
    have fI0 : FL I (up I (23, 1, 0) (11 * s + 7) (if T2 = 0 then a (6, s, 0) 12 + 1 else 0)) := FL_up
    generalize (if T2 = 0 then a (6, s, 0) 12 + 1 else 0) = v at hP2 hE1 fI0 ⊢
    generalize hI1 : up I (23, 1, 0) (11 * s + 7) v = I1 at hE1 fI0 ⊢
    have j3 : I1 (23, 11, 0) 3 = a (0, 0, 0) 7 := by rw [hE1.2.2.2.2.2.2.2, up_ne (by simp), hr7]
    have j8 : I1 (23, 1, 0) (11 * s + 8) = a (6, s, 0) 13 := by rw [hE1.2.1 s 8 hs2 (by decide), up_ne (by simp)]; exact m8
    have j4 : I1 (23, 1, 0) (11 * s + 4) = a (6, s, 0) 2 := by rw [hE1.2.1 s 4 hs2 (by decide), up_ne (by simp)]; exact m4
    have j9 : I1 (23, 1, 0) (11 * s + 9) = a (6, s, 0) 10 := by rw [hE1.2.1 s 9 hs2 (by decide), up_ne (by simp)]; exact m9
    have j10 : I1 (23, 1, 0) (11 * s + 10) = a (6, s, 0) 11 := by rw [hE1.2.1 s 10 hs2 (by decide), up_ne (by simp)]; exact m10
    rw [hI_S, j3]
    refine ⟨rfl, vinL (i := 3) 4 rfl (by decide) (by decide), fun e => ?_, fun e => ?_⟩
    · rw [forall_eq, sI_S]
      refine ⟨rfl, v22 rfl (by omega), ?_⟩
      rw [forall_eq, sI_S]
      refine ⟨v22 rfl (by omega), ?_⟩
      rw [forall_eq, sI_S, hI_S]
      have hE4 := ((hE1.num (k := 3) (f := 35) (by simp) (a (0, 0, 0) 7 - 1)).sub (j := 7) hs2 (by decide) 0).sub (j := 8) hs2 (by decide) 0
      rw [show 4 + 7 = 11 from rfl, show 4 + 8 = 12 from rfl] at hE4
      have k9 : up (up (up I1 (23, 11, 0) 3 (a (0, 0, 0) 7 - 1)) (23, 1, 0) (11 * s + 7) 0) (23, 1, 0) (11 * s + 8) 0 (23, 1, 0) (11 * s + 9) = a (6, s, 0) 10 := by rw [up_nj (by omega), up_nj (by omega), up_ne (by simp)]; exact j9
      have k10 : up (up (up I1 (23, 11, 0) 3 (a (0, 0, 0) 7 - 1)) (23, 1, 0) (11 * s + 7) 0) (23, 1, 0) (11 * s + 8) 0 (23, 1, 0) (11 * s + 10) = a (6, s, 0) 11 := by rw [up_nj (by omega), up_nj (by omega), up_ne (by simp)]; exact j10
      have fI6 : FL I (up (up (up I1 (23, 11, 0) 3 (a (0, 0, 0) 7 - 1)) (23, 1, 0) (11 * s + 7) 0) (23, 1, 0) (11 * s + 8) 0) := ((fI0.tr FL_up).tr FL_up).tr FL_up
      generalize up (up (up I1 (23, 11, 0) 3 (a (0, 0, 0) 7 - 1)) (23, 1, 0) (11 * s + 7) 0) (23, 1, 0) (11 * s + 8) 0 = I6 at hE4 k9 k10 fI6 ⊢
      rw [k10]
      refine ⟨fun eT => ⟨?_, ?_⟩, fun eT => ⟨v22 rfl (by omega), ?_⟩⟩
      · rw [e9]; exact v22 rfl (by omega)
      · rw [forall_eq, e9, cj (11 * s + 9) (by omega), k9, sI_S]
        rcases hP2.2 with ⟨w, -⟩ | ⟨-, -, w, -⟩ | ⟨-, rfl, -, a1, o, K, hN, rfl, -⟩
        · exact absurd w e
        · exact absurd w eT
        · have ha2 : WF p (up (up a (6, s, 0) 12 v) (0, 0, 0) 7 (a (0, 0, 0) 7 - 1)) := WF_up0 (WF_up6 hW (by decide) (by decide) (by decide) (by decide) (fun e => absurd e (by decide))) (req_dec hW e)
          have hX : MX p (z23 (up (up a (6, s, 0) 12 v) (0, 0, 0) 7 (a (0, 0, 0) 7 - 1)) s) (up (up (up (up b (21, 11, 0) s v) (20, 0, 0) 35 (a (0, 0, 0) 7 - 1)) (21, 11, 0) s 0) (21, 12, 0) s 0) := by
            refine MX.sub hM (fun n j g1 g2 g3 => ?_) (fun n j g1 g2 => ?_) ?_ hs ?_
            · rw [z23, up_ne (fun w => g2 ⟨w.1, by omega⟩), up_ne (fun w => g2 ⟨w.1, by omega⟩), up_ne (fun w => g1 w), up_ne (fun w => g2 ⟨w.1, by omega⟩)]
            · rw [up_ne (fun w => g2 (by rw [w.1]; exact ⟨rfl, by simp, w.2⟩)), up_ne (fun w => g2 (by rw [w.1]; exact ⟨rfl, by simp, w.2⟩)), up_ne (fun w => g1 ⟨w.1, Or.inl w.2⟩), up_ne (fun w => g2 (by rw [w.1]; exact ⟨rfl, by simp, w.2⟩))]
            · simp [up, z23]
            · unfold MS; simp [up, z23, m1, m2, m3, m4, m5, m6, m7, m8, m9, m10]
          generalize hA2 : up (up a (6, s, 0) 12 v) (0, 0, 0) 7 (a (0, 0, 0) 7 - 1) = A2 at hN ha2 hX
          have hSN2 : SN p A2 s B := by
            refine SN.cg rfl ?_ ?_ (fun o => ?_) hSN
            · rw [← hA2, up_ne (by simp), up_nj (by decide)]
            · rw [← hA2, up_ne (by simp), up_nj (by decide)]
            · rw [← hA2, up_ne (by simp), up_ne (by simp)]
          have ee4 : a (6, s, 0) 4 = A2 (6, s, 0) 4 := by rw [← hA2, up_ne (by simp), up_nj (by decide)]
          have ee10 : a (6, s, 0) 10 = A2 (6, s, 0) 10 := by rw [← hA2, up_ne (by simp), up_nj (by decide)]
          obtain ⟨X1, X2, X3, X4⟩ := hX
          have zo : ∀ r k z j, (r ≠ 6 ∨ k ≠ s ∨ (j ≠ 12 ∧ j ≠ 13)) → z23 A2 s (r, k, z) j = A2 (r, k, z) j := fun r k z j g => z23_o (fun q => by have := q.1; simp only [Prod.mk.injEq] at this; omega)
          have z9 : ∀ k, z23 A2 s (6, k, 0) 9 = A2 (6, k, 0) 9 := fun k => zo 6 k 0 9 (Or.inr (Or.inr (by decide)))
          have zl : ∀ r k z j, r ≠ 6 → z23 A2 s (r, k, z) j = A2 (r, k, z) j := fun r k z j g => zo r k z j (Or.inl g)
          have mmc : ∀ u B', MM p (z23 A2 s) B' u → MM p A2 B' u := by
            intro u B' h
            unfold MM at *
            simp only [z9, zl 10 _ _ _ (by decide), zl 11 _ _ _ (by decide), zl 12 _ _ _ (by decide), zl 13 _ _ _ (by decide)] at h
            exact h
          rw [ee10]
          refine x_send hB ha2 hs hN hSN2 ?_ (fun u hu hus => ⟨?_, mmc u _ (X2 u hu).2⟩) ?_ (mmc s _ (X2 s hs).2) (fun i hi => ?_) X4 hE4 g2 g10 (by rw [← ee4]; exact hmo6) (fun b' I' k1 k2 k3 k4 => hQ b' I' ?_ k2 ?_ (fI6.tr k4))
          · unfold MG at *
            simp only [zl 0 _ _ _ (by decide), zl 1 _ _ _ (by decide)] at X1
            exact X1
          · have g := (X2 u hu).1
            have z6 : ∀ j, z23 A2 s (6, u, 0) j = A2 (6, u, 0) j := fun j => zo 6 u 0 j (Or.inr (Or.inl hus))
            unfold MS at *
            simp only [z6, zl 7 _ _ _ (by decide)] at g
            exact g
          · obtain ⟨y1, y2, y3, y4, y5, y6, y7, y8, y9, y10⟩ := (X2 s hs).1
            have z6 : ∀ j, j ≠ 12 ∧ j ≠ 13 → z23 A2 s (6, s, 0) j = A2 (6, s, 0) j := fun j g => zo 6 s 0 j (Or.inr (Or.inr g))
            rw [z6 _ (by decide)] at y1 y3 y4 y5 y6 y9 y10
            rw [zl 7 _ _ _ (by decide)] at y2
            refine ⟨y1, y2, y3, y4, y5, y6, y9, y10, ?_, ?_⟩
            · rw [up_ne (by simp), up_same]
            · rw [up_same]
          · have g := X3 i hi
            unfold MI at *
            simp only [zl 14 _ _ _ (by decide), zl 15 _ _ _ (by decide), zl 16 _ _ _ (by decide), zl 17 _ _ _ (by decide), zl 18 _ _ _ (by decide)] at g
            exact g
          · rw [ee4]; exact k1
          · exact ((((FR_up21 (by decide)).tr (FR_up20 (by decide))).tr (FR_up21 (by decide))).tr (FR_up21 (by decide))).tr k3
      · rw [forall_eq, sI_S]
        rcases hP2.2 with ⟨w, -⟩ | ⟨-, rfl, -, rfl, rfl⟩ | ⟨-, -, w, -⟩
        · exact absurd w e
        · have hE5 := hE4.sub (j := 10) hs2 (by decide) (a (6, s, 0) 11 + 1)
          rw [show 4 + 10 = 14 from rfl] at hE5
          refine hQ _ _ ?_ hE5 (((((FR_up21 (by decide)).tr (FR_up20 (by decide))).tr (FR_up21 (by decide))).tr (FR_up21 (by decide))).tr (FR_up21 (by decide))) (fI6.tr FL_up)
          refine MX.sub hM (fun n j g1 g2 g3 => ?_) (fun n j g1 g2 => ?_) ?_ hs ?_
          · rw [z23, up_ne (fun w => g2 ⟨w.1, by omega⟩), up_ne (fun w => g2 ⟨w.1, by omega⟩), up_ne (fun w => g2 ⟨w.1, by omega⟩), up_ne (fun w => g1 w), up_ne (fun w => g2 ⟨w.1, by omega⟩)]
          · rw [up_ne (fun w => g2 (by rw [w.1]; exact ⟨rfl, by simp, w.2⟩)), up_ne (fun w => g2 (by rw [w.1]; exact ⟨rfl, by simp, w.2⟩)), up_ne (fun w => g2 (by rw [w.1]; exact ⟨rfl, by simp, w.2⟩)), up_ne (fun w => g1 ⟨w.1, Or.inl w.2⟩), up_ne (fun w => g2 (by rw [w.1]; exact ⟨rfl, by simp, w.2⟩))]
          · simp [up, z23]
          · unfold MS; simp [up, z23, m1, m2, m3, m4, m5, m6, m7, m8, m9, m10]
        · exact absurd eT w
    · rcases hP2.2 with ⟨-, rfl, rfl, rfl⟩ | ⟨w, -⟩ | ⟨w, -⟩
      · refine ⟨rfl, v22 rfl (by omega), ?_⟩
        rw [forall_eq, sI_S, hI_S, j8]
        have hE2 := hE1.sub (j := 8) hs2 (by decide) (a (6, s, 0) 13 + 1)
        rw [show 4 + 8 = 12 from rfl] at hE2
        have f13 : up a (6, s, 0) 12 v (6, s, 0) 13 = a (6, s, 0) 13 := up_nj (by decide)
        have f2 : up a (6, s, 0) 12 v (6, s, 0) 2 = a (6, s, 0) 2 := up_nj (by decide)
        have clt : (a (6, s, 0) 13 + 1 < a (6, s, 0) 2) ↔ lr + 1 < lf := by rw [l1, l2, nI_1, nI_ltI (by omega) (by omega)]
        have ceq : (a (6, s, 0) 13 + 1 = a (6, s, 0) 2) ↔ lr + 1 = lf := by rw [l1, l2, nI_1, nI_eq (by omega) (by omega)]
        refine ⟨v22 rfl (by omega), fun w => ?_, fun w => ⟨v22 rfl (by omega), ?_⟩⟩
        · rw [up_same, up_nj (by omega), j4, ceq] at w
          refine hQ _ _ ?_ hE2 ((FR_up21 (by decide)).tr (FR_up21 (by decide))) (fI0.tr FL_up)
          unfold losA
          rw [f13, f2, if_pos (clt.mpr (by omega))]
          refine MX.sub hM (fun n j g1 g2 g3 => ?_) (fun n j g1 g2 => ?_) ?_ hs ?_
          · rw [up_ne (fun w => g2 ⟨w.1, by omega⟩), up_ne (fun w => g2 ⟨w.1, by omega⟩)]
          · rw [up_ne (fun w => g2 (by rw [w.1]; exact ⟨rfl, by simp, w.2⟩)), up_ne (fun w => g2 (by rw [w.1]; exact ⟨rfl, by simp, w.2⟩))]
          · rw [up_ne (by simp), up_ne (by simp), hr7, up_ne (by simp), up_ne (by simp)]
          · unfold MS; simp [up, m1, m2, m3, m4, m5, m6, m7, m8, m9, m10]
        · rw [up_same, up_nj (by omega), j4, ceq] at w
          rw [forall_eq, sI_S]
          have hE3 := hE2.sub (j := 0) hs2 (by decide) 0
          rw [show 4 + 0 = 4 from rfl, show 11 * s + 0 = 11 * s from rfl] at hE3
          refine hQ _ _ ?_ hE3 (((FR_up21 (by decide)).tr (FR_up21 (by decide))).tr (FR_up21 (by decide))) ((fI0.tr FL_up).tr FL_up)
          unfold losA
          rw [f13, f2, if_neg (fun z => by have := clt.mp z; omega)]
          refine MX.sub hM (fun n j g1 g2 g3 => ?_) (fun n j g1 g2 => ?_) ?_ hs ?_
          · rw [up_ne (fun w => g2 ⟨w.1, by omega⟩), up_ne (fun w => g2 ⟨w.1, by omega⟩), up_ne (fun w => g2 ⟨w.1, by omega⟩)]
          · rw [up_ne (fun w => g2 (by rw [w.1]; exact ⟨rfl, by simp, w.2⟩)), up_ne (fun w => g2 (by rw [w.1]; exact ⟨rfl, by simp, w.2⟩)), up_ne (fun w => g2 (by rw [w.1]; exact ⟨rfl, by simp, w.2⟩))]
          · rw [up_ne (by simp), up_ne (by simp), up_ne (by simp), hr7, up_ne (by simp), up_ne (by simp), up_ne (by simp)]
          · unfold MS; simp [up, m1, m2, m3, m4, m5, m6, m7, m8, m9, m10]
      · exact absurd e w
      · exact absurd e w
  · refine ⟨rfl, v22 rfl (by omega), ?_⟩
    rw [forall_eq, sI_S]
    refine hK1 _ ⟨by rw [if_neg e], fun w => e w.1⟩
  · refine ⟨rfl, v22 rfl (by omega), ?_⟩
    rw [forall_eq, sI_S]
    simp only [hI_S]
    rw [i7]
    refine ⟨v22 rfl (by omega), fun w => hK1 _ ⟨by rw [if_pos e], fun z => ?_⟩, fun w => ?_⟩
    · rw [up_same, up_nj (by omega), i3] at w
      exact Int32.not_lt.mpr w z.2
    · rw [up_same, up_nj (by omega), i3] at w
      have hd : a (6, s, 0) 12 + 1 < a (6, s, 0) 1 := Int32.not_le.mp w
      rcases hP with ⟨-, -, rfl, rfl, rfl⟩ | ⟨w2, -⟩
      · have hE1 := hE.sub (j := 7) hs2 (by decide) (a (6, s, 0) 12 + 1)
        rw [show 4 + 7 = 11 from rfl] at hE1
        refine hQ _ _ ?_ hE1 (FR_up21 (by decide)) FL_up
        rw [idl, if_pos e]
        refine MX.sub hM (fun n j g1 g2 g3 => ?_) (fun n j g1 g2 => ?_) ?_ hs ?_
        · rw [up_ne (fun w => g2 ⟨w.1, by omega⟩)]
        · rw [up_ne (fun w => g2 (by rw [w.1]; exact ⟨rfl, by simp, w.2⟩))]
        · simp [up, hr7]
        · unfold MS; simp [up, m1, m2, m3, m4, m5, m6, m7, m8, m9, m10]
      · exact absurd ⟨e, hd⟩ w2
