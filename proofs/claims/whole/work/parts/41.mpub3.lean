set_option maxHeartbeats 1000000 in
theorem m_publishes {p p' P : PP} {a a' b : IF} {J : JF} {s B : Nat} {r : Int32} (hB : B < 2 ^ 30) (hW : WF p a) (hM : MX p a b) (hs : s < gS p) (hSN : SN p a s B) (hlive : a (6, s, 0) 7 ≠ 0) (hP : Pub p a s p' a' r) {Q : Int32 → PH → Prop} (hQ : ∀ b', MX p' a' b' → FR b b' → Q r (S P b' J)) : w7_publishes (20, 0, 0) (nI s) (S P b J) Q := by
  have h4 := hW.1.2.1
  have vs : ∀ {σ : PH} {N : Nm}, hL σ N = 4 → vp_in (nI s) (hL σ N) := fun e => vinL 4 e (by omega) (by decide)
  obtain ⟨m1, m2, m3, m4, m5, m6, m7, m8, m9, m10⟩ := (hM.2.1 s hs).1
  have hl1 : a (6, s, 0) 7 = 1 := by
    rcases (hW.2.2 s hs).1 with e | e
    · exact absurd e hlive
    · exact e
  obtain ⟨T, hT, hP⟩ := hP
  unfold w7_publishes
  refine ⟨rfl, m_toldItems hM hW hs (fun T2 hT2 => ?_)⟩
  have eT : T2 = T := hT2.eq hT
  subst eT
  have hr7 : b (20, 0, 0) 35 = a (0, 0, 0) 7 := hM.1.2.1
  -- the part that is due
  have due : ¬ (T2 = 0 ∧ a (6, s, 0) 12 + 1 < a (6, s, 0) 1) → (∀ (Z : Prop), (((up b (21, 11, 0) s (if T2 = 0 then a (6, s, 0) 12 + 1 else 0)) (20, 0, 0) 35 = 0 → Q 0 (S P (up (up (up b (21, 11, 0) s (if T2 = 0 then a (6, s, 0) 12 + 1 else 0)) (21, 12, 0) s ((up b (21, 11, 0) s (if T2 = 0 then a (6, s, 0) 12 + 1 else 0)) (21, 12, 0) s + 1)) (21, 4, 0) s (if (up b (21, 11, 0) s (if T2 = 0 then a (6, s, 0) 12 + 1 else 0)) (21, 8, 0) s ≤ (up b (21, 11, 0) s (if T2 = 0 then a (6, s, 0) 12 + 1 else 0)) (21, 12, 0) s + 1 then 0 else 1)) J)) → ((up b (21, 11, 0) s (if T2 = 0 then a (6, s, 0) 12 + 1 else 0)) (20, 0, 0) 35 ≠ 0 → T2 = 0 → Q 1 (S P (up (up (up (up (up b (21, 11, 0) s (if T2 = 0 then a (6, s, 0) 12 + 1 else 0)) (20, 0, 0) 35 ((up b (21, 11, 0) s (if T2 = 0 then a (6, s, 0) 12 + 1 else 0)) (20, 0, 0) 35 - 1)) (21, 11, 0) s 0) (21, 12, 0) s 0) (21, 14, 0) s ((up b (21, 11, 0) s (if T2 = 0 then a (6, s, 0) 12 + 1 else 0)) (21, 14, 0) s + 1)) J)) → ((up b (21, 11, 0) s (if T2 = 0 then a (6, s, 0) 12 + 1 else 0)) (20, 0, 0) 35 ≠ 0 → T2 ≠ 0 → w7_sendsMessage (20, 0, 0) (nI s) T2 (S P (up (up (up (up b (21, 11, 0) s (if T2 = 0 then a (6, s, 0) 12 + 1 else 0)) (20, 0, 0) 35 ((up b (21, 11, 0) s (if T2 = 0 then a (6, s, 0) 12 + 1 else 0)) (20, 0, 0) 35 - 1)) (21, 11, 0) s 0) (21, 12, 0) s 0) J) (fun σ => Q 1 σ)) → Z) → Z) := by
    intro hd Z k
    generalize hv : (if T2 = 0 then a (6, s, 0) 12 + 1 else 0) = v at k
    have hP2 := hP.resolve_left (fun w => hd ⟨w.1, w.2.1⟩)
    have iv : idl a s T2 = up a (6, s, 0) 12 v := by rw [idl, hv]
    rw [iv] at hP2
    refine k (fun e => ?_) (fun e e2 => ?_) (fun e e2 => ?_)
    · rw [up_ne (by simp), hr7] at e
      rcases hP2.2 with ⟨-, rfl, rfl, rfl⟩ | ⟨w, -⟩ | ⟨w, -⟩
      · have e1 : up b (21, 11, 0) s v (21, 12, 0) s = a (6, s, 0) 13 := by rw [up_ne (by simp), m8]
        have e2 : up b (21, 11, 0) s v (21, 8, 0) s = a (6, s, 0) 2 := by rw [up_ne (by simp), m4]
        rw [e1, e2]
        have f13 : up a (6, s, 0) 12 v (6, s, 0) 13 = a (6, s, 0) 13 := up_nj (by decide)
        have f2 : up a (6, s, 0) 12 v (6, s, 0) 2 = a (6, s, 0) 2 := up_nj (by decide)
        have hle : (a (6, s, 0) 2 ≤ a (6, s, 0) 13 + 1) ↔ ¬ (a (6, s, 0) 13 + 1 < a (6, s, 0) 2) := Int32.not_lt.symm
        have el : losA (up a (6, s, 0) 12 v) s = up (up (up a (6, s, 0) 12 v) (6, s, 0) 13 (a (6, s, 0) 13 + 1)) (6, s, 0) 7 (if a (6, s, 0) 2 ≤ a (6, s, 0) 13 + 1 then 0 else 1) := by
          unfold losA
          rw [f13, f2]
          by_cases q : a (6, s, 0) 13 + 1 < a (6, s, 0) 2
          · rw [if_pos q, if_neg (fun w => (hle.mp w) q)]
            funext n j
            by_cases z : n = (6, s, 0) ∧ j = 7
            · rw [z.1, z.2, up_same, up_nj (by decide), up_nj (by decide), hl1]
            · rw [up_ne (a := n) (n := (6, s, 0)) (j := 7) z]
          · rw [if_neg q, if_pos (hle.mpr q)]
        refine hQ _ ?_ (((FR_up21 (by decide)).tr (FR_up21 (by decide))).tr (FR_up21 (by decide)))
        rw [el]
        refine MX.sub hM (fun n j g1 g2 g3 => ?_) (fun n j g1 g2 => ?_) ?_ hs ?_
        · rw [up_ne (fun w => g2 ⟨w.1, by omega⟩), up_ne (fun w => g2 ⟨w.1, by omega⟩), up_ne (fun w => g2 ⟨w.1, by omega⟩)]
        · rw [up_ne (fun w => g2 (by rw [w.1]; exact ⟨rfl, by simp, w.2⟩)), up_ne (fun w => g2 (by rw [w.1]; exact ⟨rfl, by simp, w.2⟩)), up_ne (fun w => g2 (by rw [w.1]; exact ⟨rfl, by simp, w.2⟩))]
        · rw [up_ne (by simp), up_ne (by simp), up_ne (by simp), hr7, up_ne (by simp), up_ne (by simp), up_ne (by simp)]
        · unfold MS; simp [up, m1, m2, m3, m4, m5, m6, m7, m8, m9, m10]
      · exact absurd e w
      · exact absurd e w
    · rw [up_ne (by simp), hr7] at e
      rcases hP2.2 with ⟨w, -⟩ | ⟨-, rfl, -, rfl, rfl⟩ | ⟨-, -, w, -⟩
      · exact absurd w e
      · refine hQ _ ?_ (((((FR_up21 (by decide)).tr (FR_up20 (by decide))).tr (FR_up21 (by decide))).tr (FR_up21 (by decide))).tr (FR_up21 (by decide)))
        refine MX.sub hM (fun n j g1 g2 g3 => ?_) (fun n j g1 g2 => ?_) ?_ hs ?_
        · rw [z23, up_ne (fun w => g2 ⟨w.1, by omega⟩), up_ne (fun w => g2 ⟨w.1, by omega⟩), up_ne (fun w => g2 ⟨w.1, by omega⟩), up_ne (fun w => g1 w), up_ne (fun w => g2 ⟨w.1, by omega⟩)]
        · rw [up_ne (fun w => g2 (by rw [w.1]; exact ⟨rfl, by simp, w.2⟩)), up_ne (fun w => g2 (by rw [w.1]; exact ⟨rfl, by simp, w.2⟩)), up_ne (fun w => g2 (by rw [w.1]; exact ⟨rfl, by simp, w.2⟩)), up_ne (fun w => g1 ⟨w.1, Or.inl w.2⟩), up_ne (fun w => g2 (by rw [w.1]; exact ⟨rfl, by simp, w.2⟩))]
        · simp [up, z23, hr7]
        · unfold MS; simp [up, z23, m1, m2, m3, m4, m5, m6, m7, m8, m9, m10]
      · exact absurd e2 w
    · rw [up_ne (by simp), hr7] at e
      rcases hP2.2 with ⟨w, -⟩ | ⟨-, -, w, -⟩ | ⟨-, rfl, -, a1, o, K, hN, rfl⟩
      · exact absurd w e
      · exact absurd w e2
      · have ha2 : WF p (up (up a (6, s, 0) 12 v) (0, 0, 0) 7 (a (0, 0, 0) 7 - 1)) := by
          have := WF_up0 (WF_idl (s := s) (T := T2) hW) (req_dec hW e)
          rw [iv] at this; exact this
        have hX : MX p (z23 (up (up a (6, s, 0) 12 v) (0, 0, 0) 7 (a (0, 0, 0) 7 - 1)) s) (up (up (up (up b (21, 11, 0) s v) (20, 0, 0) 35 (up b (21, 11, 0) s v (20, 0, 0) 35 - 1)) (21, 11, 0) s 0) (21, 12, 0) s 0) := by
          refine MX.sub hM (fun n j g1 g2 g3 => ?_) (fun n j g1 g2 => ?_) ?_ hs ?_
          · rw [z23, up_ne (fun w => g2 ⟨w.1, by omega⟩), up_ne (fun w => g2 ⟨w.1, by omega⟩), up_ne (fun w => g1 w), up_ne (fun w => g2 ⟨w.1, by omega⟩)]
          · rw [up_ne (fun w => g2 (by rw [w.1]; exact ⟨rfl, by simp, w.2⟩)), up_ne (fun w => g2 (by rw [w.1]; exact ⟨rfl, by simp, w.2⟩)), up_ne (fun w => g1 ⟨w.1, Or.inl w.2⟩), up_ne (fun w => g2 (by rw [w.1]; exact ⟨rfl, by simp, w.2⟩))]
          · simp [up, z23, hr7]
          · unfold MS; simp [up, z23, m1, m2, m3, m4, m5, m6, m7, m8, m9, m10]
        generalize hA2 : up (up a (6, s, 0) 12 v) (0, 0, 0) 7 (a (0, 0, 0) 7 - 1) = A2 at hN ha2 hX
        have hSN2 : SN p A2 s B := by
          refine SN.cg rfl ?_ ?_ (fun o => ?_) hSN
          · rw [← hA2, up_ne (by simp), up_nj (by decide)]
          · rw [← hA2, up_ne (by simp), up_nj (by decide)]
          · rw [← hA2, up_ne (by simp), up_ne (by simp)]
        have e4 : a (6, s, 0) 4 = A2 (6, s, 0) 4 := by rw [← hA2, up_ne (by simp), up_nj (by decide)]
        obtain ⟨X1, X2, X3, X4⟩ := hX
        have zo : ∀ r k z j, (r ≠ 6 ∨ k ≠ s ∨ (j ≠ 12 ∧ j ≠ 13)) → z23 A2 s (r, k, z) j = A2 (r, k, z) j := fun r k z j g => z23_o (fun q => by have := q.1; simp only [Prod.mk.injEq] at this; omega)
        have z9 : ∀ k, z23 A2 s (6, k, 0) 9 = A2 (6, k, 0) 9 := fun k => zo 6 k 0 9 (Or.inr (Or.inr (by decide)))
        have zl : ∀ r k z j, r ≠ 6 → z23 A2 s (r, k, z) j = A2 (r, k, z) j := fun r k z j g => zo r k z j (Or.inl g)
        have mmc : ∀ u B', MM p (z23 A2 s) B' u → MM p A2 B' u := by
          intro u B' h
          unfold MM at *
          simp only [z9, zl 10 _ _ _ (by decide), zl 11 _ _ _ (by decide), zl 12 _ _ _ (by decide), zl 13 _ _ _ (by decide)] at h
          exact h
        refine m_sendsMessage hB ha2 hs hN hSN2 ?_ (fun u hu hus => ⟨?_, mmc u _ (X2 u hu).2⟩) ?_ (mmc s _ (X2 s hs).2) (fun i hi => ?_) X4 (fun b' k1 k2 => hQ b' ?_ ?_)
        · unfold MG at *
          simp only [zl 0 _ _ _ (by decide), zl 1 _ _ _ (by decide)] at X1
          exact X1
        · have g := (X2 u hu).1
          have z6 : ∀ j, z23 A2 s (6, u, 0) j = A2 (6, u, 0) j := fun j => zo 6 u 0 j (Or.inr (Or.inl hus))
          unfold MS at *
          simp only [z6, zl 7 _ _ _ (by decide)] at g
          exact g
        · obtain ⟨y1, y2, y3, y4, y5, y6, y7, y8, y9, y10⟩ := (X2 s hs).1
          have z6 : ∀ j, j ≠ 12 ∧ j ≠ 13 → z23 A2 s (6, s, 0) j = A2 (6, s, 0) j := fun j g => zo 6 s 0 j (Or.inr (Or.inr g))
          rw [z6 _ (by decide)] at y1 y3 y4 y5 y6 y9 y10
          rw [zl 7 _ _ _ (by decide)] at y2
          refine ⟨y1, y2, y3, y4, y5, y6, y9, y10, ?_, ?_⟩
          · rw [up_ne (by simp), up_same]
          · rw [up_same]
        · have g := X3 i hi
          unfold MI at *
          simp only [zl 14 _ _ _ (by decide), zl 15 _ _ _ (by decide), zl 16 _ _ _ (by decide), zl 17 _ _ _ (by decide), zl 18 _ _ _ (by decide)] at g
          exact g
        · rw [e4]; exact k1
        · exact ((((FR_up21 (by decide)).tr (FR_up20 (by decide))).tr (FR_up21 (by decide))).tr (FR_up21 (by decide))).tr k2
  rw [hI_S, nI_clamp (show s < 2 ^ 31 by omega)]
  refine ⟨fun e => ⟨_, rfl, rfl, vs rfl, ?_⟩, fun e => ⟨_, rfl, rfl, vs rfl, ?_⟩⟩
  · rw [forall_eq, m7, sI_S]
    refine ⟨fun w => absurd e w, fun _ => ⟨_, rfl, rfl, vs rfl, ?_⟩⟩
    have eI : up b (21, 11, 0) s (a (6, s, 0) 12 + 1) (21, 7, 0) s = a (6, s, 0) 1 := by rw [up_ne (by simp), m3]
    rw [hI_S, eI, up_same]
    refine ⟨fun w => ?_, fun w => ?_⟩
    · have hd : ¬ (T2 = 0 ∧ a (6, s, 0) 12 + 1 < a (6, s, 0) 1) := fun y => Int32.not_lt.mpr w y.2
      refine due hd _ (fun k1 k2 k3 => ?_)
      rw [if_pos e] at k1 k2 k3
      exact m_due (b0 := b) (by omega) k1 k2 k3
    · have hd : a (6, s, 0) 12 + 1 < a (6, s, 0) 1 := Int32.not_le.mp w
      rcases hP with ⟨-, -, rfl, rfl, rfl⟩ | ⟨w2, -⟩
      · refine hQ _ ?_ (FR_up21 (by decide))
        rw [idl, if_pos e]
        refine MX.sub hM (fun n j g1 g2 g3 => ?_) (fun n j g1 g2 => ?_) ?_ hs ?_
        · rw [up_ne (fun w => g2 ⟨w.1, by omega⟩)]
        · rw [up_ne (fun w => g2 (by rw [w.1]; exact ⟨rfl, by simp, w.2⟩))]
        · simp [up, hr7]
        · unfold MS; simp [up, m1, m2, m3, m4, m5, m6, m7, m8, m9, m10]
      · exact absurd ⟨e, hd⟩ w2
  · rw [forall_eq, sI_S]
    have hd : ¬ (T2 = 0 ∧ a (6, s, 0) 12 + 1 < a (6, s, 0) 1) := fun y => e y.1
    refine ⟨fun _ => ?_, fun w => absurd w e⟩
    refine due hd _ (fun k1 k2 k3 => ?_)
    rw [if_neg e] at k1 k2 k3
    exact m_due (b0 := b) (by omega) k1 k2 k3
