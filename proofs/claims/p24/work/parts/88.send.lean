/-! The law sends a message. -/
theorem EncM_num {b I : IF} {c : Nat} (h : EncM b I c) : I (23, 9, 0) c &&& 8191 = b (21, 30, 0) c := by
  rcases h with ⟨h1, h2⟩ | ⟨x, n, g1, g2, g3, -, g5, g6, -⟩
  · rw [h1, h2]; rfl
  · rw [g1, g6, fld_num]; congr 1; omega
set_option maxHeartbeats 1000000 in
theorem x_send {p p' P : PP} {a a1 b I : IF} {J : JF} {s o K B : Nat} {T : Int32} (hB : B + 1 < 8192) (hW : WF p a) (hs : s < gS p) (hN : NX p a s p' a1 o K) (hSN : SN p a s B) (h1 : MG a b) (h2 : ∀ u, u < gS p → u ≠ s → MS a b u ∧ MM p a b u) (h3 : MSm a b s) (hm : MM p a b s) (h5 : ∀ i, i < gT p → MI p a b i) (h6 : MZ p b) (hE : Enc p b I) (g2 : gS p ≤ 2) (g10 : gT p ≤ 10) (hmo6 : tn (a (6, s, 0) 4) ≤ 6) {Q : Int32 → PH → Prop} (hQ : ∀ b' I', MX p' (z23 (flL s o (tn (a (6, s, 0) 4)) T 0 (gT p) a1) s) b' → Enc p' b' I' → FR b b' → FL I I' → Q 1 (S P I' J)) : ∃ f247 : Nat, lL_publish_247 (nI (11 * s)) (23, 1, 0) (23, 6, 0) (23, 8, 0) (23, 9, 0) (23, 10, 0) (23, 11, 0) T (fun y5 _ τ3 => ∃ f295 : Nat, lL_publish_295 (nI (11 * s)) (23, 1, 0) (23, 6, 0) (23, 8, 0) (23, 9, 0) (23, 10, 0) (23, 11, 0) T y5 (fun y9 _ τ6 => hK τ6 ((23, 1, 0) : Nm) = 9 ∧ vp_in (nI (11 * s + 9)) (hL τ6 ((23, 1, 0) : Nm)) ∧ hK τ6 ((23, 9, 0) : Nm) = 9 ∧ vp_in y5 (hL τ6 ((23, 9, 0) : Nm)) ∧ ∀ σ11 : PH, σ11 = sI τ6 ((23, 9, 0) : Nm) (Int32.toNatClampNeg y5) ((hI τ6 ((23, 1, 0) : Nm) (11 * s + 9)) + (8192 * y9)) → Q 1 σ11) Q f295 0 0 τ3) Q f247 (5 * (nI (11 * s) / 11)) (5 * (nI (11 * s) / 11)) (S P (up I (23, 1, 0) (11 * s + 9) (a (6, s, 0) 10 + 1)) J) := by
  have h4 := hW.1.2.1
  have h16 := hW.1.2.2.2.1
  obtain ⟨q1, q2, q3, q4, q5, q6, q7, q8, q9, q10, q11⟩ := hW.2.2 s hs
  obtain ⟨hmo, hm1, hm2⟩ := bn_tn q4 (by decide)
  obtain ⟨ln, x, y, n1, n2, -, -, y1, -⟩ := slots (B := B) (by omega) hm hSN
  have hs2 : s < 2 := by omega
  have hE1 := hE.sub (j := 9) hs2 (by decide) (a (6, s, 0) 10 + 1)
  rw [show 4 + 9 = 13 from rfl] at hE1
  generalize hI1 : up I (23, 1, 0) (11 * s + 9) (a (6, s, 0) 10 + 1) = I1 at hE1 ⊢
  have e5 : (5 : Int32) * (nI (11 * s) / 11) = nI (5 * s + 0) := by rw [x_div11 hs2, nIx5]; rfl
  have hy : ∀ k, k < 5 → I1 (23, 9, 0) (5 * s + k) &&& 8191 = nI (y k) ∧ y k < 2 ^ 31 := fun k hk => by
    refine ⟨?_, by have := (y1 k hk).2; omega⟩
    rw [EncM_num (hE1.2.2.2.1 (5 * s + k) (by omega)), up_ne (by simp)]; exact (y1 k hk).1
  refine ⟨6, ?_⟩
  rw [e5]
  refine x_oldestL hs2 hy (fun at_ z hat hmin => ?_) 5 0 0 (by omega) (by omega) (fun l hl => by omega)
  have hst := MXs_start (B := B) (at_ := at_) (by omega) hW hs hN hSN h1 h2 h3 hm h5 h6 hat (fun y' hy' l hl => by
    have e : ∀ k, k < 5 → y' k = y k := by
      intro k hk
      have w1 := (hy' k hk).1
      rw [(y1 k hk).1] at w1
      exact ((nI_eq (by have := (y1 k hk).2; omega) (hy' k hk).2).mp w1).symm
    rw [e at_ hat, e l hl]; exact hmin l hl)
  obtain ⟨f1, f2, f3⟩ := SN_next hN hSN
  obtain ⟨f4, f5⟩ := f3 (by omega)
  obtain ⟨⟨m, π, rfl⟩, x2, x3, x4, x5, x6, x7, x8, x9, x10, x11, x12, x13⟩ := hN
  have hKm : K ≤ gM (setM p s m π) s := by
    obtain ⟨-, -, q3⟩ := bn_tn (x4.2.2 s hs).2.2.2.2.2.1 (by have := (x4.2.2 s hs).2.2.2.2.2.2.1; omega)
    rw [x9, tn_nI (by omega)] at q3; omega
  have hEX : EncX (setM p s m π) (up (up b (21, 13, 0) s (a (6, s, 0) 10 + 1)) (21, 30, 0) (5 * s + at_) (a (6, s, 0) 10 + 1)) I1 (5 * s + at_) 0 := by
    obtain ⟨r1, r2, r3, r4, r5⟩ := hE1
    generalize up b (21, 13, 0) s (a (6, s, 0) 10 + 1) = b1 at r1 r2 r3 r4 r5 ⊢
    have eb : ∀ k i, k ≠ 30 ∨ i ≠ 5 * s + at_ → up b1 (21, 30, 0) (5 * s + at_) (a (6, s, 0) 10 + 1) (21, k, 0) i = b1 (21, k, 0) i := fun k i g => up_ne (fun q => by have := q.1; simp only [Prod.mk.injEq] at this; omega)
    have e0 : ∀ i, up b1 (21, 30, 0) (5 * s + at_) (a (6, s, 0) 10 + 1) (20, 0, 0) i = b1 (20, 0, 0) i := fun i => up_ne (by simp)
    refine ⟨fun k hk => by rw [eb 2 _ (by omega)]; exact r1 k hk, fun u k hu hk => by rw [eb _ _ (by omega)]; exact r2 u k hu hk, fun i hi => (r3 i hi).cg (fun k _ _ => eb k _ (by omega)) (fun k q _ _ => eb k _ (by omega)) (fun _ _ _ => rfl) (fun _ _ => rfl), fun c hc hcc => (r4 c hc).cg (fun k _ => eb k _ (by omega)) (fun k q _ _ _ => eb k _ (by omega)) rfl (fun _ _ => rfl), by rw [e0, e0, e0, e0]; exact r5, by omega, fun q hq => by omega⟩
  refine ⟨gT p + 1, ?_⟩
  refine x_itemsL (p := setM p s m π) (o := o) (K := K) (mo := tn (a (6, s, 0) 4)) hs g2 x3 hat g10 hmo6 hKm (fun q hq => (x8 q hq).2) (gT p) 0 a1 _ I1 0 (by show 0 + gT p = gT p; omega) x4 hst hEX (by omega) (by rw [x13 _ 4 (by simp) (by simp)]; exact hmo) (fun b' I' n' z hn' hM hEX' hF hL => ?_)
  have fl6 : ∀ j, flL s o (tn (a (6, s, 0) 4)) T 0 (gT p) a1 (6, s, 0) j = a1 (6, s, 0) j := fun j => flL_o ⟨fun q => by simp only at q; omega, fun q => by simp only at q; omega⟩ _ _ _
  have e13 : I' (23, 1, 0) (11 * s + 9) = nI (ln + 1) := by
    rw [hEX'.2.1 s 9 hs2 (by decide), hM.2.2.1.2.2.2.2.2.2.1, fl6, x10, n1, nI_1]
  have cx : (nI (5 * s + at_)).toNatClampNeg = 5 * s + at_ := nI_clamp (by omega)
  refine ⟨rfl, vinL 22 rfl (by omega) (by decide), rfl, vinL 10 rfl (by omega) (by decide), ?_⟩
  rw [forall_eq, hI_S, cx, e13, show (8192 : Int32) = nI 8192 from rfl, nI_mul, nI_add, sI_S]
  have b30 : b' (21, 30, 0) (5 * s + at_) = nI (ln + 1) := by rw [hM.2.2.2.1.2.2.1, flL_3 (by decide), x11, n1, nI_1]
  refine hQ (up b' (21, 31, 0) (5 * s + at_) (nI n')) _ (MXs_end hM hs hat (by omega) (by rw [fl6]; exact x9) x6 x5 (fun q hq => by rw [flL_3 (by decide), flL_3 (by decide)]; exact f4 q hq) (by rw [flL_3 (by decide)]; exact f5)) ?_ ?_ ?_
  · obtain ⟨r1, r2, r3, r4, r5, r6, r7⟩ := hEX'
    have eb : ∀ k i, k ≠ 31 ∨ i ≠ 5 * s + at_ → up b' (21, 31, 0) (5 * s + at_) (nI n') (21, k, 0) i = b' (21, k, 0) i := fun k i g => up_ne (fun q => by have := q.1; simp only [Prod.mk.injEq] at this; omega)
    have e0 : ∀ i, up b' (21, 31, 0) (5 * s + at_) (nI n') (20, 0, 0) i = b' (20, 0, 0) i := fun i => up_ne (by simp)
    have eI : ∀ k i, k ≠ 9 ∨ i ≠ 5 * s + at_ → up I' (23, 9, 0) (5 * s + at_) (nI (ln + 1 + 8192 * n')) (23, k, 0) i = I' (23, k, 0) i := fun k i g => up_ne (fun q => by have := q.1; simp only [Prod.mk.injEq] at this; omega)
    refine ⟨fun k hk => by rw [eI 0 _ (by omega), eb 2 _ (by omega)]; exact r1 k hk, fun u k hu hk => by rw [eI 1 _ (by omega), eb _ _ (by omega)]; exact r2 u k hu hk, fun i hi => (r3 i hi).cg (fun k _ _ => eb k _ (by omega)) (fun k q _ _ => eb k _ (by omega)) (fun k _ _ => eI k _ (by omega)) (fun _ _ => eI 8 _ (by omega)), fun c hc => ?_, by rw [eI 11 _ (by omega), eI 11 _ (by omega), eI 11 _ (by omega), eI 11 _ (by omega), e0, e0, e0, e0]; exact r5⟩
    by_cases g : c = 5 * s + at_
    · subst g
      refine Or.inr ⟨ln + 1, n', by rw [eb 30 _ (by omega)]; exact b30, by omega, by omega, by rw [up_same], r6, by rw [up_same], fun q hq => ?_⟩
      obtain ⟨i, v, f, w1, w2, w3, w4, w5, w6, w7⟩ := r7 q hq
      exact ⟨i, v, f, by rw [eb 33 _ (by omega)]; exact w1, w2, by rw [eb 32 _ (by omega)]; exact w3, w4, by rw [eb 34 _ (by omega)]; exact w5, w6, by rw [eI 10 _ (by omega)]; exact w7⟩
    · exact (r4 c hc g).cg (fun k _ => eb k _ (by omega)) (fun k q _ _ _ => eb k _ (by omega)) (eI 9 _ (by omega)) (fun _ _ => eI 10 _ (by omega))
  · exact ((FR_up21 (by decide)).tr (FR_up21 (by decide))).tr (hF.tr (FR_up21 (by decide)))
  · rw [← hI1] at hL
    exact (FL_up.tr hL).tr FL_up
