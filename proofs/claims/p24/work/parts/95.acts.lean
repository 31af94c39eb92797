/-! What the law's acts leave. -/
theorem LX.i {N : Nat} {p : PP} {I : IF} (h : LX N p I) : ∃ B, CA I B ∧ LI N p B ∧ XT p B (tn (B (0, 0, 0) 8)) ∧ Enc p B I := by
  obtain ⟨G, h1, h2, h3⟩ := h
  refine ⟨mix I G, CA_mix, h1, ?_, h3.gh rfl (fun n j g _ => mix_hi g)⟩
  rw [show mix I G (0, 0, 0) 8 = I (0, 0, 0) 8 from mix_lo (by decide)]; exact h2
theorem LX.m {N : Nat} {p : PP} {I B : IF} (h0 : CA I B) (h1 : LI N p B) (h2 : XT p B (tn (B (0, 0, 0) 8))) (h3 : Enc p B I) : LX N p I := by
  have e : mix I B = B := mix_eq (fun n j g => (h0 n j g).symm) (fun _ _ _ => rfl)
  refine ⟨B, by rw [e]; exact h1, ?_, h3⟩
  rw [e, ← h0.at_ 0 0 0 8 (by decide)]; exact h2
theorem CA_hl {X B : IF} (h : CA X B) {n : Nm} (hn : 20 ≤ n.1) (j : Nat) (v : Int32) : CA (up X n j v) B := fun m k hm => by
  rw [up_ne (fun q => by rw [q.1] at hm; omega)]; exact h m k hm
theorem CA_hr {X B : IF} (h : CA X B) {n : Nm} (hn : 20 ≤ n.1) (j : Nat) (v : Int32) : CA X (up B n j v) := fun m k hm => by
  rw [up_ne (fun q => by rw [q.1] at hm; omega)]; exact h m k hm
theorem Enc.cls {p : PP} {b I : IF} (h : Enc p b I) {n : Nm} (hn : n.1 < 20) (j : Nat) (v : Int32) : Enc p (up b n j v) I := h.gh rfl (fun m k hm _ => up_ne (fun q => by rw [q.1] at hm; omega))
theorem Enc.thr {p : PP} {b I : IF} (h : Enc p b I) (v : Int32) : Enc p (up b (20, 0, 0) 0 v) I := h.gh rfl (fun m k hm g => up_ne g)
theorem Enc.lcl {p : PP} {b I : IF} (h : Enc p b I) {n : Nm} (hn : n.1 < 20) (j : Nat) (v : Int32) : Enc p b (up I n j v) := h.law (fun m k hm => up_ne (fun q => by rw [q.1] at hm; omega))
theorem XT.up {p : PP} {a : IF} {t : Nat} (h : XT p a t) {n : Nm} (hn : n.1 ≠ 14 ∧ n.1 ≠ 6 ∧ n.1 ≠ 10) (j : Nat) (v : Int32) : XT p (up a n j v) t := h.cg rfl rfl rfl rfl (fun i k _ => up_ne (fun q => hn.1 (by rw [← q.1]))) (fun s k _ => up_ne (fun q => hn.2.1 (by rw [← q.1]))) (fun s o => up_ne (fun q => hn.2.2 (by rw [← q.1])))
section
variable {N : Nat} {p : PP} {I : IF}
theorem write_LX {t k v : Nat} (h : LX N p I) (w : k < 3) (v2 : v ≤ 1000) (hcc : hC I < 512) (hnow : I (0, 0, 0) 8 = nI t) (t5 : t ≤ 5000) : LX (N + 1) p (wrA (up I (23, 0, 0) k (nI v)) k (hC (up I (23, 0, 0) k (nI v))) (nI t) (nI v)) := by
  obtain ⟨B, h0, h1, h2, h3⟩ := h.i
  have eC : hC B = hC I := hC_cg (fun j => h0.at_ 4 0 0 j (by decide))
  have eC' : hC (up I (23, 0, 0) k (nI v)) = hC I := hC_cg (fun j => up_ne (by simp))
  have g := write_LI (k := k) (v := v) h1 (by omega) v2 (by rw [eC]; exact hcc) (by rw [h0.at_ 0 0 0 8 (by decide)]; exact hnow) t5
  rw [eC'] at *
  rw [eC] at g
  have e0 : up (up (wrA B k (hC I) (nI t) (nI v)) (20, 0, 0) 0 0) (21, 2, 0) k (nI v) (0, 0, 0) 8 = B (0, 0, 0) 8 := by rw [up_ne (by simp), up_ne (by simp), wrA_o (by decide)]
  refine LX.m (CA_hr (CA_hr ?_ (by decide) _ _) (by decide) _ _) g ?_ ?_
  · exact CA_up (CA_up (CA_up (CA_up (CA_up (CA_hl h0 (by decide) _ _) _ _ _) _ _ _) _ _ _) _ _ _) _ _ _
  · rw [e0]
    exact (h2.up (by decide) _ _ |>.up (by decide) _ _ |>.up (by decide) _ _ |>.up (by decide) _ _ |>.up (by decide) _ _ |>.up (n := (20, 0, 0)) (by decide) 0 0 |>.up (n := (21, 2, 0)) (by decide) k (nI v))
  · have g2 : Enc p (up (wrA B k (hC I) (nI t) (nI v)) (20, 0, 0) 0 0) I := (h3.cls (by decide) _ _ |>.cls (by decide) _ _ |>.cls (by decide) _ _ |>.cls (by decide) _ _ |>.cls (by decide) _ _ |>.thr 0)
    have g3 := g2.node w (nI v)
    exact (g3.lcl (by decide) _ _ |>.lcl (by decide) _ _ |>.lcl (by decide) _ _ |>.lcl (by decide) _ _ |>.lcl (by decide) _ _)
theorem request_LX {q0 : Nat} (h : LX N p I) (w : q0 < 10) : LX N p (up (up I (23, 11, 0) 3 (nI (q0 + 1))) (0, 0, 0) 7 (nI (q0 + 1))) := by
  obtain ⟨B, h0, h1, h2, h3⟩ := h.i
  refine LX.m ?_ (request_LI (q0 := q0) h1 w) ?_ ?_
  · exact CA_hr (CA_hr (CA_up (CA_hl h0 (by decide) _ _) _ _ _) (by decide) _ _) (by decide) _ _
  · rw [up_ne (by simp), up_ne (by simp), up_nj (by decide)]
    exact (h2.up (by decide) _ _ |>.up (by decide) _ _ |>.up (by decide) _ _)
  · exact (((h3.cls (by decide) _ _).thr _).num (Or.inr (Or.inr (Or.inr ⟨rfl, rfl⟩))) _).lcl (by decide) _ _
theorem close_LX {s : Nat} (h : LX N p I) (hs : s < gS p) : LX N p (up (up I (23, 1, 0) (11 * s) 0) (6, s, 0) 7 0) := by
  obtain ⟨B, h0, h1, h2, h3⟩ := h.i
  refine LX.m ?_ (close_LI h1 hs) ?_ ?_
  · exact CA_hr (CA_hr (CA_up (CA_hl h0 (by decide) _ _) _ _ _) (by decide) _ _) (by decide) _ _
  · rw [up_ne (by simp), up_ne (by simp), up_ne (by simp)]
    refine (XT.up (XT.up ?_ (by decide) _ _) (by decide) _ _)
    obtain ⟨k1, k2, k3, k4, k5⟩ := h2
    refine ⟨k1, k2, fun i hi => by rw [up_ne (by simp)]; exact k3 i hi, fun u hu => ?_, ?_⟩
    · obtain ⟨g1, g2, lr, lf, g3, g4, g5, g6, g7, g8⟩ := k4 u hu
      refine ⟨by rw [up_nj (by decide)]; exact g1, SN.cg rfl (up_nj (by decide)) (up_nj (by decide)) (fun o => up_ne (by simp)) g2, lr, lf, by rw [up_nj (by decide)]; exact g3, by rw [up_nj (by decide)]; exact g4, g5, g6, g7, fun z => ?_⟩
      by_cases e : u = s
      · subst e; rw [up_same] at z; exact absurd rfl z
      · rw [up_ne (fun q => e (by have := q.1; simp only [Prod.mk.injEq] at this; exact this.2.1))] at z; exact g8 z
    · intro i hi j hj hb
      rw [up_ne (by simp)] at hb
      exact k5 i hi j hj hb
  · have hs2 : s < 2 := by have := h2.1; omega
    exact (((h3.cls (show 6 < 20 by decide) _ _).thr _).sub (s := s) (j := 0) hs2 (by decide) _).lcl (show 6 < 20 by decide) _ _
theorem rep_LX {i : Nat} {y T : Int32} (h : LX N p I) (hi : i < gT p) (hy : zb y) (hT : ∀ n, I (23, 2, 0) i = nI n → n < 2 ^ 31 → n / 16384 % 2 ≤ 1 → T = nI (n % 16384 + 16384 * tn y + 32768 * (n / 32768))) : LX N p (up (up I (23, 2, 0) i T) (14, i, 0) 6 y) := by
  obtain ⟨B, h0, h1, h2, h3⟩ := h.i
  obtain ⟨t, hIV, -⟩ := id h1
  have hM := hIV.2.1
  have hEi := h3.2.2.1 i hi
  obtain ⟨m1, m2, m3, m4, m5, m6, m7, m8, m9, m10, m11, m12, m13, m14⟩ := hM.2.2.1 i hi
  have uo : ∀ r k z j, (r ≠ 14 ∨ k ≠ i ∨ j ≠ 6) → up B (14, i, 0) 6 y (r, k, z) j = B (r, k, z) j := fun r k z j g => up_ne (fun q => by have := q.1; simp only [Prod.mk.injEq] at this; have := q.2; omega)
  have b23 : ∀ k j, k ≠ 23 ∨ j ≠ i → up (up B (14, i, 0) 6 y) (21, 23, 0) i y (21, k, 0) j = B (21, k, 0) j := fun k j g => by
    rw [up_ne (fun q => by have := q.1; simp only [Prod.mk.injEq] at this; have := q.2; omega), uo _ _ _ _ (Or.inl (by decide))]
  have b20 : ∀ j, up (up B (14, i, 0) 6 y) (21, 23, 0) i y (20, 0, 0) j = B (20, 0, 0) j := fun j => by
    rw [up_ne (by simp), uo _ _ _ _ (Or.inl (by decide))]
  have l23 : ∀ k j, k ≠ 2 ∨ j ≠ i → up (up I (23, 2, 0) i T) (14, i, 0) 6 y (23, k, 0) j = I (23, k, 0) j := fun k j g => by
    rw [up_ne (by simp), up_ne (fun q => by have := q.1; simp only [Prod.mk.injEq] at this; have := q.2; omega)]
  refine LX.m (B := up (up B (14, i, 0) 6 y) (21, 23, 0) i y) ?_ ?_ ?_ ?_
  · exact CA_hr (CA_up (CA_hl h0 (by decide) _ _) _ _ _) (by decide) _ _
  · refine LI_itm h1 hi (I' := up B (14, i, 0) 6 y) (fun n j g => up_ne (fun q => g ⟨q.1, Or.inl q.2⟩)) (by rw [up_same]; exact hy) (fun n j _ g2 => up_ne (fun q => g2 (by rw [q.1]; exact ⟨rfl, Or.inl rfl, q.2⟩))) (by rw [up_same, up_same]) ?_
    rw [b23 24 i (Or.inl (by decide)), up_nj (by decide)]; exact m9
  · rw [up_ne (by simp), up_ne (by simp)]
    refine XT.up (h2.cg rfl rfl rfl rfl (fun k j g => uo _ _ _ _ (Or.inr (Or.inr (by omega)))) (fun s j g => uo _ _ _ _ (Or.inl (by decide))) (fun s o => uo _ _ _ _ (Or.inl (by decide)))) (by decide) _ _
  · refine h3.item (i := i) (Or.inl rfl) (fun k j g => b23 _ _ (Or.inl (by omega))) (fun k j _ _ g => b23 _ _ (Or.inr g)) (fun k j g _ => b23 _ _ (Or.inl (by omega))) (fun k j g => l23 _ _ (Or.inl (by omega))) (fun k j _ _ g => l23 _ _ (Or.inr g)) (fun j _ => l23 _ _ (Or.inl (by decide))) ?_ ?_
    · rw [l23 11 _ (Or.inl (by decide)), l23 11 _ (Or.inl (by decide)), l23 11 _ (Or.inl (by decide)), l23 11 _ (Or.inl (by decide)), b20, b20, b20, b20]; exact h3.2.2.2.2
    · obtain ⟨N0, n1, n2, n3⟩ := x_itm hIV.1 hM h3 h2.1 hi
      obtain ⟨g1, g2, g3, g4, g5, g6, g7, g8, g9⟩ := hEi
      have e := hT N0 n1 n2 (by omega)
      have eN : N0 = tkN B i := by
        rw [n1] at g2
        have q1 := tn_zb (hIV.1.2.1 i hi).2.2.2.2.1
        obtain ⟨-, -, q2⟩ := bn_tn (hIV.1.2.1 i hi).2.2.1 (by decide)
        obtain ⟨-, -, q3⟩ := bn_tn (hIV.1.2.1 i hi).2.1 (by decide)
        obtain ⟨-, -, q4⟩ := bn_tn (hIV.1.2.1 i hi).2.2.2.2.2.1 (by decide)
        obtain ⟨sz, c, q5, q6, q7, -⟩ := (hIV.1.2.1 i hi).2.2.2.2.2.2
        have q8 : tn (B (16, i, 0) 0) = sz := by rw [q5, tn_nI (by omega)]
        have q9 : tn (B (21, 16, 0) i) ≤ 1 := by
          have := hIV.1.1.2.2.2.2.2.1 i hi
          have := h2.1
          rw [m1, tn_nI (by omega)]; omega
        have : tkN B i < 2 ^ 31 := by
          unfold tkN
          rw [m2, m4, m5, m7, m8]
          omega
        exact (nI_eq n2 this).mp g2
      have eR : tn (B (21, 23, 0) i) ≤ 1 := by rw [m8]; exact (tn_zb (hIV.1.2.1 i hi).2.2.2.2.1).1
      have eL : tkN B i % 16384 + 16384 * tn y + 32768 * (tkN B i / 32768) = tkN (up (up B (14, i, 0) 6 y) (21, 23, 0) i y) i := by
        unfold tkN
        rw [b23 16 i (Or.inl (by decide)), b23 17 i (Or.inl (by decide)), b23 19 i (Or.inl (by decide)), b23 20 i (Or.inl (by decide)), b23 21 i (Or.inl (by decide)), b23 22 i (Or.inl (by decide)), up_same]
        obtain ⟨-, -, q3⟩ := bn_tn (hIV.1.2.1 i hi).2.1 (by decide)
        obtain ⟨-, -, q4⟩ := bn_tn (hIV.1.2.1 i hi).2.2.2.2.2.1 (by decide)
        obtain ⟨sz, c, q5, q6, q7, -⟩ := (hIV.1.2.1 i hi).2.2.2.2.2.2
        have q8 : tn (B (21, 20, 0) i) = sz := by rw [m5, q5, tn_nI (by omega)]
        have q9 : tn (B (21, 16, 0) i) ≤ 1 := by
          have := hIV.1.1.2.2.2.2.2.1 i hi
          have := h2.1
          rw [m1, tn_nI (by omega)]; omega
        have q10 : tn (B (21, 17, 0) i) ≤ 9 := by rw [m2]; exact q3
        have q11 : tn (B (21, 19, 0) i) ≤ 20 := by rw [m4]; exact q4
        have q12 := g1.2
        omega
      refine ⟨by rw [b23 21 i (Or.inl (by decide))]; exact g1, ?_, ?_, ?_, ?_, ?_, ?_, by rw [b23 27 i (Or.inl (by decide))]; exact g8, fun k hk => ?_⟩
      · rw [← eL, ← eN, ← e, up_ne (by simp), up_same]
      · rw [l23 3 i (Or.inl (by decide)), b23 18 i (Or.inl (by decide))]; exact g3
      · rw [l23 4 i (Or.inl (by decide)), b23 25 i (Or.inl (by decide))]; exact g4
      · rw [l23 5 i (Or.inl (by decide)), b23 26 i (Or.inl (by decide))]; exact g5
      · rw [l23 6 i (Or.inl (by decide)), b23 27 i (Or.inl (by decide))]; exact g6
      · rw [l23 7 i (Or.inl (by decide)), b23 24 i (Or.inl (by decide))]; exact g7
      · rw [b23 27 i (Or.inl (by decide))] at hk
        rw [l23 8 _ (Or.inl (by decide)), b23 28 _ (Or.inl (by decide)), b23 29 _ (Or.inl (by decide))]; exact g9 k hk
theorem link_LX {i j : Nat} {T' : Int32} {I1 : IF} (h : LX N p I) (hi : i < gT p) (hj : j < gT p) (ho : gW p i = gW p j) (hT : ∀ k, k < 32 → bq T' k = true → bq (I (14, i, 0) 7) k = true ∨ k = j) (h1 : ∀ n k, ¬ (n = (14, i, 0) ∧ k = 7) → I1 n k = up I (23, 7, 0) i T' n k) (h2 : I1 (14, i, 0) 7 = T') : LX N p I1 := by
  have eI : I1 = up (up I (23, 7, 0) i T') (14, i, 0) 7 T' := by
    funext n k
    by_cases g : n = (14, i, 0) ∧ k = 7
    · rw [g.1, g.2, up_same]; exact h2
    · rw [up_ne g]; exact h1 n k g
  subst eI
  obtain ⟨B, h0, g1, g2, g3⟩ := h.i
  obtain ⟨t, hIV, -⟩ := id g1
  have uo : ∀ r k z m, (r ≠ 14 ∨ k ≠ i ∨ m ≠ 7) → up B (14, i, 0) 7 T' (r, k, z) m = B (r, k, z) m := fun r k z m g => up_ne (fun q => by have := q.1; simp only [Prod.mk.injEq] at this; have := q.2; omega)
  have b23 : ∀ k m, k ≠ 24 ∨ m ≠ i → up (up (up B (14, i, 0) 7 T') (20, 0, 0) 0 0) (21, 24, 0) i T' (21, k, 0) m = B (21, k, 0) m := fun k m g => by
    rw [up_ne (fun q => by have := q.1; simp only [Prod.mk.injEq] at this; have := q.2; omega), up_ne (by simp), uo _ _ _ _ (Or.inl (by decide))]
  have b20 : ∀ m, m ≠ 0 → up (up (up B (14, i, 0) 7 T') (20, 0, 0) 0 0) (21, 24, 0) i T' (20, 0, 0) m = B (20, 0, 0) m := fun m hm => by
    rw [up_ne (by simp), up_nj hm, uo _ _ _ _ (Or.inl (by decide))]
  have l23 : ∀ k m, k ≠ 7 ∨ m ≠ i → up (up I (23, 7, 0) i T') (14, i, 0) 7 T' (23, k, 0) m = I (23, k, 0) m := fun k m g => by
    rw [up_ne (by simp), up_ne (fun q => by have := q.1; simp only [Prod.mk.injEq] at this; have := q.2; omega)]
  refine LX.m ?_ (lk_li g1 hi (I1 := up B (14, i, 0) 7 T') (fun n m g => up_ne g) (up_same _ _ _ _)) ?_ ?_
  · exact CA_hr (CA_hr (CA_up (CA_hl h0 (by decide) _ _) _ _ _) (by decide) _ _) (by decide) _ _
  · rw [up_ne (by simp), up_ne (by simp), up_ne (by simp)]
    refine (XT.up (XT.up ?_ (by decide) _ _) (by decide) _ _)
    obtain ⟨k1, k2, k3, k4, k5⟩ := g2
    refine ⟨k1, k2, fun m hm => by rw [uo _ _ _ _ (Or.inr (Or.inr (by decide)))]; exact k3 m hm, fun u hu => ?_, ?_⟩
    · obtain ⟨f1, f2, f3⟩ := k4 u hu
      exact ⟨by rw [uo _ _ _ _ (Or.inl (by decide))]; exact f1, SN.cg rfl (uo _ _ _ _ (Or.inl (by decide))) (uo _ _ _ _ (Or.inl (by decide))) (fun o => uo _ _ _ _ (Or.inl (by decide))) f2, f3.cg (fun m _ => uo _ _ _ _ (Or.inl (by decide)))⟩
    · intro a ha b hb hbb
      by_cases e : a = i
      · subst e
        rw [up_same] at hbb
        rcases hT b hb hbb with w | w
        · rw [← h0.at_ 14 a 0 7 (by decide)] at w; exact k5 a ha b hb w
        · subst w; exact ⟨hj, ho.symm⟩
      · rw [uo _ _ _ _ (Or.inr (Or.inl e))] at hbb
        exact k5 a ha b hb hbb
  · obtain ⟨f1, f2, f3, f4, f5, f6, f7, f8, f9⟩ := g3.2.2.1 i hi
    refine g3.item (i := i) (Or.inl rfl) (fun k m g => b23 _ _ (Or.inl (by omega))) (fun k m _ _ g => b23 _ _ (Or.inr g)) (fun k m g _ => b23 _ _ (Or.inl (by omega))) (fun k m g => l23 _ _ (Or.inl (by omega))) (fun k m _ _ g => l23 _ _ (Or.inr g)) (fun m _ => l23 _ _ (Or.inl (by decide))) ?_ ?_
    · rw [l23 11 _ (Or.inl (by decide)), l23 11 _ (Or.inl (by decide)), l23 11 _ (Or.inl (by decide)), l23 11 _ (Or.inl (by decide)), b20 _ (by decide), b20 _ (by decide), b20 _ (by decide), b20 _ (by decide)]; exact g3.2.2.2.2
    · have tk : tkN (up (up (up B (14, i, 0) 7 T') (20, 0, 0) 0 0) (21, 24, 0) i T') i = tkN B i := by
        unfold tkN
        rw [b23 16 i (Or.inl (by decide)), b23 17 i (Or.inl (by decide)), b23 19 i (Or.inl (by decide)), b23 20 i (Or.inl (by decide)), b23 21 i (Or.inl (by decide)), b23 22 i (Or.inl (by decide)), b23 23 i (Or.inl (by decide))]
      refine ⟨by rw [b23 21 i (Or.inl (by decide))]; exact f1, ?_, ?_, ?_, ?_, ?_, ?_, by rw [b23 27 i (Or.inl (by decide))]; exact f8, fun k hk => ?_⟩
      · rw [tk, l23 2 i (Or.inl (by decide))]; exact f2
      · rw [l23 3 i (Or.inl (by decide)), b23 18 i (Or.inl (by decide))]; exact f3
      · rw [l23 4 i (Or.inl (by decide)), b23 25 i (Or.inl (by decide))]; exact f4
      · rw [l23 5 i (Or.inl (by decide)), b23 26 i (Or.inl (by decide))]; exact f5
      · rw [l23 6 i (Or.inl (by decide)), b23 27 i (Or.inl (by decide))]; exact f6
      · rw [up_ne (by simp), up_same, up_same]
      · rw [b23 27 i (Or.inl (by decide))] at hk
        rw [l23 8 _ (Or.inl (by decide)), b23 28 _ (Or.inl (by decide)), b23 29 _ (Or.inl (by decide))]; exact f9 k hk
theorem Enc.msg0 {p p' : PP} {b I : IF} (h : Enc p b I) (hp : gT p' = gT p) (c : Nat) : Enc p' (up b (21, 30, 0) c 0) (up I (23, 9, 0) c 0) := by
  have eb : ∀ k i, k ≠ 30 → up b (21, 30, 0) c 0 (21, k, 0) i = b (21, k, 0) i := fun k i g => up_ne (fun q => by have := q.1; simp only [Prod.mk.injEq] at this; omega)
  have eI : ∀ m i, m ≠ 9 → up I (23, 9, 0) c 0 (23, m, 0) i = I (23, m, 0) i := fun m i g => up_ne (fun q => n23 g q.1)
  have e0 : ∀ i, up b (21, 30, 0) c 0 (20, 0, 0) i = b (20, 0, 0) i := fun i => up_ne (by simp)
  obtain ⟨h1, h2, h3, h4, h5, h6, h7, h8⟩ := h
  refine ⟨fun k hk => by rw [eI 0 _ (by decide), eb _ _ (by decide)]; exact h1 k hk, fun u k hu hk => by rw [eI 1 _ (by decide), eb _ _ (by omega)]; exact h2 u k hu hk, fun i hi => (h3 i (by omega)).cg (fun k _ _ => eb k _ (by omega)) (fun k q _ _ => eb k _ (by omega)) (fun k _ _ => eI k _ (by omega)) (fun q _ => eI 8 _ (by decide)), fun d hd => ?_, by rw [eI 11 _ (by decide), e0]; exact h5, by rw [eI 11 _ (by decide), e0]; exact h6, by rw [eI 11 _ (by decide), e0]; exact h7, by rw [eI 11 _ (by decide), e0]; exact h8⟩
  by_cases g : d = c
  · subst g; exact Or.inl ⟨up_same _ _ _ _, up_same _ _ _ _⟩
  · exact (h4 d hd).cg (fun k _ => up_nj g) (fun k q _ _ _ => eb k _ (by omega)) (up_nj g) (fun q _ => eI 10 _ (by decide))
theorem ack_LX {s q k K : Nat} {x : Int32} (h : LX N p I) (hs : s < gS p) (hKe : tn (I (6, s, 0) 9) = K) (hq : q < K) (hk : k < 5) (ex : I (10, s, gP p s q) 3 = x) (hx : ¬ x ≤ 0) (ek : I (23, 9, 0) (5 * s + k) &&& 8191 = x) (uk : ∀ l, l < 5 → I (23, 9, 0) (5 * s + l) &&& 8191 = x → l = k) : LX N (setM p s (gM p s) (fgP (gP p s) q K)) (up (up I (23, 9, 0) (5 * s + k) 0) (6, s, 0) 9 (nI (K - 1))) := by
  obtain ⟨B, h0, g1, g2, g3⟩ := h.i
  obtain ⟨t, hIV, -⟩ := id g1
  have g2S := g2.1
  have hm5 := (hIV.1.2.2 s hs).2.2.2.2.2.2.1
  obtain ⟨-, -, hkm⟩ := bn_tn (hIV.1.2.2 s hs).2.2.2.2.2.1 (by omega)
  have hKe' : tn (B (6, s, 0) 9) = K := by rw [h0.at_ 6 s 0 9 (by decide)]; exact hKe
  have num : ∀ l, l < 5 → B (21, 30, 0) (5 * s + l) = I (23, 9, 0) (5 * s + l) &&& 8191 := fun l hl => (EncM_num (g3.2.2.2.1 (5 * s + l) (by omega))).symm
  refine LX.m ?_ (ack_LI g1 hs hKe' hq hk (by rw [num k hk, ek, h0.at_ 10 s _ 3 (by decide)]; exact ex.symm) (fun l hl e => uk l hl (by rw [← num l hl, e, h0.at_ 10 s _ 3 (by decide)]; exact ex))) ?_ ?_
  · exact CA_hr (CA_hr (CA_up (CA_hl h0 (by decide) _ _) _ _ _) (by decide) _ _) (by decide) _ _
  · rw [up_ne (by simp), up_ne (by simp), up_ne (by simp)]
    refine (XT.up (XT.up ?_ (by decide) _ _) (by decide) _ _)
    obtain ⟨k1, k2, k3, k4, k5⟩ := g2
    refine ⟨k1, k2, fun m hm => by rw [up_ne (by simp)]; exact k3 m hm, fun u hu => ?_, ?_⟩
    · obtain ⟨f1, f2, f3⟩ := k4 u hu
      refine ⟨by rw [up_nj (by decide)]; exact f1, ?_, f3.cg (fun m hm => up_nj (by omega))⟩
      by_cases e : u = s
      · subst e
        exact ack_SN (by omega) f2 hKe' hq
      · exact SN.cg (by unfold setM gP; simp [e]) (up_ne (fun w => e (by have := w.1; simp only [Prod.mk.injEq] at this; exact this.2.1))) (up_nj (by decide)) (fun o => up_ne (by simp)) f2
    · intro a ha b hb hbb
      rw [up_ne (by simp)] at hbb
      exact k5 a ha b hb hbb
  · exact (((g3.cls (show 6 < 20 by decide) _ _).thr _).msg0 rfl _).lcl (show 6 < 20 by decide) _ _
end
