/-! The acts that go. -/
theorem sub_of (x : Int32) : ∃ s, s < 2 ∧ x &&& 1 = nI s := by
  have e : x &&& 1 = nI (if bq x 0 then 1 else 0) := bq_ext (fun i hi => by
    rw [bq_and, bq_1 i hi, bq_nI hi]
    by_cases g : i = 0
    · subst g; cases bq x 0 <;> simp
    · have g1 : Nat.testBit 1 i = false := Nat.testBit_lt_two_pow (Nat.one_lt_two_pow g)
      cases bq x 0 <;> simp [g, g1])
  exact ⟨_, by split <;> omega, e⟩
section
variable {N : Nat} {p : PP} {I : IF} {J : JF}
theorem nz0 : hK (S p I J) (0, 0, 0) ≠ 0 := by rw [hK_S, kq0]; decide
theorem nzL {k : Nat} (h : k < 12) : hK (S p I J) (23, k, 0) ≠ 0 := by
  rw [hK_S, show Kf p (23, k, 0) = 9 from if_pos ⟨h, rfl⟩]; decide
theorem ack_min {s : Nat} {Q : Int32 → PH → Prop} (hX : LX N p I) (hs : s < gS p) (l : I (6, s, 0) 7 ≠ 0) (g : Q 0 (S p I J)) : wL_acknowledge (0, 0, 0) (nI s) (-2147483648) (S p I J) Q := by
  obtain ⟨t, h⟩ := hX.v
  have no : ∀ u q, u < gS p → q < tn (I (6, u, 0) 9) → I (10, u, gP p u q) 3 ≠ -2147483648 := by
    intro u q hu hq e
    obtain ⟨ln, y, n1, n2, n3, n4⟩ := h.2.2.2.2.2.2.2.2.2.2.2.2.2 u hu
    have h5 := h.2.2.2.1
    obtain ⟨w1, w2, w3⟩ := n3 q hq
    rw [w1] at e
    exact nI_ng (q := y q) (by omega) (by decide) e.symm
  exact w_ack h.1 (fun u q a1 _ _ a4 a5 => absurd a5 (no u q a1 a4)) (fun _ _ _ _ _ => g) (fun w => absurd (w s hs rfl) l)
theorem ack_ix {x y : Int32} {Q : Int32 → PH → Prop} (hW : WF p I) (hn : ∀ s, s < gS p → x = nI s → I (6, s, 0) 7 = 0) (g : Q (-7100) (S p I J)) : wL_acknowledge (0, 0, 0) x y (S p I J) Q :=
  w_ack hW (fun s _ a1 a2 a3 _ _ => absurd (hn s a1 a2) a3) (fun s a1 a2 a3 _ => absurd (hn s a1 a2) a3) (fun _ => g)
theorem pass_rg {x : Int32} {t : Nat} {Q : Int32 → PH → Prop} (h : LV N p I t) (hn : ¬ bn x 1 50) (g : Q (-7200) (S p I J)) : wL_pass (0, 0, 0) x (S p I J) Q :=
  w_pass h.1 h.2.2.2.2.2.2.2.2.2.1.ok h.2.2.2.2.1 h.2.2.2.1 (fun n _ _ _ _ a1 a2 a3 _ _ => absurd ⟨n, a1, a2, a3⟩ hn) (fun _ => g) (fun n a1 a2 a3 _ => absurd ⟨n, a1, a2, a3⟩ hn)
set_option maxHeartbeats 1000000 in
theorem x_goes {p2 p3 p4 : Int32} {Q : Int32 → PH → Prop} (hX : LX N p I) (hN : N < 512) (hQ : ∀ p' I' J', LX (N + 1) p' I' → Q 1 (S p' I' J')) : wL_goes (0, 0, 0) p2 p3 p4 (23, 0, 0) (23, 1, 0) (23, 2, 0) (23, 3, 0) (23, 4, 0) (23, 5, 0) (23, 6, 0) (23, 7, 0) (23, 8, 0) (23, 9, 0) (23, 10, 0) (23, 11, 0) (S p I J) Q := by
  obtain ⟨t, h⟩ := hX.v
  have h' := h
  obtain ⟨hW, g2, g10, t5, hnow, hn, hv, hs, hi, hOQ, hG, hTH, hCm, hSN⟩ := h'
  have same : Q 1 (S p I J) := hQ p I J (hX.mono (Nat.le_succ N))
  have h4 := hW.1.2.1
  unfold wL_goes
  refine ⟨fun _ => ⟨fun _ => ⟨fun _ => ?_, fun _ => ?_⟩, fun _ => ?_⟩, fun _ => ?_⟩
  -- pass
  · refine jV_i (fun y => ∃ m, y = nI m ∧ 0 < m ∧ m ≤ 50) (fun x1 hx1 => ?_) (fun K h1 => ⟨fun _ => h1 _ ⟨4, rfl, by decide, by decide⟩, fun _ => h1 _ ⟨50, rfl, by decide, by decide⟩⟩)
    obtain ⟨m, rfl, m0, m50⟩ := hx1
    refine c_low m0 (by omega) (fun k hk => ?_)
    have en : 1 + nI k = nI (1 + k) := nI_add 1 k
    have bo : ∀ {x : Int32}, x = 0 ∨ x = 51 ∨ x = -1 → ¬ bn x 1 50 := by
      rintro x (rfl | rfl | rfl)
      · rw [show (0 : Int32) = nI 0 from rfl, bn_iff (by decide) (by decide)]; omega
      · rw [show (51 : Int32) = nI 51 from rfl, bn_iff (by decide) (by decide)]; omega
      · exact bn_neg (by decide)
    refine ⟨nz0, nzL (by decide), nzL (by decide), nzL (by decide), nzL (by decide), nzL (by decide), nzL (by decide), nzL (by decide), nzL (by decide), nzL (by decide), nzL (by decide), nzL (by decide), nzL (by decide), pass_rg h (bo (Or.inl rfl)) ⟨fun w => absurd rfl w, fun _ => ?_⟩⟩
    refine ⟨nz0, nzL (by decide), nzL (by decide), nzL (by decide), nzL (by decide), nzL (by decide), nzL (by decide), nzL (by decide), nzL (by decide), nzL (by decide), nzL (by decide), nzL (by decide), nzL (by decide), pass_rg h (bo (Or.inr (Or.inl rfl))) ⟨fun w => absurd rfl w, fun _ => ?_⟩⟩
    refine ⟨nz0, nzL (by decide), nzL (by decide), nzL (by decide), nzL (by decide), nzL (by decide), nzL (by decide), nzL (by decide), nzL (by decide), nzL (by decide), nzL (by decide), nzL (by decide), nzL (by decide), pass_rg h (bo (Or.inr (Or.inr rfl))) ⟨fun _ => ⟨rfl, vinL (i := 0) 4 rfl (by decide) (by decide), ?_⟩, fun w => absurd rfl w⟩⟩
    rw [hI_S, show Int32.toNatClampNeg 0 = 0 from rfl, hn.1, en, show nI t + nI (1 + k) = nI (t + (1 + k)) from nI_add _ _, show (5000 : Int32) = nI 5000 from rfl, nI_leI (by omega) (by omega)]
    refine ⟨fun w => ?_, fun w => ?_⟩
    · obtain ⟨B, h0, h1, h2, h3⟩ := hX.i
      obtain ⟨t', hIV, hG', hH', hN'⟩ := id h1
      have eB : B (0, 0, 0) 8 = nI t := by rw [h0.at_ 0 0 0 8 (by decide)]; exact hnow
      have et : t' = t := (nI_eq (by have := hIV.2.2.2.2.2.2.2; omega) (by omega)).mp (hIV.2.2.2.2.2.1.symm.trans eB)
      subst et
      rw [eB, tn_nI (by omega)] at h2
      refine ⟨1 + k + 1, ?_⟩
      refine x_passL (n := 1 + k) en w (fun p' a' c b' I' y f1 f2 f3 f4 f5 => ?_) (1 + k) 0 p B 0 B I (by omega) ⟨rfl, rfl, rfl⟩ hIV h2 h3 FL.rf
      refine w_pass (hW.ca f5.ca) hOQ.ok (by rw [f5 _ _ (by decide)]; exact hnow) t5 (fun n p'' a'' c'' J' a1 a2 a3 a4 a5 => ?_) (fun z => absurd (bn_nI (by omega) (by omega)) z) (fun n a1 a2 a3 a4 => ?_)
      · have : 1 + k = n := (nI_eq (by omega) (by omega)).mp a3
        subst this
        obtain ⟨e1, e2⟩ := pass_LX h0 h1 eB w f1 f2 f3 f4 f5 a5
        exact ⟨fun z => absurd e1 z, fun _ => hQ _ _ _ (e2.mono (Nat.le_succ N))⟩
      · have : 1 + k = n := (nI_eq (by omega) (by omega)).mp a3
        omega
    · refine w_pass hW hOQ.ok hnow t5 (fun n p'' a'' c'' J' a1 a2 a3 a4 a5 => ?_) (fun z => absurd (bn_nI (by omega) (by omega)) z) (fun n a1 a2 a3 a4 => ⟨fun z => absurd rfl z, fun _ => same⟩)
      have : 1 + k = n := (nI_eq (by omega) (by omega)).mp a3
      omega
  -- acknowledge
  · obtain ⟨s, s2, es⟩ := sub_of p3
    have x0 : 11 * nI s = nI (11 * s) := nI_mul 11 _
    rw [es, x0, show nI (11 * s) + 9 = nI (11 * s + 9) from nI_add _ 9]
    refine ⟨rfl, vinL 22 rfl (by omega) (by decide), c_low (n := 8) (by decide) (by decide) (fun k hk => ?_)⟩
    intro x2 _
    refine ⟨rfl, vinL (i := 1) 4 rfl (by decide) (by decide), ?_⟩
    have clo : (∀ u, u < gS p → nI s = nI u → I (6, u, 0) 7 = 0) → wL_acknowledge (0, 0, 0) (nI s) x2 (S p I J) (fun r9 σ9 => ((¬ r9 = (-7100) → Q 0 σ9) ∧ (r9 = (-7100) → wL_acknowledge (0, 0, 0) (-1) x2 σ9 (fun r10 σ10 => ((¬ r10 = (-7100) → Q 0 σ10) ∧ (r10 = (-7100) → Q 1 σ10)))))) := fun hno =>
      ack_ix hW hno ⟨fun w => absurd rfl w, fun _ => ack_ix hW (fun u hu e => absurd e (nI_ng (by omega) (by decide))) ⟨fun w => absurd rfl w, fun _ => same⟩⟩
    rw [hI_S, show Int32.toNatClampNeg 1 = 1 from rfl, hn.2.1, nI_clamp (show 11 * s < 2 ^ 31 by omega)]
    refine ⟨fun w => clo (fun u hu e => ?_), fun w => ⟨vinL 22 rfl (by omega) (by decide), fun z => ?_, fun z => clo (fun u hu e => ?_)⟩⟩
    · have := (nI_eq (show s < 2 ^ 31 by omega) (by omega)).mp e
      rw [nI_leI (by omega) (by omega)] at w; omega
    · have hsg : s < gS p := by rw [nI_leI (by omega) (by omega)] at w; omega
      have l : I (6, s, 0) 7 ≠ 0 := by rw [← (hs s hsg).1]; exact z
      refine x_kept hX hsg (fun q k' n hq e hk' zx ek uk e4 n6 em he => ?_) (fun hno => ?_)
      · have z0 : ¬ nI (5 * s + k') < 0 := by rw [nI_lt0 (by omega)]; exact fun w => w
        refine jV_i (fun y => y = 1) (fun x3 h3 => ?_) (fun K h1 => ⟨fun w => absurd w z0, fun _ => h1 _ rfl⟩)
        subst h3
        refine jS_i (fun σ => σ = S p (up I (23, 9, 0) (5 * s + k') 0) J) (fun σ hσ => ?_) (fun K h1 => ⟨fun w => absurd w (by decide), fun _ => ⟨rfl, vinL 10 rfl (by omega) (by decide), ?_⟩⟩)
        · subst hσ
          have cI : CA I (up I (23, 9, 0) (5 * s + k') 0) := CA_hr CA.rf (by decide) _ _
          have c : ∀ r a b j, r < 20 → up I (23, 9, 0) (5 * s + k') 0 (r, a, b) j = I (r, a, b) j := fun r a b j hr => cI _ _ hr
          refine w_ack (hW.ca cI) (fun u q' a1 a2 _ a4 a5 => ?_) (fun u a1 a2 _ a4 => ?_) (fun w => absurd ((c 6 s 0 7 (by decide)).symm.trans (w s hsg rfl)) l)
          · have : s = u := (nI_eq (by omega) (by omega)).mp a2
            subst this
            rw [c 6 _ _ _ (by decide)] at a4
            rw [c 10 _ _ _ (by decide)] at a5
            have : q' = q := h.u s q' q hsg a4 hq (by rw [a5, e])
            subst this
            have hL := ack_LX (K := tn (I (6, s, 0) 9)) hX hsg rfl hq hk' e zx ek uk
            rw [c 6 _ _ _ (by decide)]
            refine jV_i (fun y => y = 1) (fun x4 h4 => ?_) (fun K h1 => ⟨fun w => absurd w (by decide), fun _ => h1 _ rfl⟩)
            subst h4
            exact ⟨fun w => absurd rfl w, fun _ => ack_min hL hsg (by rw [up_nj (by decide), c 6 _ _ _ (by decide)]; exact l) ⟨fun w => absurd rfl w, fun _ => hQ _ _ _ (hL.mono (Nat.le_succ N))⟩⟩
          · have : s = u := (nI_eq (by omega) (by omega)).mp a2
            subst this
            exact absurd ((c 10 _ _ _ (by decide)).trans e) (a4 q (by rw [c 6 _ _ _ (by decide)]; exact hq))
        · rw [forall_eq, sI_S, nI_clamp (show 5 * s + k' < 2 ^ 31 by omega)]
          exact h1 _ rfl
      · refine jV_i (fun y => y = 0) (fun x3 h3 => ?_) (fun K h1 => ⟨fun _ => h1 _ rfl, fun w => absurd (by decide) w⟩)
        subst h3
        refine jS_i (fun σ => σ = S p I J) (fun σ hσ => ?_) (fun K h1 => ⟨fun _ => h1 _ rfl, fun w => absurd rfl w⟩)
        subst hσ
        refine w_ack hW (fun u q' a1 a2 _ a4 a5 => ?_) (fun u a1 a2 _ a4 => ?_) (fun w => absurd (w s hsg rfl) l)
        · have : s = u := (nI_eq (by omega) (by omega)).mp a2
          subst this
          exact absurd a5 (hno q' a4)
        · refine jV_i (fun y => y = 0) (fun x4 h4 => ?_) (fun K h1 => ⟨fun _ => h1 _ rfl, fun w => absurd rfl w⟩)
          subst h4
          exact ⟨fun w => absurd rfl w, fun _ => ack_min hX hsg l ⟨fun w => absurd rfl w, fun _ => same⟩⟩
    · have : s = u := (nI_eq (show s < 2 ^ 31 by omega) (by omega)).mp e
      subst this
      rw [← (hs s hu).1]; exact z
  -- request
  · obtain ⟨q1, -, q3⟩ := bn_tn hW.1.2.2.2.2.2.2.1 (by decide)
    generalize tn (I (0, 0, 0) 7) = q0 at q1 q3
    refine ⟨rfl, vinL (i := 3) 4 rfl (by decide) (by decide), ?_⟩
    rw [hI_S, show Int32.toNatClampNeg 3 = 3 from rfl, hn.2.2.2, q1, forall_eq, nI_1, sI_S]
    refine ⟨fun w => ?_, fun w => w_request q1 q3 (fun z => ?_) (fun _ => ⟨fun w => absurd rfl w, fun _ => same⟩)⟩
    · have q9 : q0 < 10 := by
        rcases Nat.lt_or_ge q0 10 with z | z
        · exact z
        · exact absurd (show nI q0 = 10 by rw [show q0 = 10 by omega]; rfl) w
      refine w_request (q0 := q0) (by rw [up_ne (by simp)]; exact q1) q3 (fun _ => ?_) (fun z => by omega)
      refine ⟨vinL (i := 3) 4 rfl (by decide) (by decide), fun z => absurd ?_ z, fun _ => hQ _ _ _ ((request_LX hX q9).mono (Nat.le_succ N))⟩
      rw [hI_S, up_ne (by simp), up_same]
    · have := (nI_eq (b := 10) (by omega) (by decide)).mp w
      omega
  -- write
  · refine c_low (n := 3) (by decide) (by decide) (fun k hk => ?_)
    refine jW_i (fun y σ => ∃ v, v ≤ 1000 ∧ y = nI v ∧ σ = S p I J) (fun x5 σ hx => ?_) (fun K h1 => ⟨fun _ => c_low (n := 9) (by decide) (by decide) (fun v hv => h1 _ _ ⟨v, by omega, rfl, rfl⟩), fun _ => c_low (n := 1001) (by decide) (by decide) (fun v hv => h1 _ _ ⟨v, by omega, rfl, rfl⟩)⟩)
    obtain ⟨v, v1, rfl, rfl⟩ := hx
    refine ⟨rfl, vinL 3 rfl (by omega) (by decide), ?_⟩
    rw [forall_eq, sI_S, hI_S, nI_clamp (show k < 2 ^ 31 by omega), hv k hk]
    have cI : CA I (up I (23, 0, 0) k (nI v)) := CA_hr CA.rf (by decide) _ _
    have hW1 := hW.ca cI
    have hG1 := hG.ca cI
    have hC1 : hC (up I (23, 0, 0) k (nI v)) < 512 := by rw [hC_cg (fun j => cI _ _ (show 4 < 20 by decide))]; omega
    have hn1 : up I (23, 0, 0) k (nI v) (0, 0, 0) 8 = nI t := by rw [up_ne (by simp)]; exact hnow
    have bk : bn (nI k) 0 9 := bn_nI (by omega) (by omega)
    refine w_write hW1 hG1 hC1 hn1 (fun a b a1 a2 a3 a4 => ?_) (fun _ => ⟨fun w => absurd rfl w, fun _ => ?_⟩) (fun a1 => absurd a1 ?_)
    · have := (nI_eq (a := 10) (by decide) (by omega)).mp a3; omega
    · refine w_write hW1 hG1 hC1 hn1 (fun a b a1 a2 a3 a4 => absurd a3 (nI_ng (by omega) (by decide))) (fun _ => ⟨fun w => absurd rfl w, fun _ => ?_⟩) (fun a1 => absurd a1 (bn_neg (by decide)))
      refine w_write hW1 hG1 hC1 hn1 (fun a b a1 a2 a3 a4 => ?_) (fun w => absurd bk w) (fun _ _ => ⟨fun w => absurd rfl w, fun _ => ?_⟩)
      · have := (nI_eq (a := 1001) (by decide) (by omega)).mp a4; omega
      refine w_write hW1 hG1 hC1 hn1 (fun a b a1 a2 a3 a4 => absurd a4 (nI_ng (by omega) (by decide))) (fun w => absurd bk w) (fun _ _ => ⟨fun w => absurd rfl w, fun _ => ?_⟩)
      refine w_write hW1 hG1 hC1 hn1 (fun a b a1 a2 a3 a4 => ?_) (fun w => absurd bk w) (fun _ w => absurd (bn_nI (by omega) v1) w)
      have : k = a := (nI_eq (by omega) (by omega)).mp a3
      subst this
      have : v = b := (nI_eq (by omega) (by omega)).mp a4
      subst this
      exact ⟨fun w => absurd (by rw [up_ne (by simp)]) w, fun _ => hQ _ _ _ (write_LX hX hk v1 (by omega) hnow t5)⟩
    · rw [show (10 : Int32) = nI 10 from rfl, bn_iff (by decide) (by decide)]; omega
end
