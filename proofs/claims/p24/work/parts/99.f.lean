section
variable {N : Nat} {p : PP} {I : IF} {J : JF}
set_option maxHeartbeats 4000000 in
theorem x_opens {p2 p3 p4 : Int32} {Q : Int32 → PH → Prop} (hX : LX N p I) (hQ : ∀ p' I' J', LX N p' I' → Q 1 (S p' I' J')) : wL_opens (0, 0, 0) p2 p3 p4 (23, 0, 0) (23, 1, 0) (23, 2, 0) (23, 3, 0) (23, 4, 0) (23, 5, 0) (23, 6, 0) (23, 7, 0) (23, 8, 0) (23, 11, 0) (S p I J) Q := by
  obtain ⟨t, h⟩ := hX.v
  have h' := h
  obtain ⟨hW, g2, g10, t5, hnow, hn, hv, hs, hi, hOQ, hG, hTH, hCm, hSN⟩ := h'
  have same : Q 1 (S p I J) := hQ p I J hX
  have h4 := hW.1.2.1
  have e01 : ∀ {x y : Int32}, x = y → ∀ {A B : Prop}, B → (¬ x = y → A) ∧ (x = y → B) := fun e _ _ b => ⟨fun w => absurd e w, fun _ => b⟩
  obtain ⟨s, s2, es⟩ := sub_of p3
  have x0 : ∀ u, 11 * nI u = nI (11 * u) := fun u => nI_mul 11 u
  unfold wL_opens
  rw [es, x0, hI_S, show Int32.toNatClampNeg 1 = 1 from rfl, show Int32.toNatClampNeg 2 = 2 from rfl, hn.2.1, hn.2.2.1, nI_clamp (show 11 * s < 2 ^ 31 by omega)]
  refine ⟨rfl, vinL (i := 1) 4 rfl (by decide) (by decide), ?_⟩
  refine jV_i (fun y => (y = 1 ∧ s < gS p ∧ I (6, s, 0) 7 ≠ 0) ∨ (y = 0 ∧ ∀ u, u < gS p → nI s = nI u → I (6, u, 0) 7 = 0)) (fun x1 h1 => ?_) (fun K1 h1 => ⟨fun w => h1 _ (Or.inr ⟨rfl, fun u hu e => ?_⟩), fun w => ⟨rfl, vinL 22 rfl (by omega) (by decide), fun z => h1 _ (Or.inr ⟨rfl, fun u hu e => ?_⟩), fun z => h1 _ (Or.inl ⟨rfl, ?_, ?_⟩)⟩⟩)
  rotate_left
  · have := (nI_eq (show s < 2 ^ 31 by omega) (by omega)).mp e
    rw [nI_leI (by omega) (by omega)] at w; omega
  · have := (nI_eq (show s < 2 ^ 31 by omega) (by omega)).mp e
    subst this
    rw [(hs s hu).1] at z
    exact (hW.2.2 s hu).1.resolve_right z
  · rw [nI_leI (by omega) (by omega)] at w; omega
  · have hsg : s < gS p := by rw [nI_leI (by omega) (by omega)] at w; omega
    rw [(hs s hsg).1] at z
    rw [z]; decide
  refine ⟨fun _ => ⟨fun _ => ⟨fun _ => ?_, fun _ => ?_⟩, fun _ => ?_⟩, fun _ => ?_⟩
  -- set and link
  · refine ⟨vinL (i := 2) 4 rfl (by decide) (by decide), ?_⟩
    rw [show nI (gT p) + 1 = nI (gT p + 1) from nI_add _ 1]
    refine c_low (by omega) (by omega) (fun i hi1 => ?_)
    have i31 : i < 2 ^ 31 := by omega
    refine jV_i (fun y => zb y) (fun x2 hz => ?_) (fun K h1 => ⟨fun _ => h1 _ zb0, fun _ => h1 _ zb1⟩)
    refine ⟨fun _ => ⟨vinL (i := 2) 4 rfl (by decide) (by decide), ?_⟩, fun _ => ?_⟩
    -- link
    · rw [hI_S, hn.2.2.1, show nI (gT p) + 1 = nI (gT p + 1) from nI_add _ 1]
      refine c_low (by omega) (by omega) (fun j hj1 => ?_)
      have j31 : j < 2 ^ 31 := by omega
      have two : ((∀ u, u < gT p → nI i = nI u → I (6, gW p u, 0) 7 = 0) ∨ (∀ u, u < gT p → nI j = nI u → I (6, gW p u, 0) 7 = 0)) → wL_link (0, 0, 0) (nI i) (nI j) x2 (S p I J) (fun r4 σ4 => ((¬ r4 = (-7100) → Q 0 σ4) ∧ (r4 = (-7100) → wL_link (0, 0, 0) (nI j) (nI i) x2 σ4 (fun r5 σ5 => ((¬ r5 = (-7100) → Q 0 σ5) ∧ (r5 = (-7100) → Q 1 σ5)))))) := fun w => link_ix hW hz w (e01 rfl (link_ix hW hz w.symm (e01 rfl same)))
      refine x_there h (fun i' a1 a2 li => ?_) (fun hno => ⟨fun _ => two (Or.inl hno), fun w => absurd rfl w⟩)
      have : i = i' := (nI_eq i31 (by omega)).mp a2
      subst this
      refine ⟨fun w => absurd w (by decide), fun _ => x_there h (fun j' b1 b2 lj => ?_) (fun hno => ⟨fun w => absurd rfl w, fun _ => two (Or.inr hno)⟩)⟩
      have : j = j' := (nI_eq j31 (by omega)).mp b2
      subst this
      refine ⟨fun _ => ⟨fun w => ?_, fun w => ?_⟩, fun w => absurd w (by decide)⟩
      · have : i = j := (nI_eq i31 j31).mp w
        exact link_rg hW hz a1 b1 li lj (Or.inl this) (e01 rfl same)
      · have hij : i ≠ j := fun z => w (by rw [z])
        obtain ⟨⟨n, n1, n2, n3, -⟩, -, -, n7⟩ := hi i a1
        obtain ⟨⟨m, m1, m2, m3, -⟩, -⟩ := hi j b1
        have gi := hW.1.2.2.2.2.2.1 i a1
        have gj := hW.1.2.2.2.2.2.1 j b1
        rw [hI_S, nI_clamp i31, nI_clamp j31, n1, m1, fld_sub, fld_sub, n3, m3]
        refine ⟨rfl, vinL 10 rfl (by omega) (by decide), vinL 10 rfl (by omega) (by decide), fun w2 => ⟨rfl, vinL 10 rfl (by omega) (by decide), ?_⟩, fun w2 => link_rg hW hz a1 b1 li lj (Or.inr (fun z => w2 (by rw [z]))) (e01 rfl same)⟩
        have ho : gW p i = gW p j := (nI_eq (by omega) (by omega)).mp w2
        rw [n7]
        refine jV_i (fun y => (y = 1 ∧ bq (I (14, i, 0) 7) j = true) ∨ (y = 0 ∧ bq (I (14, i, 0) 7) j = false)) (fun x3 h3 => ?_) (fun K h1 => ⟨fun z => h1 _ (Or.inr ⟨rfl, ?_⟩), fun z => h1 _ (Or.inl ⟨rfl, (bq_tst _ (by omega)).mp z⟩)⟩)
        rotate_left
        · rw [bq_tst _ (by omega)] at z
          simpa using z
        refine jV_i (fun y => y = (if x2 = 0 then I (14, i, 0) 7 &&& ((1 <<< (nI j &&& 31)) ^^^ (-1)) else I (14, i, 0) 7 ||| (1 <<< (nI j &&& 31)))) (fun x4 hx4 => ?_) (fun K h1 => ⟨fun z => h1 _ (by rw [if_pos z]), fun z => h1 _ (by rw [if_neg z])⟩)
        rw [forall_eq, sI_S]
        have cI : CA I (up I (23, 7, 0) i x4) := CA_hr CA.rf (by decide) _ _
        have c : ∀ r a b k, r < 20 → up I (23, 7, 0) i x4 (r, a, b) k = I (r, a, b) k := fun r a b k hr => cI _ _ hr
        refine w_link (hW.ca cI) hz (fun i' j' I1 v T' c1 c2 c3 c4 c5 c6 c7 c8 c9 c10 c11 => ?_) (fun i' j' c1 c2 c3 c4 c5 c6 c7 => ?_) (fun z => z.elim (fun z => absurd ((c 6 _ _ _ (by decide)).symm.trans (z i a1 rfl)) li) (fun z => absurd ((c 6 _ _ _ (by decide)).symm.trans (z j b1 rfl)) lj))
        · have : i = i' := (nI_eq i31 (by omega)).mp c3
          subst this
          have : j = j' := (nI_eq j31 (by omega)).mp c4
          subst this
          rw [c 14 _ _ _ (by decide)] at c11
          obtain ⟨v1, v2, v3, v4⟩ := lk_val (by omega) c11
          have e4 : x4 = T' := by rw [hx4, v1]
          subst e4
          have hL := link_LX hX a1 b1 ho v2 c9 c10
          have d10 : ¬ ((1 : Int32) = 0) := by decide
          rcases h3 with ⟨rfl, b⟩ | ⟨rfl, b⟩
          · refine ⟨fun z => e01 (v3 (Or.inl ⟨b, z.symm⟩)) (hQ _ _ _ hL), fun z => e01 (v4 (Or.inl ⟨b, ?_⟩)) (hQ _ _ _ hL)⟩
            exact (zb_cases hz).resolve_right (fun y => z y.symm)
          · refine ⟨fun z => e01 (v3 (Or.inr ⟨b, z.symm⟩)) (hQ _ _ _ hL), fun z => e01 (v4 (Or.inr ⟨b, ?_⟩)) (hQ _ _ _ hL)⟩
            exact (zb_cases hz).resolve_left (fun y => z y.symm)
        · have : i = i' := (nI_eq i31 (by omega)).mp c3
          subst this
          have : j = j' := (nI_eq j31 (by omega)).mp c4
          subst this
          exact c7.elim (fun z => absurd z hij) (fun z => absurd ho z)
    -- setReporting
    · refine x_there h (fun i' a1 a2 li => ?_) (fun hno => ⟨fun w => absurd rfl w, fun _ => rep_ix hW hz hno (e01 rfl (rep_ix hW hz (fun u hu e => absurd e (nI_ng (by omega) (by decide))) (e01 rfl same)))⟩)
      have : i = i' := (nI_eq i31 (by omega)).mp a2
      subst this
      obtain ⟨⟨n, n1, n2, n3, n4⟩, -, -, n7⟩ := hi i a1
      have zr := (hW.2.1 i a1).2.2.2.2.1
      obtain ⟨y1, y2⟩ := tn_zb hz
      obtain ⟨r1, r2⟩ := tn_zb zr
      refine ⟨fun _ => ⟨rfl, vinL 10 rfl (by omega) (by decide), ?_⟩, fun w => absurd w (by decide)⟩
      rw [hI_S, nI_clamp i31, n1, fld_rep n2, n4, ← r2]
      refine jV_i (fun y => y = I (14, i, 0) 6) (fun x5 h5 => ?_) (fun K h1 => ⟨fun z => h1 _ ((zb_cases zr).resolve_right z).symm, fun z => h1 _ z.symm⟩)
      subst h5
      refine jV_i (fun y => y = nI (16384 * tn x2)) (fun x6 h6 => ?_) (fun K h1 => ⟨fun z => h1 _ (by rw [z]; rfl), fun z => h1 _ (by rw [(zb_cases hz).resolve_left z]; rfl)⟩)
      subst h6
      have eT : (nI n &&& (-16385)) ||| nI (16384 * tn x2) = nI (n % 16384 + 16384 * tn x2 + 32768 * (n / 32768)) := by
        have g := rep_set (A := n % 16384) (B := n / 32768) (r := n / 16384 % 2) (y := tn x2) (by omega) (by omega) y1
        rw [show n % 16384 + 16384 * (n / 16384 % 2) + 32768 * (n / 32768) = n by omega] at g
        exact g
      rw [forall_eq, sI_S, eT]
      have cI : CA I (up I (23, 2, 0) i (nI (n % 16384 + 16384 * tn x2 + 32768 * (n / 32768)))) := CA_hr CA.rf (by decide) _ _
      refine w_setReporting (hW.ca cI) hz (fun i' c1 c2 c3 => ?_) (fun z => absurd ((cI _ _ (show 6 < 20 by decide)).symm.trans (z i a1 rfl)) li)
      have : i = i' := (nI_eq i31 (by omega)).mp c2
      subst this
      have hL : LX N p (up (up I (23, 2, 0) i (nI (n % 16384 + 16384 * tn x2 + 32768 * (n / 32768)))) (14, i, 0) 6 x2) := rep_LX hX a1 hz (fun n' e1 e2 _ => by
        have : n = n' := (nI_eq n2 e2).mp (n1.symm.trans e1)
        subst this; rfl)
      rw [show up I (23, 2, 0) i (nI (n % 16384 + 16384 * tn x2 + 32768 * (n / 32768))) (14, i, 0) 6 = I (14, i, 0) 6 from cI _ _ (by simp)]
      refine ⟨fun z => e01 (if_pos z) (hQ _ _ _ hL), fun z => e01 (if_neg z) (hQ _ _ _ hL)⟩
  -- add
  · refine c_low (n := 3) (by decide) (by decide) (fun nd hnd => ?_)
    refine jV_i (fun y => ∃ m, y = nI m ∧ 0 < m ∧ m ≤ 20) (fun y hy => ?_) (fun K h1 => ⟨fun _ => h1 _ ⟨3, rfl, by decide, by decide⟩, fun _ => h1 _ ⟨20, rfl, by decide, by decide⟩⟩)
    obtain ⟨m, rfl, m0, m20⟩ := hy
    refine c_low m0 (by omega) (fun a ha => c_low (n := 4) (by decide) (by decide) (fun b hb => ?_))
    refine jV_i (fun y => zb y) (fun x8 hz => ?_) (fun K h1 => ⟨fun _ => h1 _ zb0, fun _ => h1 _ zb1⟩)
    refine jW_i (fun y σ => ∃ v, v ≤ 1000 ∧ y = nI v ∧ σ = S p I J) (fun x9 σ hx => ?_) (fun K h1 => ⟨fun _ => c_low (n := 4) (by decide) (by decide) (fun v hv => h1 _ _ ⟨v, by omega, rfl, rfl⟩), fun _ => c_low (n := 1001) (by decide) (by decide) (fun v hv => h1 _ _ ⟨v, by omega, rfl, rfl⟩)⟩)
    obtain ⟨v, v1, rfl, rfl⟩ := hx
    rw [show 1 + nI a = nI (1 + a) from nI_add 1 a, show 1 + nI b = nI (1 + b) from nI_add 1 b]
    have k2 : ∀ {x lo hi : Nat}, x < 2 ^ 31 → hi < 2 ^ 31 → ¬ (lo ≤ x ∧ x ≤ hi) → ¬ bn (nI x) lo hi := fun h h' g => by rw [bn_iff h h']; exact g
    have nz : ∀ {k}, k < 12 → hK (S p I J) (23, k, 0) ≠ 0 := fun h => nzL h
    have z10 : hK (S p I J) (0, 0, 0) ≠ 0 ∧ hK (S p I J) (23, 0, 0) ≠ 0 ∧ hK (S p I J) (23, 2, 0) ≠ 0 ∧ hK (S p I J) (23, 3, 0) ≠ 0 ∧ hK (S p I J) (23, 4, 0) ≠ 0 ∧ hK (S p I J) (23, 5, 0) ≠ 0 ∧ hK (S p I J) (23, 6, 0) ≠ 0 ∧ hK (S p I J) (23, 7, 0) ≠ 0 ∧ hK (S p I J) (23, 8, 0) ≠ 0 ∧ hK (S p I J) (23, 11, 0) ≠ 0 := ⟨nz0, nz (by decide), nz (by decide), nz (by decide), nz (by decide), nz (by decide), nz (by decide), nz (by decide), nz (by decide), nz (by decide)⟩
    obtain ⟨z1, z2, z3, z4, z5, z6, z7, z8, z9, z0⟩ := z10
    refine ⟨z1, z2, z3, z4, z5, z6, z7, z8, z9, z0, add_ix hW hz (fun w => ?_) (e01 rfl ?_)⟩
    · obtain ⟨u, u1, u2, -⟩ := w.1
      have := (nI_eq (a := 4) (by decide) (by omega)).mp u2
      omega
    rcases h1 with ⟨rfl, hsg, l⟩ | ⟨rfl, hno⟩
    rotate_left
    · exact ⟨fun _ => add_ix hW hz (fun w => by obtain ⟨u, u1, u2, u3⟩ := w.1; exact u3 (hno u u1 u2)) (e01 rfl same), fun w => absurd rfl w⟩
    have ok : (∃ u, u < gS p ∧ nI s = nI u ∧ I (6, u, 0) 7 ≠ 0) ∧ bn (nI nd) 0 9 := ⟨⟨s, hsg, rfl, l⟩, bn_nI (by omega) (by omega)⟩
    refine ⟨fun w => absurd w (by decide), fun _ => ⟨z1, z2, z3, z4, z5, z6, z7, z8, z9, z0, add_ix hW hz (fun w => k2 (x := 10) (by decide) (by decide) (by decide) w.2) (e01 rfl ?_)⟩⟩
    refine ⟨z1, z2, z3, z4, z5, z6, z7, z8, z9, z0, add_rg hW hz ok (fun w => k2 (x := 21) (by decide) (by decide) (by decide) w.1) (e01 rfl ?_)⟩
    refine ⟨z1, z2, z3, z4, z5, z6, z7, z8, z9, z0, add_rg hW hz ok (fun w => k2 (x := 5) (by decide) (by decide) (by decide) w.2.1) (e01 rfl ?_)⟩
    refine ⟨z1, z2, z3, z4, z5, z6, z7, z8, z9, z0, add_rg hW hz ok (fun w => k2 (x := 0) (by decide) (by decide) (by decide) w.2.1) (e01 rfl ?_)⟩
    refine ⟨z1, z2, z3, z4, z5, z6, z7, z8, z9, z0, add_rg hW hz ok (fun w => k2 (x := 1001) (by decide) (by decide) (by decide) w.2.2) (e01 rfl ?_)⟩
    refine ⟨z1, z2, z3, z4, z5, z6, z7, z8, z9, z0, add_rg hW hz ok (fun w => bn_neg (by decide) w.2.2) ⟨fun _ => ⟨rfl, vinL (i := 2) 4 rfl (by decide) (by decide), ?_⟩, fun w => absurd rfl w⟩⟩
    rw [hI_S, hn.2.2.1]
    refine ⟨fun w => ?_, fun w => ?_⟩
    rotate_left
    · have : gT p = 10 := (nI_eq (b := 10) (by omega) (by decide)).mp w
      refine w_queued hW (fun i a1 a2 _ => ?_) (fun _ => e01 rfl same)
      have := (nI_eq (a := 10) (by decide) (by omega)).mp a2; omega
    have w10 : gT p < 10 := by
      rcases Nat.lt_or_ge (gT p) 10 with z | z
      · exact z
      · exact absurd (show nI (gT p) = 10 by rw [show gT p = 10 by omega]; rfl) w
    obtain ⟨y1, y2⟩ := tn_zb hz
    have vt : ∀ k, 2 ≤ k → k ≤ 7 → vp_in (nI (gT p)) (hL (S p I J) (23, k, 0)) := fun k k1 k2 => vinL 10 (by
      show (if (0 : Nat) = 0 then lwL k else 0) = 10
      unfold lwL
      rw [if_pos rfl, if_neg (by omega), if_neg (by omega), if_neg (by omega), if_neg (by omega), if_neg (by omega), if_pos (by omega)]) w10 (by decide)
    refine jV_i (fun y => y = nI (8192 * tn x8)) (fun x10 h10 => ?_) (fun K h1 => ⟨fun z => h1 _ (by rw [z]; rfl), fun z => h1 _ (by rw [(zb_cases hz).resolve_left z]; rfl)⟩)
    subst h10
    have ep : nI s + 2 * nI nd + 32 * nI (1 + a) + 1024 * nI (1 + b) + nI (8192 * tn x8) + 16384 + 32768 * nI v = nI (s + 2 * nd + 32 * (1 + a) + 1024 * (1 + b) + 8192 * tn x8 + 16384 + 32768 * v) := by
      rw [show 2 * nI nd = nI (2 * nd) from nI_mul 2 _, show 32 * nI (1 + a) = nI (32 * (1 + a)) from nI_mul 32 _, show 1024 * nI (1 + b) = nI (1024 * (1 + b)) from nI_mul 1024 _, show 32768 * nI v = nI (32768 * v) from nI_mul 32768 _, nI_add, nI_add, nI_add, nI_add, show ∀ k, nI k + 16384 = nI (k + 16384) from fun k => nI_add k 16384, nI_add]
    rw [ep, nI_clamp (show gT p < 2 ^ 31 by omega)]
    refine ⟨rfl, vt 2 (by decide) (by decide), ?_⟩
    rw [forall_eq, sI_S]
    refine ⟨vinL (i := 0) 4 rfl (by decide) (by decide), rfl, ?_⟩
    rw [hI_S, show Int32.toNatClampNeg 0 = 0 from rfl, up_ne (by simp), up_ne (by simp), hn.2.2.1, nI_clamp (show gT p < 2 ^ 31 by omega)]
    refine ⟨vt 3 (by decide) (by decide), ?_⟩
    rw [forall_eq, sI_S, hI_S, up_ne (by simp), up_ne (by simp), hn.2.2.1, nI_clamp (show gT p < 2 ^ 31 by omega)]
    refine ⟨rfl, vt 5 (by decide) (by decide), ?_⟩
    rw [forall_eq, sI_S, hI_S, up_ne (by simp), up_ne (by simp), up_ne (by simp), hn.2.2.1, nI_clamp (show gT p < 2 ^ 31 by omega)]
    refine ⟨rfl, vt 6 (by decide) (by decide), ?_⟩
    rw [forall_eq, sI_S, hI_S, up_ne (by simp), up_ne (by simp), up_ne (by simp), up_ne (by simp), hn.2.2.1, nI_clamp (show gT p < 2 ^ 31 by omega)]
    refine ⟨rfl, vt 7 (by decide) (by decide), ?_⟩
    rw [forall_eq, sI_S, hI_S, up_ne (by simp), up_ne (by simp), up_ne (by simp), up_ne (by simp), up_ne (by simp), hn.2.2.1]
    generalize hP : s + 2 * nd + 32 * (1 + a) + 1024 * (1 + b) + 8192 * tn x8 + 16384 + 32768 * v = P
    generalize hI5 : up (up (up (up (up I (23, 2, 0) (gT p) (nI P)) (23, 3, 0) (gT p) (I (23, 11, 0) 0)) (23, 5, 0) (gT p) 0) (23, 6, 0) (gT p) 0) (23, 7, 0) (gT p) 0 = I5
    have q1 : ∀ k j, j ≠ gT p ∨ k < 2 ∨ k = 4 ∨ 7 < k → I5 (23, k, 0) j = I (23, k, 0) j := fun k j g => by
      have n : ∀ m, (m = 2 ∨ m = 3 ∨ m = 5 ∨ m = 6 ∨ m = 7) → ¬ (((23, k, 0) : Nm) = (23, m, 0) ∧ j = gT p) := fun m hm q => by
        have := q.1
        simp only [Prod.mk.injEq] at this
        have := q.2
        omega
      rw [← hI5, up_ne (n 7 (by decide)), up_ne (n 6 (by decide)), up_ne (n 5 (by decide)), up_ne (n 3 (by decide)), up_ne (n 2 (by decide))]
    have q2 : ∀ n j, n.1 ≠ 23 → I5 n j = I n j := fun n j g => by
      have w : ∀ m, ¬ (n = (23, m, 0) ∧ j = gT p) := fun m q => g (by rw [q.1])
      rw [← hI5, up_ne (w 7), up_ne (w 6), up_ne (w 5), up_ne (w 3), up_ne (w 2)]
    have v2 : I5 (23, 2, 0) (gT p) = nI P := by rw [← hI5]; simp [up]
    have v3 : I5 (23, 3, 0) (gT p) = I (23, 11, 0) 0 := by rw [← hI5]; simp [up]
    have v5 : I5 (23, 5, 0) (gT p) = nI 0 := by rw [← hI5]; simp [up]; rfl
    have v6 : I5 (23, 6, 0) (gT p) = nI 0 := by rw [← hI5]; simp [up]; rfl
    have v7 : I5 (23, 7, 0) (gT p) = 0 := by rw [← hI5]; simp [up]
    have hnv := bn_tn (hW.1.2.2.2.2.1 nd (by omega)) (by decide)
    have P1 : P / 2 % 16 = nd := by omega
    have P2 : P / 1024 % 8 = 1 + b := by omega
    have P3 : P / 8192 % 2 = tn x8 := by omega
    have P4 : P / 32768 = v := by omega
    have x0nd : I (23, 0, 0) nd = nI (tn (I (1, 0, 0) nd)) := (hv nd hnd).trans hnv.1
    refine x_sample (i := gT p) (N := P) (cq := 0) (x := tn (I (1, 0, 0) nd)) (ls := 0) (c := 0) (v := fun _ => 0) (m := fun _ => 0) w10 (by omega) (by omega) (by omega) hnv.2.2 (by omega) (by omega) (by omega) (by decide) (fun _ => zb0) v2 (by rw [P1, q1 0 _ (by omega)]; exact x0nd) (fun z => absurd z (by decide)) v5 v6 (fun k hk => absurd hk (Nat.not_lt_zero _)) (fun z => absurd z (by decide)) (fun _ I6 f1 f2 f3 f4 f5 f6 f7 => ?_)
    rw [P2] at f6 f7
    rw [P3, ← y2] at f7
    have r1 : ∀ n j, n.1 ≠ 23 → I6 n j = I n j := fun n j g => by
      rw [f1 n j (fun q => g (by rw [q])) (fun q => g (by rw [q])) (fun q => g (by rw [q])) (fun q => g (by rw [q]))]; exact q2 n j g
    have r2 : ∀ k j, k < 2 ∨ 8 < k → I6 (23, k, 0) j = I (23, k, 0) j := fun k j g => by
      rw [f1 _ j (n23 (by omega)) (n23 (by omega)) (n23 (by omega)) (n23 (by omega))]; exact q1 k j (by omega)
    have r3 : ∀ k, k = 2 ∨ k = 3 ∨ k = 7 → I6 (23, k, 0) (gT p) = I5 (23, k, 0) (gT p) := fun k g => f1 _ _ (n23 (by omega)) (n23 (by omega)) (n23 (by omega)) (n23 (by omega))
    rw [hI_S, r2 11 2 (by omega), hn.2.2.1, nI_1]
    refine ⟨vinL (i := 2) 4 rfl (by decide) (by decide), ?_⟩
    rw [forall_eq, sI_S]
    have cI : CA I (up I6 (23, 11, 0) 2 (nI (gT p + 1))) := CA_hr (fun n j hn => r1 n j (by omega)) (by decide) _ _
    have c : ∀ r k z j, r < 20 → up I6 (23, 11, 0) 2 (nI (gT p + 1)) (r, k, z) j = I (r, k, z) j := fun r k z j hr => cI _ _ hr
    refine w_add (hW.ca cI) hz (fun z => absurd ⟨⟨s, hsg, rfl, by rw [c 6 _ _ _ (by decide)]; exact l⟩, ok.2⟩ z) (fun _ z => absurd ⟨bn_nI (by omega) (by omega), bn_nI (by omega) (by omega), bn_nI (by omega) (by omega)⟩ z) (fun _ _ z => by omega) (fun _ _ _ s' nd' sz' c1 c2 _ c4 c5 c6 c7 c8 I2 J2 fI => ?_)
    have : s = s' := (nI_eq (by omega) (by omega)).mp c2
    subst this
    have : nd = nd' := (nI_eq (by omega) (by omega)).mp c5
    subst this
    have : 1 + b = sz' := (nI_eq (by omega) (by omega)).mp c8
    subst this
    have u1 : ∀ k j, k ≠ 11 → up I6 (23, 11, 0) 2 (nI (gT p + 1)) (23, k, 0) j = I6 (23, k, 0) j := fun k j g => up_ne (fun q => n23 g q.1)
    have hL := add_LX (I4 := up I6 (23, 11, 0) 2 (nI (gT p + 1))) (x := tn (I (1, 0, 0) nd)) hX hz hsg hnd rfl c6 c7 rfl (bn_nI (by omega) (by omega)) (bn_nI (by omega) v1) w10 x0nd hnv.2.2 (fun n j g => by rw [up_ne (fun q => g (by rw [q.1]))]; exact r1 n j g) (fun k j g => by rw [u1 k j (by omega)]; exact r2 k j (by omega)) (fun k j g1 g2 g3 => by rw [u1 k j (by omega), f2 k j (by omega) g3]; exact q1 k j (Or.inl g3)) (fun j g => by rw [u1 8 j (by decide), f3 j g]; exact q1 8 j (by omega)) ⟨by rw [up_nj (by decide)]; exact r2 11 _ (by omega), by rw [up_nj (by decide)]; exact r2 11 _ (by omega), up_same _ _ _ _, by rw [up_nj (by decide)]; exact r2 11 _ (by omega)⟩ (by rw [u1 2 _ (by decide), r3 2 (by omega), v2, tn_nI (by omega), tn_nI (by omega), ← hP]) (by rw [u1 3 _ (by decide), r3 3 (by omega), v3]) (by rw [u1 7 _ (by decide), r3 7 (by omega), v7]) (by rw [u1 4 _ (by decide)]; exact f4) (by rw [u1 5 _ (by decide)]; exact f5) (by rw [u1 6 _ (by decide)]; exact f6) (fun k hk => by rw [u1 8 _ (by decide)]; exact f7 k hk) fI
    refine ⟨vinL (i := 2) 4 rfl (by decide) (by decide), e01 ?_ (hQ _ _ _ hL)⟩
    rw [hI_S, adC_o (Or.inr (Or.inl (by decide))), fI.2.2.2.2.2 _ _ (by simp) (by simp) (by simp) (by simp) (by simp) (by simp) (by simp), up_same, nI_sub1 (by omega)]; rfl
  -- close
  · rcases h1 with ⟨rfl, hsg, l⟩ | ⟨rfl, hno⟩
    · refine ⟨fun w => absurd w (by decide), fun _ => ⟨fun _ => ⟨gT p + 1, ?_⟩, fun _ => close_ix hW (fun u hu e => ?_) (e01 rfl same)⟩⟩
      · refine x_cntL h es s2 (fun y => ⟨rfl, vinL 22 rfl (by omega) (by decide), ?_⟩) (gT p) 0 (by omega)
        rw [forall_eq, sI_S]
        have cI : CA I (up I (23, 1, 0) (11 * s) 0) := CA_hr CA.rf (by decide) _ _
        refine w_close (hW.ca cI) (fun u a1 a2 a3 => ?_) (fun w => absurd ((cI _ _ (show 6 < 20 by decide)).symm.trans (w s hsg rfl)) l)
        have : s = u := (nI_eq (by omega) (by omega)).mp a2
        subst this
        exact e01 rfl (hQ _ _ _ (close_LX hX hsg))
      · have := (nI_eq (a := 3) (by decide) (by omega)).mp e
        omega
    · exact ⟨fun _ => close_ix hW hno (e01 rfl (close_ix hW (fun u hu e => absurd e (nI_ng (by omega) (by decide))) (e01 rfl same))), fun w => absurd rfl w⟩
  -- open
  · refine jV_i (fun y => ∃ m, y = nI m ∧ 0 < m ∧ m ≤ 20) (fun y hy => ?_) (fun K h1 => ⟨fun _ => h1 _ ⟨4, rfl, by decide, by decide⟩, fun _ => h1 _ ⟨20, rfl, by decide, by decide⟩⟩)
    obtain ⟨m, rfl, m0, m20⟩ := hy
    refine c_low m0 (by omega) (fun a ha => c_low (n := 10) (by decide) (by decide) (fun b hb => ?_))
    refine jV_i (fun y => ∃ m, y = nI m ∧ 0 < m ∧ m ≤ 30) (fun y hy => ?_) (fun K h1 => ⟨fun _ => h1 _ ⟨8, rfl, by decide, by decide⟩, fun _ => h1 _ ⟨30, rfl, by decide, by decide⟩⟩)
    obtain ⟨m', rfl, m0', m30⟩ := hy
    refine c_low m0' (by omega) (fun c hc => c_low (n := 10) (by decide) (by decide) (fun d hd => c_low (n := 6) (by decide) (by decide) (fun e he => ?_)))
    rw [show 1 + nI a = nI (1 + a) from nI_add 1 a, show 1 + nI b = nI (1 + b) from nI_add 1 b, show 1 + nI c = nI (1 + c) from nI_add 1 c, show 1 + nI e = nI (1 + e) from nI_add 1 e]
    have k1 : ∀ {x : Nat}, x < 2 ^ 31 → ¬ (1 ≤ x ∧ x ≤ 20) → ¬ bn (nI x) 1 20 := fun h g => by rw [bn_iff h (by decide)]; exact g
    have k2 : ∀ {x lo hi : Nat}, x < 2 ^ 31 → hi < 2 ^ 31 → ¬ (lo ≤ x ∧ x ≤ hi) → ¬ bn (nI x) lo hi := fun h h' g => by rw [bn_iff h h']; exact g
    refine ⟨nz0, nzL (by decide), open_rg h (fun w => k2 (x := 0) (by decide) (by decide) (by decide) w.1) (e01 rfl ?_)⟩
    refine ⟨nz0, nzL (by decide), open_rg h (fun w => k2 (x := 21) (by decide) (by decide) (by decide) w.1) (e01 rfl ?_)⟩
    refine ⟨nz0, nzL (by decide), open_rg h (fun w => k2 (x := 11) (by decide) (by decide) (by decide) w.2.1) (e01 rfl ?_)⟩
    refine ⟨nz0, nzL (by decide), open_rg h (fun w => k2 (x := 0) (by decide) (by decide) (by decide) w.2.1) (e01 rfl ?_)⟩
    refine ⟨nz0, nzL (by decide), open_rg h (fun w => k2 (x := 31) (by decide) (by decide) (by decide) w.2.2.1) (e01 rfl ?_)⟩
    refine ⟨nz0, nzL (by decide), open_rg h (fun w => k2 (x := 10) (by decide) (by decide) (by decide) w.2.2.2.1) (e01 rfl ?_)⟩
    refine ⟨nz0, nzL (by decide), open_rg h (fun w => bn_neg (by decide) w.2.2.2.1) (e01 rfl ?_)⟩
    refine ⟨nz0, nzL (by decide), open_rg h (fun w => k2 (x := 11) (by decide) (by decide) (by decide) w.2.2.2.2) ⟨fun _ => ⟨vinL (i := 1) 4 rfl (by decide) (by decide), ?_⟩, fun w => absurd rfl w⟩⟩
    rw [hI_S, hn.2.1]
    refine ⟨fun w => ?_, fun w => ?_⟩
    · have w2 : gS p < 2 := by
        rcases Nat.lt_or_ge (gS p) 2 with z | z
        · exact z
        · exact absurd (show nI (gS p) = 2 by rw [show gS p = 2 by omega]; rfl) w
      have y1 : nI (11 * gS p) + 1 = nI (11 * gS p + 1) := nI_add _ 1
      have y2 : nI (11 * gS p) + 2 = nI (11 * gS p + 2) := nI_add _ 2
      have y3 : nI (11 * gS p) + 3 = nI (11 * gS p + 3) := nI_add _ 3
      have y4 : nI (11 * gS p) + 4 = nI (11 * gS p + 4) := nI_add _ 4
      have y5 : nI (11 * gS p) + 5 = nI (11 * gS p + 5) := nI_add _ 5
      have y6 : nI (11 * gS p) + 6 = nI (11 * gS p + 6) := nI_add _ 6
      rw [x0, forall_eq, y1, y2, y3, y4, y5, y6, nI_clamp (show 11 * gS p < 2 ^ 31 by omega), nI_clamp (show 11 * gS p + 1 < 2 ^ 31 by omega), nI_clamp (show 11 * gS p + 2 < 2 ^ 31 by omega), nI_clamp (show 11 * gS p + 3 < 2 ^ 31 by omega), nI_clamp (show 11 * gS p + 4 < 2 ^ 31 by omega), nI_clamp (show 11 * gS p + 5 < 2 ^ 31 by omega), nI_clamp (show 11 * gS p + 6 < 2 ^ 31 by omega)]
      have vv : ∀ k, k < 11 → vp_in (nI (11 * gS p + k)) (hL (S p I J) (23, 1, 0)) := fun k hk => vinL 22 rfl (by omega) (by decide)
      refine ⟨rfl, vv 0 (by decide), ?_⟩
      rw [forall_eq, sI_S]
      refine ⟨vinL (i := 0) 4 rfl (by decide) (by decide), vv 1 (by decide), ?_⟩
      rw [forall_eq, sI_S, hI_S, up_ne (by simp)]
      refine ⟨vv 2 (by decide), ?_⟩
      rw [forall_eq, sI_S]
      refine ⟨vv 3 (by decide), ?_⟩
      rw [forall_eq, sI_S]
      refine ⟨vv 4 (by decide), ?_⟩
      rw [forall_eq, sI_S]
      refine ⟨vv 5 (by decide), ?_⟩
      rw [forall_eq, sI_S]
      refine ⟨vv 6 (by decide), ?_⟩
      rw [forall_eq, sI_S, forall_eq, hI_S, up_ne (by simp), up_ne (by simp), up_ne (by simp), up_ne (by simp), up_ne (by simp), up_ne (by simp), up_ne (by simp), hn.2.1, nI_1, sI_S]
      have hrg : bn (nI (1 + a)) 1 20 ∧ bn (nI (1 + b)) 1 10 ∧ bn (nI (1 + c)) 1 30 ∧ bn (nI d) 0 9 ∧ bn (nI (1 + e)) 1 6 := ⟨bn_nI (by omega) (by omega), bn_nI (by omega) (by omega), bn_nI (by omega) (by omega), bn_nI (by omega) (by omega), bn_nI (by omega) (by omega)⟩
      have cL : CA I (opL I (gS p) (nI (1 + a)) (nI (1 + b)) (nI (1 + c)) (nI d) (nI (1 + e))) := fun n j hn => opL_o (by omega)
      refine w_open (I := opL I (gS p) (nI (1 + a)) (nI (1 + b)) (nI (1 + c)) (nI d) (nI (1 + e))) (hW.ca cL) hOQ.ok (fun w => absurd ⟨hrg.1, hrg.2.1, hrg.2.2.1, hrg.2.2.2.1, bn_nI (by omega) (by omega)⟩ w) (fun _ w => by omega) (fun _ _ O I' J' fO fI => ?_)
      refine ⟨vinL (i := 1) 4 rfl (by decide) (by decide), e01 ?_ (hQ _ _ _ (open_LX hX hrg w2 fO fI))⟩
      rw [hI_S, fI.2.2.2 _ _ (by simp) (by simp) (by simp) (by simp) (by simp)]
      unfold opL
      rw [up_same, nI_sub1 (by omega)]; rfl
    · have : gS p = 2 := (nI_eq (b := 2) (by omega) (by decide)).mp w
      refine w_isOpen hW (fun u a1 a2 _ => ?_) (fun k a1 a2 _ => e01 rfl ?_) (fun w => absurd rfl (w 2 (by decide)))
      · have := (nI_eq (a := 2) (by decide) (by omega)).mp a2; omega
      · refine w_isOpen hW (fun u a1 a2 _ => ?_) (fun k a1 a2 _ => e01 rfl same) (fun w => absurd rfl (w 3 (by decide)))
        have := (nI_eq (a := 3) (by decide) (by omega)).mp a2; omega
end
