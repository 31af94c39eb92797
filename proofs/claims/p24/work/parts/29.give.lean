/-! The class gives samples to a message. -/
def gv1 (a : IF) (i s o : Nat) : IF :=
  setQ (up (up (up (up a (12, s, o) (tn (a (10, s, o) 4)) (nI i)) (11, s, o) (tn (a (10, s, o) 4)) (a (17, i, 0) 0)) (13, s, o) (tn (a (10, s, o) 4)) (a (18, i, 0) 0)) (10, s, o) 4 (nI (tn (a (10, s, o) 4) + 1))) i (tn (a (16, i, 0) 4) - 1) (sh (fun k => a (17, i, 0) k) (tn (a (16, i, 0) 4))) (sh (fun k => a (18, i, 0) k) (tn (a (16, i, 0) 4)))
def gvN (i s o : Nat) : Nat → IF → IF
  | 0, a => a
  | n + 1, a => gvN i s o n (gv1 a i s o)
def giA (a : IF) (i s o mo : Nat) : IF := gvN i s o (min (tn (a (16, i, 0) 4)) (mo - tn (a (10, s, o) 4))) a
def flL (s o mo : Nat) (T : Int32) : Nat → Nat → IF → IF
  | _, 0, a => a
  | n, d + 1, a => flL s o mo T (n + 1) d (if bq T n then giA a n s o mo else a)
theorem gv1_o {a : IF} {i s o : Nat} {n : Nm} {j : Nat} (h : ¬ ((n.1 = 10 ∨ n.1 = 11 ∨ n.1 = 12 ∨ n.1 = 13) ∧ n.2 = (s, o)) ∧ ¬ ((n.1 = 16 ∨ n.1 = 17 ∨ n.1 = 18) ∧ n.2 = (i, 0))) : gv1 a i s o n j = a n j := by
  obtain ⟨r, k, z⟩ := n
  obtain ⟨h1, h2⟩ := h
  simp only [Prod.mk.injEq] at h1 h2
  have g1 : ∀ q, (q = 10 ∨ q = 11 ∨ q = 12 ∨ q = 13) → ¬ ((r, k, z) : Nm) = (q, s, o) := by
    intro q hq e; simp only [Prod.mk.injEq] at e; exact h1 ⟨by omega, e.2⟩
  have g2 : ∀ q, (q = 16 ∨ q = 17 ∨ q = 18) → ¬ ((r, k, z) : Nm) = (q, i, 0) := by
    intro q hq e; simp only [Prod.mk.injEq] at e; exact h2 ⟨by omega, e.2⟩
  rw [gv1, setQ_o (fun q => g2 16 (by omega) q.1) (g2 17 (by omega)) (g2 18 (by omega)), up_ne (fun q => g1 10 (by omega) q.1), up_ne (fun q => g1 13 (by omega) q.1), up_ne (fun q => g1 11 (by omega) q.1), up_ne (fun q => g1 12 (by omega) q.1)]
theorem gv1_16 {a : IF} {i s o : Nat} : gv1 a i s o (16, i, 0) 4 = nI (tn (a (16, i, 0) 4) - 1) := by rw [gv1, setQ_c]
theorem gv1_160 {a : IF} {i s o j : Nat} (h : j ≠ 4) : gv1 a i s o (16, i, 0) j = a (16, i, 0) j := by
  rw [gv1, setQ_o (fun q => h q.2) (by simp) (by simp), up_ne (by simp), up_ne (by simp), up_ne (by simp), up_ne (by simp)]
theorem gv1_17 {a : IF} {i s o k : Nat} : gv1 a i s o (17, i, 0) k = sh (fun k => a (17, i, 0) k) (tn (a (16, i, 0) 4)) k := by rw [gv1, setQ_v]
theorem gv1_18 {a : IF} {i s o k : Nat} : gv1 a i s o (18, i, 0) k = sh (fun k => a (18, i, 0) k) (tn (a (16, i, 0) 4)) k := by rw [gv1, setQ_m]
theorem gv1_10 {a : IF} {i s o : Nat} : gv1 a i s o (10, s, o) 4 = nI (tn (a (10, s, o) 4) + 1) := by rw [gv1, setQ_o (by simp) (by simp) (by simp), up_same]
theorem gv1_10j {a : IF} {i s o j : Nat} (h : j ≠ 4) : gv1 a i s o (10, s, o) j = a (10, s, o) j := by
  rw [gv1, setQ_o (by simp) (by simp) (by simp), up_nj h, up_ne (by simp), up_ne (by simp), up_ne (by simp)]
theorem gv1_11 {a : IF} {i s o k : Nat} : gv1 a i s o (11, s, o) k = if k = tn (a (10, s, o) 4) then a (17, i, 0) 0 else a (11, s, o) k := by
  rw [gv1, setQ_o (by simp) (by simp) (by simp), up_ne (by simp), up_ne (by simp)]
  by_cases e : k = tn (a (10, s, o) 4)
  · rw [if_pos e, e, up_same]
  · rw [if_neg e, up_nj e, up_ne (by simp)]
theorem gv1_12 {a : IF} {i s o k : Nat} : gv1 a i s o (12, s, o) k = if k = tn (a (10, s, o) 4) then nI i else a (12, s, o) k := by
  rw [gv1, setQ_o (by simp) (by simp) (by simp), up_ne (by simp), up_ne (by simp), up_ne (by simp)]
  by_cases e : k = tn (a (10, s, o) 4)
  · rw [if_pos e, e, up_same]
  · rw [if_neg e, up_nj e]
theorem gv1_13 {a : IF} {i s o k : Nat} : gv1 a i s o (13, s, o) k = if k = tn (a (10, s, o) 4) then a (18, i, 0) 0 else a (13, s, o) k := by
  rw [gv1, setQ_o (by simp) (by simp) (by simp), up_ne (by simp)]
  by_cases e : k = tn (a (10, s, o) 4)
  · rw [if_pos e, e, up_same]
  · rw [if_neg e, up_nj e, up_ne (by simp), up_ne (by simp)]
theorem c_append2 {p : PP} {a : IF} {J : JF} {s o n : Nat} {x y z : Int32} (hs : s < gS p) (ho : o < gM p s) (hn : n < 10) (hc : a (10, s, o) 4 = nI n) (hz : zb z) {Q : PH → Prop} (h : Q (S p (up (up (up (up a (12, s, o) n x) (11, s, o) n y) (13, s, o) n z) (10, s, o) 4 (nI (n + 1))) J)) : w2_append (10, s, o) x y z (S p a J) Q := by
  have v : ∀ {σ : PH} {m : Nm}, hL σ m = 10 → vp_in (nI n) (hL σ m) := fun e => vinL 10 e hn (by decide)
  have c1 : ∀ {k j : Nat} {w : Int32}, up a (12, s, o) k w (10, s, o) j = a (10, s, o) j := up_ne (by simp)
  unfold w2_append
  rw [hI_S, hc]
  refine ⟨kq10 hs ho, fun q => ?_, fun _ => ⟨_, rq101 hs ho, kq12 hs ho, v (lq12 hs ho), ?_⟩⟩
  · rw [show (10 : Int32) = nI 10 from rfl, nI_leI (by omega) (by omega)] at q; omega
  rw [forall_eq, nI_clamp (by omega), sI_S, hI_S, up_ne (by simp), hc]
  refine ⟨_, rq100 hs ho, kq11 hs ho, v (lq11 hs ho), ?_⟩
  rw [forall_eq, nI_clamp (by omega), sI_S, hI_S, up_ne (by simp), up_ne (by simp), hc]
  refine ⟨_, rq102 hs ho, kq13 hs ho, v (lq13 hs ho), hz, ?_⟩
  rw [forall_eq, nI_clamp (by omega), sI_S, forall_eq, hI_S, up_ne (by simp), up_ne (by simp), up_ne (by simp), hc, nI_1, sI_S]
  exact h
theorem WF_gv1 {p : PP} {a : IF} {i s o c n : Nat} (h : WF p a) (hi : i < gT p) (hs : s < gS p) (ho : o < gM p s) (hc : a (16, i, 0) 4 = nI c) (c1 : 1 ≤ c) (c4 : c ≤ 4) (hn : a (10, s, o) 4 = nI n) (n1 : n < 10) : WF p (gv1 a i s o) := by
  obtain ⟨h1, h2, h3⟩ := h
  have t16 : tn (a (16, i, 0) 4) = c := by rw [hc, tn, nI_clamp (by omega)]
  have t10 : tn (a (10, s, o) 4) = n := by rw [hn, tn, nI_clamp (by omega)]
  have lo : ∀ r k z j, (r < 10 ∨ 13 < r ∧ r < 16) → gv1 a i s o (r, k, z) j = a (r, k, z) j := fun r k z j q => gv1_o ⟨fun y => by simp only at y; omega, fun y => by simp only at y; omega⟩
  have mo : ∀ r k z j, (r ≤ 13) → (k, z) ≠ (s, o) → gv1 a i s o (r, k, z) j = a (r, k, z) j := fun r k z j q y => gv1_o ⟨fun w => y w.2, fun w => by simp only at w; omega⟩
  refine ⟨?_, fun k hk => ?_, fun u hu => ?_⟩
  · unfold W1 at *
    simp only [lo 0 _ _ _ (Or.inl (by omega)), lo 1 _ _ _ (Or.inl (by omega)), lo 4 _ _ _ (Or.inl (by omega))]
    exact h1
  · by_cases e : k = i
    · subst e
      obtain ⟨g1, g2, g3, g4, g5, g6, sz, c', q1, q2, q3, q4, q5, q6⟩ := h2 k hk
      have : c' = c := by
        have := hc.symm.trans q4
        exact ((nI_eq (by omega) (by omega)).mp this).symm
      subst this
      refine ⟨?_, ?_, ?_, ?_, ?_, ?_, sz, c' - 1, ?_, q2, q3, ?_, by omega, fun j => ?_⟩
      · rw [lo 14 _ _ _ (Or.inr (by omega))]; exact g1
      · rw [lo 14 _ _ _ (Or.inr (by omega))]; exact g2
      · rw [lo 14 _ _ _ (Or.inr (by omega))]; exact g3
      · rw [lo 14 _ _ _ (Or.inr (by omega))]; exact g4
      · rw [lo 14 _ _ _ (Or.inr (by omega))]; exact g5
      · rw [lo 15 _ _ _ (Or.inr (by omega))]; exact g6
      · rw [gv1_160 (by decide)]; exact q1
      · rw [gv1_16, t16]
      · rw [gv1_18]; exact sh_zb q6 j
    · have g := h2 k hk
      unfold IS at *
      have ot : ∀ r j, 14 ≤ r → gv1 a i s o (r, k, 0) j = a (r, k, 0) j := fun r j q => gv1_o ⟨fun y => by simp only at y; omega, fun y => by simp only [Prod.mk.injEq] at y; omega⟩
      simp only [ot 14 _ (by omega), ot 15 _ (by omega), ot 16 _ (by omega), ot 18 _ (by omega)]
      exact g
  · obtain ⟨g1, g2, g3, g4, g5, g6, g7, g8, g9, g10, g11⟩ := h3 u hu
    have l6 : ∀ j, gv1 a i s o (6, u, 0) j = a (6, u, 0) j := fun j => lo 6 _ _ _ (Or.inl (by omega))
    refine ⟨by rw [l6]; exact g1, by rw [lo 7 _ _ _ (Or.inl (by omega))]; exact g2, by rw [l6]; exact g3, by rw [l6]; exact g4, by rw [l6]; exact g5, by rw [l6]; exact g6, g7, g8, fun z hz => ?_, g10, fun z hz k => ?_⟩
    · by_cases e : (u, z) = (s, o)
      · cases e
        rw [gv1_10, t10]; exact bn_nI (by omega) (by omega)
      · rw [mo 10 _ _ _ (by omega) e]; exact g9 z hz
    · by_cases e : (u, z) = (s, o)
      · cases e
        rw [gv1_13]; split
        · obtain ⟨-, -, -, -, -, -, sz, c', q1, q2, q3, q4, q5, q6⟩ := h2 i hi
          exact q6 0
        · exact g11 _ hz k
      · rw [mo 13 _ _ _ (by omega) e]; exact g11 z hz k
theorem c_giveL {p : PP} {J : JF} {i s o g : Nat} {K : Int32 → PH → Prop} {Q : PH → Prop} (hi : i < gT p) (hs : s < gS p) (ho : o < gM p s) (hg : g ≤ 4) : ∀ (d k : Nat) (a : IF) (c n : Nat), k + d = g → WF p a → a (16, i, 0) 4 = nI c → d ≤ c → c ≤ 4 → a (10, s, o) 4 = nI n → n + d ≤ 10 → K (nI g) (S p (gvN i s o d a) J) → l1_giveTo_20 (14, i, 0) (10, s, o) (nI g) K Q (d + 1) (nI k) (S p a J) := by
  intro d
  induction d with
  | zero =>
    intro k a c n h hW hc h1 h2 hn h3 hK
    have : k = g := by omega
    subst this
    unfold l1_giveTo_20
    refine ⟨fun _ => hK, fun q => absurd ?_ q⟩
    rw [nI_leI (by omega) (by omega)]; exact Nat.le_refl _
  | succ d ih =>
    intro k a c n h hW hc h1 h2 hn h3 hK
    obtain ⟨-, -, -, -, -, -, sz, c', q1, q2, q3, q4, q5, q6⟩ := hW.2.1 i hi
    have hnum := (hW.2.1 i hi).1
    have t16 : tn (a (16, i, 0) 4) = c := by rw [hc, tn, nI_clamp (by omega)]
    have t10 : tn (a (10, s, o) 4) = n := by rw [hn, tn, nI_clamp (by omega)]
    unfold l1_giveTo_20
    refine ⟨fun q => ?_, fun _ => ⟨kq14 hi, _, rq145 hi, kq16 hi, _, rq162 hi, kq17 hi, vinL (i := 0) 4 (lq17 hi) (by decide) (by decide), _, rq163 hi, kq18 hi, vinL (i := 0) 4 (lq18 hi) (by decide) (by decide), kq10 hs ho, ?_⟩⟩
    · rw [nI_leI (by omega) (by omega)] at q; omega
    rw [hI_S, hnum, show Int32.toNatClampNeg 0 = 0 from rfl]
    refine c_append2 hs ho (by omega) hn (q6 0) ⟨_, rq145 hi, kq16 hi, ?_⟩
    have key : ∀ (b : IF), isQ b i c (fun k => a (17, i, 0) k) (fun k => a (18, i, 0) k) → S p b J = S p (setQ b i c (fun k => a (17, i, 0) k) (fun k => a (18, i, 0) k)) J := fun b hb => by rw [setQ_id hb]
    rw [key _ ⟨by rw [up_ne (by simp), up_ne (by simp), up_ne (by simp), up_ne (by simp)]; exact hc, fun k => by rw [up_ne (by simp), up_ne (by simp), up_ne (by simp), up_ne (by simp)], fun k => by rw [up_ne (by simp), up_ne (by simp), up_ne (by simp), up_ne (by simp)]⟩]
    refine c_drop hi (by omega) h2 q6 ?_
    rw [nI_1]
    have hW' := WF_gv1 hW hi hs ho hc (by omega) h2 hn (by omega)
    have g2 := ih (k + 1) (gv1 a i s o) (c - 1) (n + 1) (by omega) hW' (by rw [gv1_16, t16]) (by omega) (by omega) (by rw [gv1_10, t10]) (by omega) hK
    unfold gv1 at g2
    rw [t16, t10] at g2
    exact g2
