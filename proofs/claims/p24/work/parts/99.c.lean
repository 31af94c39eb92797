/-! The whole of what the law asks between two turns. -/
theorem nI_ng {q : Nat} {x : Int32} (h : q < 2 ^ 31) (hx : x < 0) : x ≠ nI q := fun e => by rw [e, nI_lt0 h] at hx; exact hx
section
variable {N : Nat} {p : PP} {I : IF} {J : JF}
theorem x_told404 {t : Nat} {K Q : Int32 → PH → Prop} {X : String → PH → Prop} (h : LV N p I t) (hN : N ≤ 512) (hK : ∀ y, K y (S p I J)) : ∀ d i, i + d = gT p → lL_isTold_404 (0, 0, 0) (23, 1, 0) (23, 2, 0) (23, 5, 0) (23, 6, 0) (23, 11, 0) K Q X (d + 1) (nI i) (S p I J) := by
  have h' := h
  obtain ⟨hW, g2, g10, t5, hnow, hn, hv, hs, hi, hOQ, hG, hTH, hC, hSN⟩ := h'
  intro d
  induction d with
  | zero =>
    intro i hd
    unfold lL_isTold_404
    rw [hI_S, show Int32.toNatClampNeg 2 = 2 from rfl, hn.2.2.1]
    exact ⟨rfl, vinL (i := 2) 4 rfl (by decide) (by decide), fun _ => hK _, fun w => absurd ((nI_leI (by omega) (by omega)).mpr (by omega)) w⟩
  | succ d ih =>
    intro i hd
    have hig : i < gT p := by omega
    have i31 : i < 2 ^ 31 := by omega
    have IH := ih (i + 1) (by omega)
    unfold lL_isTold_404
    rw [hI_S, show Int32.toNatClampNeg 2 = 2 from rfl, hn.2.2.1, nI_1]
    generalize hR : lL_isTold_404 (0, 0, 0) (23, 1, 0) (23, 2, 0) (23, 5, 0) (23, 6, 0) (23, 11, 0) K Q X (d + 1) (nI (i + 1)) = R at IH ⊢
    refine ⟨rfl, vinL (i := 2) 4 rfl (by decide) (by decide), fun w => ?_, fun _ => x_there h (fun i' a1 a2 a3 => ?_) (fun hno => ?_)⟩
    · rw [nI_leI (by omega) (by omega)] at w; omega
    · have : i = i' := (nI_eq i31 (by omega)).mp a2
      subst this
      obtain ⟨-, y5, y6, -⟩ := hi i hig
      refine ⟨Nat.succ_pos _, w_waiting hW (fun i' b1 b2 _ => ?_) (fun w => absurd (w i hig rfl) a3)⟩
      have : i = i' := (nI_eq i31 (by omega)).mp b2
      subst this
      refine jV_i (fun y => y = I (16, i, 0) 4) (fun x9 h9 => ?_) (fun K7 h7 => ⟨fun w => absurd w (by decide), fun _ => ⟨rfl, vinL 10 rfl (by omega) (by decide), h7 _ ?_⟩⟩)
      · subst h9
        refine ⟨fun w => absurd rfl w, fun _ => w_queued hW (fun i' b1 b2 _ => ?_) (fun w => absurd (w i hig rfl) a3)⟩
        have : i = i' := (nI_eq i31 (by omega)).mp b2
        subst this
        refine jV_i (fun y => y = I (14, i, 0) 8) (fun x10 h10 => ?_) (fun K8 h8 => ⟨fun w => absurd w (by decide), fun _ => ⟨rfl, vinL 10 rfl (by omega) (by decide), h8 _ ?_⟩⟩)
        · subst h10
          refine ⟨fun w => absurd rfl w, fun _ => ⟨fun w => absurd w (by decide), fun _ => ⟨rfl, ?_⟩⟩⟩
          refine w_qbh hW hig a3 hG (by omega) t5 hnow (hTH i hig).1 (hTH i hig).2 ⟨rfl, vinL 10 rfl (by omega) (by decide), fun _ => IH, fun w => absurd ?_ w⟩
          rw [hI_S, nI_clamp i31]; exact y5.symm
        · rw [hI_S, nI_clamp i31]; exact y5
      · rw [hI_S, nI_clamp i31]; exact y6
    · refine ⟨Nat.succ_pos _, w_waiting hW (fun i' b1 b2 b3 => absurd (hno i' b1 b2) b3) (fun _ => ?_)⟩
      refine jV_i (fun y => y = -7100) (fun x9 h9 => ?_) (fun K7 h7 => ⟨fun _ => h7 _ rfl, fun w => absurd rfl w⟩)
      subst h9
      refine ⟨fun w => absurd rfl w, fun _ => w_queued hW (fun i' b1 b2 b3 => absurd (hno i' b1 b2) b3) (fun _ => ?_)⟩
      refine jV_i (fun y => y = -7100) (fun x10 h10 => ?_) (fun K8 h8 => ⟨fun _ => h8 _ rfl, fun w => absurd rfl w⟩)
      subst h10
      exact ⟨fun w => absurd rfl w, fun _ => ⟨fun _ => IH, fun w => absurd rfl w⟩⟩
theorem x_told3 {t : Nat} {K Q : Int32 → PH → Prop} (hX : LX N p I) (h : LV N p I t) (hK : ∀ y, K y (S p I J)) : ∀ d s, s + d = 2 → lL_isTold_3 (0, 0, 0) (23, 1, 0) (23, 2, 0) (23, 5, 0) (23, 6, 0) (23, 9, 0) (23, 10, 0) (23, 11, 0) K Q (d + 1) (nI s) (S p I J) := by
  have h' := h
  obtain ⟨hW, g2, g10, t5, hnow, hn, hv, hs, hi, hOQ, hG, hTH, hC, hSN⟩ := h'
  intro d
  induction d with
  | zero =>
    intro s hd
    unfold lL_isTold_3
    exact ⟨fun _ => hK _, fun w => absurd (by rw [show (2 : Int32) = nI 2 from rfl, nI_leI (by omega) (by omega)]; omega) w⟩
  | succ d ih =>
    intro s hd
    have s31 : s < 2 ^ 31 := by omega
    have IH := ih (s + 1) (by omega)
    have x0 : 11 * nI s = nI (11 * s) := nI_mul 11 _
    have x9 : 11 * nI s + 9 = nI (11 * s + 9) := by rw [x0]; exact nI_add _ 9
    have x10 : 11 * nI s + 10 = nI (11 * s + 10) := by rw [x0]; exact nI_add _ 10
    unfold lL_isTold_3
    rw [hI_S, show Int32.toNatClampNeg 1 = 1 from rfl, hn.2.1, nI_1, x9, x10, x0]
    generalize hR : lL_isTold_3 (0, 0, 0) (23, 1, 0) (23, 2, 0) (23, 5, 0) (23, 6, 0) (23, 9, 0) (23, 10, 0) (23, 11, 0) K Q (d + 1) (nI (s + 1)) = R at IH ⊢
    refine ⟨fun w => ?_, fun _ => ⟨rfl, vinL (i := 1) 4 rfl (by decide) (by decide), ?_⟩⟩
    · rw [show (2 : Int32) = nI 2 from rfl, nI_leI (by omega) (by omega)] at w; omega
    refine jV_i (fun y => (y = 1 ∧ s < gS p ∧ I (6, s, 0) 7 ≠ 0) ∨ (y = 0 ∧ ∀ u, u < gS p → nI s = nI u → I (6, u, 0) 7 = 0)) (fun x1 h1 => ?_) (fun K1 h1 => ⟨fun w => h1 _ (Or.inr ⟨rfl, fun u hu e => ?_⟩), fun w => ⟨rfl, vinL 22 rfl (by omega) (by decide), fun z => h1 _ (Or.inr ⟨rfl, fun u hu e => ?_⟩), fun z => h1 _ (Or.inl ⟨rfl, ?_, ?_⟩)⟩⟩)
    · rcases h1 with ⟨rfl, hsg, l⟩ | ⟨rfl, hno⟩
      · obtain ⟨-, y9, y10⟩ := hs s hsg
        obtain ⟨ln, -, hln, l1, -⟩ := hSN s hsg
        refine ⟨Nat.succ_pos _, w_isOpen hW (fun u a1 a2 _ => ?_) (fun k a1 a2 a3 => absurd (a3 s hsg ((nI_eq s31 (by omega)).mp a2).symm) l) (fun w => absurd rfl (w s (by omega)))⟩
        refine jV_i (fun y => y = 1) (fun x2 h2 => ?_) (fun K2 h2 => ⟨fun w => absurd w (by decide), fun _ => h2 _ rfl⟩)
        subst h2
        refine ⟨fun w => absurd rfl w, fun _ => w_latest hW (fun u a1 a2 _ => ?_) (fun w => absurd (w s hsg rfl) l)⟩
        have : s = u := (nI_eq s31 (by omega)).mp a2
        subst this
        refine jV_i (fun y => y = I (6, s, 0) 10) (fun x3 h3 => ?_) (fun K3 h3 => ⟨fun w => absurd w (by decide), fun _ => ⟨rfl, vinL 22 rfl (by omega) (by decide), h3 _ ?_⟩⟩)
        · subst h3
          refine ⟨fun w => absurd rfl w, fun _ => w_keepAlives hW (fun u a1 a2 _ => ?_) (fun w => absurd (w s hsg rfl) l)⟩
          have : s = u := (nI_eq s31 (by omega)).mp a2
          subst this
          refine jV_i (fun y => y = I (6, s, 0) 11) (fun x4 h4 => ?_) (fun K4 h4 => ⟨fun w => absurd w (by decide), fun _ => ⟨rfl, vinL 22 rfl (by omega) (by decide), h4 _ ?_⟩⟩)
          · subst h4
            refine ⟨fun _ => ⟨fun _ => ⟨rfl, vinL 22 rfl (by omega) (by decide), ?_⟩, fun w => absurd w (by decide)⟩, fun w => absurd rfl w⟩
            rw [forall_eq, hI_S, nI_clamp (show 11 * s + 9 < 2 ^ 31 by omega), y9, hln]
            refine ⟨12, by decide, ?_⟩
            have g := x_told189 (x5 := nI ln - 9) (K := fun _ τ2 => R τ2) (Q := Q) (J := J) hX h hsg l hln (by omega) (fun _ => IH) 11 0 rfl
            rw [show nI ln - 9 + nI 0 = nI ln - 9 from Int32.add_zero _] at g
            exact g
          · rw [hI_S, nI_clamp (show 11 * s + 10 < 2 ^ 31 by omega)]; exact y10
        · rw [hI_S, nI_clamp (show 11 * s + 9 < 2 ^ 31 by omega)]; exact y9
      · refine ⟨Nat.succ_pos _, w_isOpen hW (fun u a1 a2 a3 => absurd (hno u a1 a2) a3) (fun k a1 a2 a3 => ?_) (fun w => absurd rfl (w s (by omega)))⟩
        refine jV_i (fun y => y = 0) (fun x2 h2 => ?_) (fun K2 h2 => ⟨fun _ => h2 _ rfl, fun w => absurd rfl w⟩)
        subst h2
        refine ⟨fun w => absurd rfl w, fun _ => w_latest hW (fun u a1 a2 a3 => absurd (hno u a1 a2) a3) (fun _ => ?_)⟩
        refine jV_i (fun y => y = -7100) (fun x3 h3 => ?_) (fun K3 h3 => ⟨fun _ => h3 _ rfl, fun w => absurd rfl w⟩)
        subst h3
        refine ⟨fun w => absurd rfl w, fun _ => w_keepAlives hW (fun u a1 a2 a3 => absurd (hno u a1 a2) a3) (fun _ => ?_)⟩
        refine jV_i (fun y => y = -7100) (fun x4 h4 => ?_) (fun K4 h4 => ⟨fun _ => h4 _ rfl, fun w => absurd rfl w⟩)
        subst h4
        refine ⟨fun _ => ⟨fun w => absurd rfl w, fun _ => ?_⟩, fun w => absurd rfl w⟩
        refine w_size hW (fun u q a1 a2 a3 _ _ => absurd (hno u a1 a2) a3) (fun u a1 a2 a3 _ => absurd (hno u a1 a2) a3) (fun _ => ?_)
        refine ⟨fun w => absurd rfl w, fun _ => (at_cl h hno ?_).1⟩
        refine ⟨fun w => absurd rfl w, fun _ => (at_cl h hno ?_).2.1⟩
        refine ⟨fun w => absurd rfl w, fun _ => (at_cl h hno ?_).2.2⟩
        exact ⟨fun _ => IH, fun w => absurd rfl w⟩
    · have := (nI_eq s31 (by omega)).mp e
      rw [nI_leI (by omega) (by omega)] at w; omega
    · have := (nI_eq s31 (by omega)).mp e
      subst this
      rw [nI_clamp (show 11 * s < 2 ^ 31 by omega), (hs s hu).1] at z
      exact (hW.2.2 s hu).1.resolve_right z
    · rw [nI_leI (by omega) (by omega)] at w; omega
    · have hsg : s < gS p := by rw [nI_leI (by omega) (by omega)] at w; omega
      rw [nI_clamp (show 11 * s < 2 ^ 31 by omega), (hs s hsg).1] at z
      rw [z]; decide
theorem x_isTold {x : Int32} {Q : Int32 → PH → Prop} {X : String → PH → Prop} (hX : LX N p I) (hN : N ≤ 512) (hQ : Q 1 (S p I J)) : wL_isTold (0, 0, 0) x (23, 1, 0) (23, 2, 0) (23, 5, 0) (23, 6, 0) (23, 9, 0) (23, 10, 0) (23, 11, 0) (S p I J) Q X := by
  obtain ⟨t, h⟩ := hX.v
  have h' := h
  obtain ⟨hW, g2, g10, t5, hnow, hn, hv, hs, hi, hOQ, hG, hTH, hC, hSN⟩ := h'
  unfold wL_isTold
  refine ⟨3, Nat.le_refl _, x_told3 hX h (fun _ => ⟨gT p + 1, by omega, x_told404 h hN (fun _ => ⟨rfl, w_tick ?_⟩) (gT p) 0 (by omega)⟩) 2 0 rfl⟩
  rw [hI_S, show Int32.toNatClampNeg 0 = 0 from rfl, hn.1]
  refine ⟨rfl, vinL (i := 0) 4 rfl (by decide) (by decide), fun w => absurd hnow w, fun _ => w_requests ?_⟩
  rw [hI_S, show Int32.toNatClampNeg 3 = 3 from rfl, hn.2.2.2]
  refine ⟨vinL (i := 3) 4 rfl (by decide) (by decide), fun w => absurd rfl w, fun _ => ⟨vinL (i := 2) 4 rfl (by decide) (by decide), ?_⟩⟩
  rw [show Int32.toNatClampNeg 2 = 2 from rfl, hn.2.2.1]
  refine w_waiting hW (fun i a1 a2 _ => ?_) (fun _ => ⟨fun w => absurd rfl w, fun _ => ?_⟩)
  · have := (nI_eq (by omega) (by omega)).mp a2; omega
  refine w_queued hW (fun i a1 a2 _ => absurd a2 (nI_ng (by omega) (by decide))) (fun _ => ⟨fun w => absurd rfl w, fun _ => ?_⟩)
  refine w_waiting hW (fun i a1 a2 _ => ?_) (fun _ => ⟨fun w => absurd rfl w, fun _ => ?_⟩)
  · have := (nI_eq (a := 2147483647) (by decide) (by omega)).mp a2; omega
  refine w_isOpen hW (fun s a1 a2 _ => ?_) (fun k a1 a2 _ => ?_) (fun _ => ⟨fun w => absurd rfl w, fun _ => ?_⟩)
  · have := (nI_eq (a := 4) (by decide) (by omega)).mp a2; omega
  · have := (nI_eq (a := 4) (by decide) (by omega)).mp a2; omega
  refine w_isOpen hW (fun s a1 a2 _ => absurd a2 (nI_ng (by omega) (by decide))) (fun k a1 a2 _ => absurd a2 (nI_ng (by omega) (by decide))) (fun _ => ⟨fun w => absurd rfl w, fun _ => ?_⟩)
  refine w_latest hW (fun s a1 a2 _ => ?_) (fun _ => ⟨fun w => absurd rfl w, fun _ => ?_⟩)
  · have := (nI_eq (a := 4) (by decide) (by omega)).mp a2; omega
  exact w_keepAlives hW (fun s a1 a2 _ => absurd a2 (nI_ng (by omega) (by decide))) (fun _ => ⟨fun w => absurd rfl w, fun _ => hQ⟩)
end
