/-! Passing: the law's ticks first, then the class's. -/
section
variable {N : Nat} {p : PP} {I : IF} {J : JF}
theorem x_passL {B : IF} {t n : Nat} {r1 : Int32} {K : Int32 → Int32 → PH → Prop} {Q : Int32 → PH → Prop} (hr : 1 + r1 = nI n) (hn : t + n ≤ 5000) (hK : ∀ p' a' c b' I' y, PS p B n p' a' c → IV p' a' b' (t + n) → XT p' a' (t + n) → Enc p' b' I' → FL I I' → K c y (S p I' J)) : ∀ (d k : Nat) (p1 : PP) (a1 : IF) (c : Int32) (b1 I1 : IF), k + d = n → PS p B k p1 a1 c → IV p1 a1 b1 (t + k) → XT p1 a1 (t + k) → Enc p1 b1 I1 → FL I I1 → lL_goes_439 (0, 0, 0) (23, 0, 0) (23, 1, 0) (23, 2, 0) (23, 3, 0) (23, 4, 0) (23, 5, 0) (23, 6, 0) (23, 7, 0) (23, 8, 0) (23, 9, 0) (23, 10, 0) (23, 11, 0) r1 K Q (d + 1) c (nI k) (S p I1 J) := by
  intro d
  induction d with
  | zero =>
    intro k p1 a1 c b1 I1 h g1 g2 g3 g4 g5
    have : k = n := by omega
    subst this
    unfold lL_goes_439
    refine ⟨fun _ => hK _ _ _ _ _ _ g1 g2 g3 g4 g5, fun w => absurd ?_ w⟩
    rw [hr]; exact (nI_leI (by omega) (by omega)).mpr (Nat.le_refl _)
  | succ d ih =>
    intro k p1 a1 c b1 I1 h g1 g2 g3 g4 g5
    unfold lL_goes_439
    refine ⟨fun w => ?_, fun _ => ?_⟩
    · rw [hr, nI_leI (by omega) (by omega)] at w; omega
    obtain ⟨p2, a2, r, hT⟩ := TK_ex g2.1 g2.2.2.2.2.2.2.1.ok g2.2.2.2.2.2.1 (by omega)
    refine x_tick g2 g3 g4 (by omega) hT (fun b' I' k1 k2 k3 k4 k5 => ?_)
    rw [nI_1]
    exact ih (k + 1) p2 a2 (c + r) b' I' (by omega) ⟨p1, a1, c, r, g1, hT, rfl⟩ k1 k2 k3 (g5.tr k5)
theorem pass_LX {B I' a'' b' a' : IF} {p' p'' : PP} {c c'' : Int32} {n t : Nat} (h0 : CA I B) (h1 : LI N p B) (ht : B (0, 0, 0) 8 = nI t) (hn : t + n ≤ 5000) (g1 : PS p B n p' a' c) (g2 : IV p' a' b' (t + n)) (g3 : XT p' a' (t + n)) (g4 : Enc p' b' I') (g5 : FL I I') (g6 : PS p I' n p'' a'' c'') : c'' = c ∧ LX N p'' a'' := by
  have hca : CA B I' := fun m j hm => by rw [g5 m j (by omega), h0 m j hm]
  obtain ⟨rfl, rfl, e3⟩ := PS_det hca n _ _ _ _ _ _ g1 g6
  refine ⟨rfl, ?_⟩
  obtain ⟨t', hIV, hG, hH, hN⟩ := h1
  have et : t' = t := (nI_eq (by have := hIV.2.2.2.2.2.2.2; omega) (by omega)).mp (hIV.2.2.2.2.2.1.symm.trans ht)
  subst et
  have hO := hIV.2.2.2.2.2.2.1.ok
  obtain ⟨f1, f2, f3⟩ := H_PS hIV.1 hO ht hIV.2.2.1 hG hH n _ _ _ hn g1
  have hT := (PS_ok hIV.1 hO ht n _ _ _ hn g1).2.1.2.1
  have cm : CA a' (mix a'' b') := CA.tr e3 CA_mix
  have e8 : mix a'' b' (0, 0, 0) 8 = nI (t' + n) := by rw [cm.at_ 0 0 0 8 (by decide)]; exact g2.2.2.2.2.2.1
  refine LX.m (B := mix a'' b') CA_mix (LI.join (g2.cg CA.rf (g2.2.1.cb CB_mix) (fun s => mix_hi (show 20 ≤ 21 by decide))) cm f2 (fun i hi => f3 i (by omega)) ?_) ?_ ?_
  · rw [hC_cg (fun j => PS_o (Or.inl rfl) n _ _ _ g1)]; exact hN
  · rw [e8, tn_nI (by omega)]
    exact g3.cg rfl rfl rfl rfl (fun i j _ => cm.at_ 14 _ _ _ (by decide)) (fun s j _ => cm.at_ 6 _ _ _ (by decide)) (fun s o => cm.at_ 10 _ _ _ (by decide))
  · exact (g4.cb rfl CB_mix).law (fun m j hm => PS_o (Or.inr (Or.inr (Or.inr (by omega)))) n _ _ _ g6)
end
