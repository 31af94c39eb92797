/-! What the law tells, is told. -/
section
variable {N : Nat} {p : PP} {I : IF} {J : JF}
theorem LV.u {t : Nat} (h : LV N p I t) : ∀ s q r, s < gS p → q < tn (I (6, s, 0) 9) → r < tn (I (6, s, 0) 9) → I (10, s, gP p s q) 3 = I (10, s, gP p s r) 3 → q = r := by
  intro s q r hs hq hr e
  have h5 := h.2.2.2.1
  exact uq_of (B := t) (by omega) (h.2.2.2.2.2.2.2.2.2.2.2.2.2 s hs) hq hr e
/-- the three that look into a message -/
theorem at_in {t s q j : Nat} {x : Int32} {Q : Int32 → PH → Prop} (h : LV N p I t) (hs : s < gS p) (l : I (6, s, 0) 7 ≠ 0) (hq : q < tn (I (6, s, 0) 9)) (e : I (10, s, gP p s q) 3 = x) (hj : j < tn (I (10, s, gP p s q) 4)) (hj9 : j < 2 ^ 31) : (Q (I (11, s, gP p s q) j) (S p I J) → wL_valueAt (0, 0, 0) (nI s) x (nI j) (S p I J) Q) ∧ (Q (I (12, s, gP p s q) j) (S p I J) → wL_itemAt (0, 0, 0) (nI s) x (nI j) (S p I J) Q) ∧ (Q (I (13, s, gP p s q) j) (S p I J) → wL_isMarked (0, 0, 0) (nI s) x (nI j) (S p I J) Q) := by
  have hW := h.1
  have h4 := hW.1.2.1
  have key : ∀ s' q' n', s' < gS p → nI s = nI s' → q' < tn (I (6, s', 0) 9) → I (10, s', gP p s' q') 3 = x → nI j = nI n' → n' < tn (I (10, s', gP p s' q') 4) → s' = s ∧ q' = q ∧ n' = j := by
    intro s' q' n' hs' es hq' e' ej hn'
    have : s = s' := (nI_eq (by omega) (by omega)).mp es
    subst this
    have : q' = q := h.u s q' q hs hq' hq (by rw [e', e])
    subst this
    have h10 := (bn_tn ((hW.2.2 s hs).2.2.2.2.2.2.2.2.1 _ ((hW.2.2 s hs).2.2.2.2.2.2.2.1 q' (by
      obtain ⟨-, -, w⟩ := bn_tn (hW.2.2 s hs).2.2.2.2.2.1 (by have := (hW.2.2 s hs).2.2.2.2.2.2.1; omega)
      omega))) (by decide)).2.2
    exact ⟨rfl, rfl, ((nI_eq hj9 (by omega)).mp ej).symm⟩
  have no2 : ¬ (∀ s', s' < gS p → nI s = nI s' → I (6, s', 0) 7 = 0) := fun w => l (w s hs rfl)
  refine ⟨fun g => w_valueAt hW h.u (fun s' q' n' a1 a2 _ a4 a5 a6 a7 => ?_) (fun w => absurd w no2) (fun s' a1 a2 _ a4 => ?_), fun g => w_itemAt hW h.u (fun s' q' n' a1 a2 _ a4 a5 a6 a7 => ?_) (fun w => absurd w no2) (fun s' a1 a2 _ a4 => ?_), fun g => w_isMarked hW h.u (fun s' q' n' a1 a2 _ a4 a5 a6 a7 => ?_) (fun w => absurd w no2) (fun s' a1 a2 _ a4 => ?_)⟩
  all_goals first
    | (obtain ⟨rfl, rfl, rfl⟩ := key s' q' n' a1 a2 a4 a5 a6 a7; exact g)
    | (have : s = s' := (nI_eq (by omega) (by omega)).mp a2
       subst this
       exact absurd rfl (a4 q hq e j hj))
theorem at_no {t s : Nat} {x z : Int32} {Q : Int32 → PH → Prop} (h : LV N p I t) (hs : s < gS p) (l : I (6, s, 0) 7 ≠ 0) (hn : ∀ q n, q < tn (I (6, s, 0) 9) → I (10, s, gP p s q) 3 = x → n < tn (I (10, s, gP p s q) 4) → n < 11 → z ≠ nI n) (g : Q (-7300) (S p I J)) : wL_valueAt (0, 0, 0) (nI s) x z (S p I J) Q ∧ wL_itemAt (0, 0, 0) (nI s) x z (S p I J) Q ∧ wL_isMarked (0, 0, 0) (nI s) x z (S p I J) Q := by
  have hW := h.1
  have h4 := hW.1.2.1
  have no2 : ¬ (∀ s', s' < gS p → nI s = nI s' → I (6, s', 0) 7 = 0) := fun w => l (w s hs rfl)
  have no1 : ∀ s' q n, s' < gS p → nI s = nI s' → q < tn (I (6, s', 0) 9) → I (10, s', gP p s' q) 3 = x → z = nI n → n < tn (I (10, s', gP p s' q) 4) → False := by
    intro s' q n a1 a2 a4 a5 a6 a7
    have : s = s' := (nI_eq (by omega) (by omega)).mp a2
    subst this
    have h10 := (bn_tn ((hW.2.2 s hs).2.2.2.2.2.2.2.2.1 _ ((hW.2.2 s hs).2.2.2.2.2.2.2.1 q (by
      obtain ⟨-, -, w⟩ := bn_tn (hW.2.2 s hs).2.2.2.2.2.1 (by have := (hW.2.2 s hs).2.2.2.2.2.2.1; omega)
      omega))) (by decide)).2.2
    exact hn q n a4 a5 a7 (by omega) a6
  exact ⟨w_valueAt hW h.u (fun s' q' n' a1 a2 _ a4 a5 a6 a7 => (no1 s' q' n' a1 a2 a4 a5 a6 a7).elim) (fun w => absurd w no2) (fun _ _ _ _ _ => g), w_itemAt hW h.u (fun s' q' n' a1 a2 _ a4 a5 a6 a7 => (no1 s' q' n' a1 a2 a4 a5 a6 a7).elim) (fun w => absurd w no2) (fun _ _ _ _ _ => g), w_isMarked hW h.u (fun s' q' n' a1 a2 _ a4 a5 a6 a7 => (no1 s' q' n' a1 a2 a4 a5 a6 a7).elim) (fun w => absurd w no2) (fun _ _ _ _ _ => g)⟩
theorem at_cl {t : Nat} {x y z : Int32} {Q : Int32 → PH → Prop} (h : LV N p I t) (hn : ∀ s, s < gS p → x = nI s → I (6, s, 0) 7 = 0) (g : Q (-7100) (S p I J)) : wL_valueAt (0, 0, 0) x y z (S p I J) Q ∧ wL_itemAt (0, 0, 0) x y z (S p I J) Q ∧ wL_isMarked (0, 0, 0) x y z (S p I J) Q :=
  ⟨w_valueAt h.1 h.u (fun s _ _ a1 a2 a3 _ _ _ _ => absurd (hn s a1 a2) a3) (fun _ => g) (fun s a1 a2 a3 _ => absurd (hn s a1 a2) a3), w_itemAt h.1 h.u (fun s _ _ a1 a2 a3 _ _ _ _ => absurd (hn s a1 a2) a3) (fun _ => g) (fun s a1 a2 a3 _ => absurd (hn s a1 a2) a3), w_isMarked h.1 h.u (fun s _ _ a1 a2 a3 _ _ _ _ => absurd (hn s a1 a2) a3) (fun _ => g) (fun s a1 a2 a3 _ => absurd (hn s a1 a2) a3)⟩
theorem x_told307 {t s q k n : Nat} {x : Int32} {K Q : Int32 → PH → Prop} (h : LV N p I t) (hs : s < gS p) (l : I (6, s, 0) 7 ≠ 0) (hq : q < tn (I (6, s, 0) 9)) (e : I (10, s, gP p s q) 3 = x) (hk : k < 5) (e4 : I (10, s, gP p s q) 4 = nI n) (n6 : n ≤ 6) (he : ∀ j, j < n → I (23, 10, 0) (6 * (5 * s + k) + j) >>> (5 &&& 31) = I (11, s, gP p s q) j ∧ I (23, 10, 0) (6 * (5 * s + k) + j) &&& 15 = I (12, s, gP p s q) j ∧ (I (23, 10, 0) (6 * (5 * s + k) + j) >>> (4 &&& 31)) &&& 1 = I (13, s, gP p s q) j) (hK : ∀ y, K y (S p I J)) : ∀ d j, j + d = n → lL_isTold_307 (0, 0, 0) (23, 1, 0) (23, 2, 0) (23, 5, 0) (23, 6, 0) (23, 9, 0) (23, 10, 0) (23, 11, 0) (nI s) x (nI (5 * s + k)) (nI n) K Q (d + 1) (nI j) (S p I J) := by
  have g2 := h.2.1
  intro d
  induction d with
  | zero =>
    intro j hj
    unfold lL_isTold_307
    exact ⟨fun _ => hK _, fun w => absurd ((nI_leI (by omega) (by omega)).mpr (by omega)) w⟩
  | succ d ih =>
    intro j hj
    have ix : 6 * nI (5 * s + k) + nI j = nI (6 * (5 * s + k) + j) := by rw [show 6 * nI (5 * s + k) = nI (6 * (5 * s + k)) from nI_mul 6 _]; exact nI_add _ _
    obtain ⟨y1, y2, y3⟩ := he j (by omega)
    have hj4 : j < tn (I (10, s, gP p s q) 4) := by rw [e4, tn_nI (by omega)]; omega
    unfold lL_isTold_307
    rw [ix, hI_S, nI_clamp (show 6 * (5 * s + k) + j < 2 ^ 31 by omega)]
    refine ⟨fun w => ?_, fun _ => ⟨rfl, vinL 60 rfl (by omega) (by decide), ?_⟩⟩
    · rw [nI_leI (by omega) (by omega)] at w; omega
    rw [forall_eq]
    refine ⟨Nat.succ_pos _, (at_in h hs l hq e hj4 (by omega)).1 ⟨fun w => absurd y1.symm w, fun _ => (at_in h hs l hq e hj4 (by omega)).2.1 ⟨fun w => absurd y2.symm w, fun _ => (at_in h hs l hq e hj4 (by omega)).2.2 ⟨fun _ => ?_, fun w => absurd y3.symm w⟩⟩⟩⟩
    rw [nI_1]
    exact ih (j + 1) (by omega)
theorem its_neg : ∀ ln, ln < 9 → ∀ k, k < 9 → ln + k < 9 → ¬ (nI ln + 2 ≤ nI ln - 9 + nI k) := by decide +kernel
theorem its_le {ln k : Nat} (h : ln ≤ 5000) (hk : k ≤ 11) : nI ln + 2 ≤ nI ln - 9 + nI k ↔ k = 11 := by
  by_cases g : 9 ≤ ln + k
  · have e : nI ln - 9 + nI k = nI (ln + k - 9) := by
      rw [← nI_sub g, show nI (ln + k) = nI ln + nI k from (nI_add _ _).symm, show (9 : Int32) = nI 9 from rfl]
      rw [Int32.sub_eq_add_neg, Int32.sub_eq_add_neg, Int32.add_assoc, Int32.add_assoc, Int32.add_comm (-nI 9)]
    rw [e, show nI ln + 2 = nI (ln + 2) from nI_add _ 2, nI_leI (by omega) (by omega)]; omega
  · constructor
    · intro w; exact absurd w (its_neg ln (by omega) k (by omega) (by omega))
    · omega
theorem x_told189 {t s ln : Nat} {x5 : Int32} {K Q : Int32 → PH → Prop} (hX : LX N p I) (h : LV N p I t) (hs : s < gS p) (l : I (6, s, 0) 7 ≠ 0) (hl : I (6, s, 0) 10 = nI ln) (l5 : ln ≤ 5000) (hK : ∀ y, K y (S p I J)) : ∀ d k, k + d = 11 → lL_isTold_189 (0, 0, 0) (23, 1, 0) (23, 2, 0) (23, 5, 0) (23, 6, 0) (23, 9, 0) (23, 10, 0) (23, 11, 0) (nI s) x5 K Q (d + 1) (nI ln - 9 + nI k) (S p I J) := by
  have g2 := h.2.1
  have h4 := h.1.1.2.1
  have ix : 11 * nI s + 9 = nI (11 * s + 9) := by rw [show 11 * nI s = nI (11 * s) from nI_mul 11 _]; exact nI_add _ 9
  have e9 : I (23, 1, 0) (11 * s + 9) = nI ln := by rw [(h.2.2.2.2.2.2.2.1 s hs).2.1]; exact hl
  intro d
  induction d with
  | zero =>
    intro k hk
    unfold lL_isTold_189
    rw [ix, hI_S, nI_clamp (show 11 * s + 9 < 2 ^ 31 by omega), e9, its_le l5 (by omega)]
    exact ⟨rfl, vinL 22 rfl (by omega) (by decide), fun _ => hK _, fun w => absurd (by omega) w⟩
  | succ d ih =>
    intro k hk
    have nx : nI ln - 9 + nI k + 1 = nI ln - 9 + nI (k + 1) := by rw [Int32.add_assoc, nI_1]
    generalize hx : nI ln - 9 + nI k = x
    unfold lL_isTold_189
    rw [ix, hI_S, nI_clamp (show 11 * s + 9 < 2 ^ 31 by omega), e9, ← hx, its_le l5 (by omega), nx, hx]
    refine ⟨rfl, vinL 22 rfl (by omega) (by decide), fun w => by omega, fun _ => ?_⟩
    have IH := ih (k + 1) (by omega)
    generalize hR : lL_isTold_189 (0, 0, 0) (23, 1, 0) (23, 2, 0) (23, 5, 0) (23, 6, 0) (23, 9, 0) (23, 10, 0) (23, 11, 0) (nI s) x5 K Q (d + 1) (nI ln - 9 + nI (k + 1)) = R at IH ⊢
    refine x_kept hX hs (fun q k' n hq e hk' z ek uk e4 n6 em he => ?_) (fun hno => ?_)
    · have z0 : ¬ nI (5 * s + k') < 0 := by rw [nI_lt0 (by omega)]; exact fun w => w
      have n31 : n < 2 ^ 31 := by omega
      have cn : tn (I (10, s, gP p s q) 4) = n := by rw [e4, tn_nI n31]
      have no : ∀ z, (∀ m, m < n → z ≠ nI m) → ∀ q' m, q' < tn (I (6, s, 0) 9) → I (10, s, gP p s q') 3 = x → m < tn (I (10, s, gP p s q') 4) → m < 11 → z ≠ nI m := by
        intro z hz q' m a1 a2 a3 a4
        have : q' = q := h.u s q' q hs a1 hq (by rw [a2, e])
        subst this
        rw [cn] at a3
        exact hz m a3
      have nn := no (nI n) (fun m hm w => by have := (nI_eq n31 (by omega)).mp w; omega)
      have nm := no (-1) (fun m hm w => nI_m1 (q := m) (by omega) w.symm)
      refine jV_i (fun y => y = nI n) (fun x6 h6 => ?_) (fun K5 h5 => ⟨fun w => absurd w z0, fun _ => ⟨rfl, vinL 10 rfl (by omega) (by decide), h5 _ ?_⟩⟩)
      · subst h6
        refine ⟨Nat.succ_pos _, w_size h.1 (fun s' q' a1 a2 _ a4 a5 => ?_) (fun s' a1 a2 _ a4 => ?_) (fun w => absurd (w s hs rfl) l)⟩
        · have : s = s' := (nI_eq (by omega) (by omega)).mp a2
          subst this
          have : q' = q := h.u s q' q hs a4 hq (by rw [a5, e])
          subst this
          refine jV_i (fun y => y = nI n) (fun x7 h7 => ?_) (fun K6 h6 => ⟨fun w => absurd w z0, fun _ => h6 _ rfl⟩)
          subst h7
          refine ⟨fun w => absurd e4 w, fun _ => (at_no h hs l nn ?_).1⟩
          refine ⟨fun w => absurd rfl w, fun _ => (at_no h hs l nm ?_).2.1⟩
          refine ⟨fun w => absurd rfl w, fun _ => (at_no h hs l nn ?_).2.2⟩
          refine ⟨fun _ => ⟨n + 1, by omega, ?_⟩, fun w => absurd rfl w⟩
          exact x_told307 h hs l hq e hk' e4 n6 he (fun _ => IH) n 0 (by omega)
        · have : s = s' := (nI_eq (by omega) (by omega)).mp a2
          subst this
          exact absurd e (a4 q hq)
      · rw [hI_S, nI_clamp (show 5 * s + k' < 2 ^ 31 by omega)]; exact em
    · have z0 : (-1 : Int32) < 0 := by decide
      have no : ∀ z, ∀ q' m, q' < tn (I (6, s, 0) 9) → I (10, s, gP p s q') 3 = x → m < tn (I (10, s, gP p s q') 4) → m < 11 → z ≠ nI m := fun z q' m a1 a2 => absurd a2 (hno q' a1)
      refine jV_i (fun y => y = 0) (fun x6 h6 => ?_) (fun K5 h5 => ⟨fun _ => h5 _ rfl, fun w => absurd z0 w⟩)
      subst h6
      refine ⟨Nat.succ_pos _, w_size h.1 (fun s' q' a1 a2 _ a4 a5 => ?_) (fun s' a1 a2 _ a4 => ?_) (fun w => absurd (w s hs rfl) l)⟩
      · have : s = s' := (nI_eq (by omega) (by omega)).mp a2
        subst this
        exact absurd a5 (hno q' a4)
      · refine jV_i (fun y => y = -1) (fun x7 h7 => ?_) (fun K6 h6 => ⟨fun _ => h6 _ rfl, fun w => absurd z0 w⟩)
        subst h7
        refine ⟨fun w => absurd rfl w, fun _ => (at_no h hs l (no 0) ?_).1⟩
        refine ⟨fun w => absurd rfl w, fun _ => (at_no h hs l (no (-1)) ?_).2.1⟩
        refine ⟨fun w => absurd rfl w, fun _ => (at_no h hs l (no 0) ?_).2.2⟩
        refine ⟨fun _ => ⟨1, by omega, ?_⟩, fun w => absurd rfl w⟩
        unfold lL_isTold_307
        exact ⟨fun _ => IH, fun w => absurd (by decide) w⟩
end
