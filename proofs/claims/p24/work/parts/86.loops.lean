/-! The law's loops in a sending: the place, the copying, the moving up. -/
theorem x_oldestL {P : PP} {I : IF} {J : JF} {s : Nat} {y : Nat → Nat} {y3 : Int32} (hs : s < 2) (hy : ∀ k, k < 5 → I (23, 9, 0) (5 * s + k) &&& 8191 = nI (y k) ∧ y k < 2 ^ 31) {K : Int32 → Int32 → PH → Prop} {Q : Int32 → PH → Prop} (hK : ∀ at_ z, at_ < 5 → (∀ l, l < 5 → y at_ ≤ y l) → K (nI (5 * s + at_)) z (S P I J)) : ∀ (d k at_ : Nat), k + d = 5 → at_ < 5 → (∀ l, l < k → y at_ ≤ y l) → lL_publish_247 (nI (11 * s)) (23, 1, 0) (23, 6, 0) (23, 8, 0) (23, 9, 0) (23, 10, 0) (23, 11, 0) y3 K Q (d + 1) (nI (5 * s + at_)) (nI (5 * s + k)) (S P I J) := by
  have e5 : 5 * (nI (11 * s) / 11) + 5 = nI (5 * s + 5) := by rw [x_div11 hs, nIx5, show (5 : Int32) = nI 5 from rfl, nI_add]
  intro d
  induction d with
  | zero =>
    intro k at_ h1 h2 h3
    have : k = 5 := by omega
    subst this
    unfold lL_publish_247
    rw [e5]
    exact ⟨fun _ => hK at_ _ h2 h3, fun q => absurd ((nI_leI (by omega) (by omega)).mpr (Nat.le_refl _)) q⟩
  | succ d ih =>
    intro k at_ h1 h2 h3
    obtain ⟨y1, y2⟩ := hy k (by omega)
    obtain ⟨z1, z2⟩ := hy at_ h2
    unfold lL_publish_247
    rw [e5, hI_S, nI_clamp (show 5 * s + k < 2 ^ 31 by omega), nI_clamp (show 5 * s + at_ < 2 ^ 31 by omega), y1, z1, nI_leI z2 y2, nI_1]
    refine ⟨fun q => ?_, fun _ => ⟨rfl, vinL 10 rfl (by omega) (by decide), vinL 10 rfl (by omega) (by decide), fun q => ?_, fun q => ?_⟩⟩
    · rw [nI_leI (by omega) (by omega)] at q; omega
    · refine ih (k + 1) at_ (by omega) h2 (fun l hl => ?_)
      by_cases e : l = k
      · subst e; exact q
      · exact h3 l (by omega)
    · refine ih (k + 1) k (by omega) (by omega) (fun l hl => ?_)
      by_cases e : l = k
      · subst e; exact Nat.le_refl _
      · have := h3 l (by omega); omega
theorem x_copyL {P : PP} {I : IF} {J : JF} {s i c0 n t : Nat} {w : Nat → Nat} {p1 y3 : Int32} (hi : i < 10) (hc0 : c0 < 10) (hnt : n + t ≤ 6) (ht : t ≤ 4) (h8 : ∀ q, q < t → I (23, 8, 0) (4 * i + q) = nI (w q)) {K : Int32 → PH → Prop} {Q : Int32 → PH → Prop} (hK : ∀ I', (∀ N j, ¬ (N = (23, 10, 0) ∧ 6 * c0 + n ≤ j ∧ j < 6 * c0 + n + t) → I' N j = I N j) → (∀ q, q < t → I' (23, 10, 0) (6 * c0 + (n + q)) = nI (i + 16 * w q)) → K (nI t) (S P I' J)) : ∀ (d m : Nat) (I1 : IF), m + d = t → (∀ N j, ¬ (N = (23, 10, 0) ∧ 6 * c0 + n ≤ j ∧ j < 6 * c0 + n + m) → I1 N j = I N j) → (∀ q, q < m → I1 (23, 10, 0) (6 * c0 + (n + q)) = nI (i + 16 * w q)) → lL_publish_354 p1 (23, 1, 0) (23, 6, 0) (23, 8, 0) (23, 9, 0) (23, 10, 0) (23, 11, 0) y3 (nI c0) (nI n) (nI i) (nI t) K Q (d + 1) (nI m) (S P I1 J) := by
  intro d
  induction d with
  | zero =>
    intro m I1 h1 h2 h3
    have : m = t := by omega
    subst this
    unfold lL_publish_354
    exact ⟨fun _ => hK I1 h2 h3, fun q => absurd ((nI_leI (by omega) (by omega)).mpr (Nat.le_refl _)) q⟩
  | succ d ih =>
    intro m I1 h1 h2 h3
    have e6 : 6 * nI c0 = nI (6 * c0) := nI_mul 6 c0
    have e16 : ∀ x, 16 * nI x = nI (16 * x) := fun x => nI_mul 16 x
    have r8 : I1 (23, 8, 0) (4 * i + m) = nI (w m) := by rw [h2 _ _ (fun q => by have := q.1; simp at this)]; exact h8 m (by omega)
    unfold lL_publish_354
    rw [nIx4, e6, nI_add, nI_add, nI_add, nI_clamp (show 4 * i + m < 2 ^ 31 by omega), nI_clamp (show 6 * c0 + n + m < 2 ^ 31 by omega), hI_S, r8, e16, nI_add, nI_1]
    refine ⟨fun q => ?_, fun _ => ⟨rfl, vinL 40 rfl (by omega) (by decide), rfl, vinL 60 rfl (by omega) (by decide), ?_⟩⟩
    · rw [nI_leI (by omega) (by omega)] at q; omega
    · rw [forall_eq, sI_S]
      refine ih (m + 1) _ (by omega) (fun N j hn => ?_) (fun q hq => ?_)
      · rw [up_ne (fun z => hn ⟨z.1, by omega, by omega⟩)]; exact h2 N j (fun z => hn ⟨z.1, by omega, by omega⟩)
      · by_cases e : q = m
        · rw [e, show 6 * c0 + (n + m) = 6 * c0 + n + m by omega, up_same]
        · rw [up_nj (by omega)]; exact h3 q (by omega)
theorem x_moveL {P : PP} {I : IF} {J : JF} {s i c t : Nat} {p1 y3 y5 x12 : Int32} (hi : i < 10) (hc : c ≤ 4) (ht : t ≤ c) (h6 : I (23, 6, 0) i = nI c) {K : Int32 → PH → Prop} {Q : Int32 → PH → Prop} (hK : ∀ I', (∀ N j, ¬ (N = (23, 8, 0) ∧ 4 * i ≤ j ∧ j < 4 * i + 4) → I' N j = I N j) → (∀ k, k + t < c → I' (23, 8, 0) (4 * i + k) = I (23, 8, 0) (4 * i + (k + t))) → K (nI c) (S P I' J)) : ∀ (d m : Nat) (I1 : IF), m + d = c → t ≤ m → (∀ N j, ¬ (N = (23, 8, 0) ∧ 4 * i ≤ j ∧ j < 4 * i + (m - t)) → I1 N j = I N j) → (∀ k, k + t < m → I1 (23, 8, 0) (4 * i + k) = I (23, 8, 0) (4 * i + (k + t))) → lL_publish_401 p1 (23, 1, 0) (23, 6, 0) (23, 8, 0) (23, 9, 0) (23, 10, 0) (23, 11, 0) y3 y5 x12 (nI i) (nI t) K Q (d + 1) (nI m) (S P I1 J) := by
  intro d
  induction d with
  | zero =>
    intro m I1 h1 h2 h3 h4
    have : m = c := by omega
    subst this
    have r6 : I1 (23, 6, 0) i = nI m := by rw [h3 _ _ (fun q => by have := q.1; simp at this)]; exact h6
    unfold lL_publish_401
    rw [hI_S, nI_clamp (show i < 2 ^ 31 by omega), r6]
    refine ⟨rfl, vinL 10 rfl hi (by decide), fun _ => hK I1 (fun N j hn => h3 N j (fun z => hn ⟨z.1, by omega, by omega⟩)) h4, fun q => absurd ((nI_leI (by omega) (by omega)).mpr (Nat.le_refl _)) q⟩
  | succ d ih =>
    intro m I1 h1 h2 h3 h4
    have r6 : I1 (23, 6, 0) i = nI c := by rw [h3 _ _ (fun q => by have := q.1; simp at this)]; exact h6
    have r8 : I1 (23, 8, 0) (4 * i + m) = I (23, 8, 0) (4 * i + m) := h3 _ _ (fun q => by omega)
    unfold lL_publish_401
    rw [hI_S, nI_clamp (show i < 2 ^ 31 by omega), r6, nIx4, nI_add, nI_sub (show t ≤ 4 * i + m by omega), nI_clamp (show 4 * i + m < 2 ^ 31 by omega), nI_clamp (show 4 * i + m - t < 2 ^ 31 by omega), r8, nI_1]
    refine ⟨rfl, vinL 10 rfl hi (by decide), fun q => ?_, fun _ => ⟨rfl, vinL 40 rfl (by omega) (by decide), vinL 40 rfl (by omega) (by decide), ?_⟩⟩
    · rw [nI_leI (by omega) (by omega)] at q; omega
    · rw [forall_eq, sI_S]
      refine ih (m + 1) _ (by omega) (by omega) (fun N j hn => ?_) (fun k hk => ?_)
      · rw [up_ne (fun z => hn ⟨z.1, by omega, by omega⟩)]; exact h3 N j (fun z => hn ⟨z.1, by omega, by omega⟩)
      · by_cases e : k + t = m
        · rw [show 4 * i + k = 4 * i + m - t by omega, up_same, show k + t = m from e]
        · rw [up_nj (by omega)]; exact h4 k (by omega)
