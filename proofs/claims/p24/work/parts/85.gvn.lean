/-! An item's samples go into a message, several at once: the ghost's rows. -/
def GVr (b b' : IF) (i c0 n d c : Nat) : Prop :=
  (∀ N j, ¬ (N = (21, 27, 0) ∧ j = i) → ¬ ((N = (21, 28, 0) ∨ N = (21, 29, 0)) ∧ 4 * i ≤ j ∧ j < 4 * i + 4) → ¬ ((N = (21, 32, 0) ∨ N = (21, 33, 0) ∨ N = (21, 34, 0)) ∧ 10 * c0 + n ≤ j ∧ j < 10 * c0 + n + d) → b' N j = b N j) ∧ b' (21, 27, 0) i = nI (c - d) ∧ (∀ k, k + d < c → b' (21, 28, 0) (4 * i + k) = b (21, 28, 0) (4 * i + (k + d)) ∧ b' (21, 29, 0) (4 * i + k) = b (21, 29, 0) (4 * i + (k + d))) ∧ ∀ q, q < d → b' (21, 33, 0) (10 * c0 + (n + q)) = nI i ∧ b' (21, 32, 0) (10 * c0 + (n + q)) = b (21, 28, 0) (4 * i + q) ∧ b' (21, 34, 0) (10 * c0 + (n + q)) = b (21, 29, 0) (4 * i + q)
theorem GVr_1 {p : PP} {a b : IF} {i s at_ c n o K : Nat} (hM : MXs p a b s at_ o K n) (hi : i < gT p) (hc : a (16, i, 0) 4 = nI c) (c1 : 1 ≤ c) (c4 : c ≤ 4) : GVr b (gvR a b i s o at_ n) i (5 * s + at_) n 1 c := by
  obtain ⟨-, -, -, -, -, -, -, -, -, -, -, -, g13, g14⟩ := hM.2.2.2.2.1 i hi
  have t16 : tn (a (16, i, 0) 4) = c := by rw [hc, tn_nI (by omega)]
  refine ⟨fun N j h1 h2 h3 => ?_, ?_, fun k hk => ?_, fun q hq => ?_⟩
  · refine gvR_o ?_ ?_ ?_
    · by_cases e : N = (21, 27, 0)
      · exact Or.inr (fun w => h1 ⟨e, w⟩)
      · exact Or.inl e
    · by_cases e : N = (21, 28, 0) ∨ N = (21, 29, 0)
      · exact Or.inr (fun w => h2 ⟨e, w⟩)
      · exact Or.inl ⟨fun w => e (Or.inl w), fun w => e (Or.inr w)⟩
    · by_cases e : N = (21, 32, 0) ∨ N = (21, 33, 0) ∨ N = (21, 34, 0)
      · exact Or.inr (fun w => h3 ⟨e, by omega, by omega⟩)
      · exact Or.inl ⟨fun w => e (Or.inl w), fun w => e (Or.inr (Or.inl w)), fun w => e (Or.inr (Or.inr w))⟩
  · rw [gvR, setR_c, t16]
  · have e1 : gvR a b i s o at_ n (21, 28, 0) (4 * i + k) = sh (fun k => a (17, i, 0) k) (tn (a (16, i, 0) 4)) k := by rw [gvR, setR_v (by omega)]
    have e2 : gvR a b i s o at_ n (21, 29, 0) (4 * i + k) = sh (fun k => a (18, i, 0) k) (tn (a (16, i, 0) 4)) k := by rw [gvR, setR_m (by omega)]
    rw [e1, e2, t16, g13 (k + 1) (by omega), g14 (k + 1) (by omega)]
    unfold sh
    rw [if_pos hk, if_pos hk]; exact ⟨rfl, rfl⟩
  · have : q = 0 := by omega
    subst this
    have e28 : b (21, 28, 0) (4 * i + 0) = a (17, i, 0) 0 := g13 0 (by decide)
    have e29 : b (21, 29, 0) (4 * i + 0) = a (18, i, 0) 0 := g14 0 (by decide)
    rw [e28, e29]
    refine ⟨?_, ?_, ?_⟩
    · rw [gvR, setR_on (by simp) (by simp) (by simp), up_ne (by simp), show 10 * (5 * s + at_) + (n + 0) = 10 * (5 * s + at_) + n from rfl, up_same]
    · rw [gvR, setR_on (by simp) (by simp) (by simp), up_ne (by simp), up_ne (by simp), show 10 * (5 * s + at_) + (n + 0) = 10 * (5 * s + at_) + n from rfl, up_same]
    · rw [gvR, setR_on (by simp) (by simp) (by simp), show 10 * (5 * s + at_) + (n + 0) = 10 * (5 * s + at_) + n from rfl, up_same]
theorem MXs_gvN {p : PP} {s at_ o K i : Nat} (hs : s < gS p) (ho : o < gM p s) (hat : at_ < 5) (hi : i < gT p) (hK : K ≤ gM p s) (hP : ∀ q, q < K → gP p s q ≠ o) : ∀ (d : Nat) (a b : IF) (n c : Nat), WF p a → MXs p a b s at_ o K n → a (16, i, 0) 4 = nI c → d ≤ c → c ≤ 4 → n + d ≤ 10 → ∃ b', MXs p (gvN i s o d a) b' s at_ o K (n + d) ∧ FR b b' ∧ GVr b b' i (5 * s + at_) n d c := by
  intro d
  induction d with
  | zero =>
    intro a b n c hW hM hc h1 h2 h3
    refine ⟨b, hM, FR.rf, fun _ _ _ _ _ => rfl, ?_, fun _ _ => ⟨rfl, rfl⟩, fun q hq => by omega⟩
    rw [(hM.2.2.2.2.1 i hi).2.2.2.2.2.2.2.2.2.2.2.1, hc]; rfl
  | succ d ih =>
    intro a b n c hW hM hc h1 h2 h3
    have t16 : tn (a (16, i, 0) 4) = c := by rw [hc, tn_nI (by omega)]
    have hn := hM.2.2.2.1.2.2.2.1
    have hM1 := MXs_gv hW hM hi hs hat (by omega) hc (by omega) h2 hK hP
    obtain ⟨g1, g2, g3, g4⟩ := GVr_1 (o := o) hM hi hc (by omega) h2
    obtain ⟨b', q1, q2, f1, f2, f3, f4⟩ := ih (gv1 a i s o) (gvR a b i s o at_ n) (n + 1) (c - 1) (WF_gv1 hW hi hs ho hc (by omega) h2 hn (by omega)) hM1 (by rw [gv1_16, t16]) (by omega) (by omega) (by omega)
    have nk : ∀ (k k' : Nat), k ≠ k' → ((21, k, 0) : Nm) ≠ (21, k', 0) := fun k k' h => n21 h
    refine ⟨b', by rw [show n + (d + 1) = n + 1 + d by omega]; exact q1, FR_gvR.tr q2, fun N j h1 h2 h3 => ?_, ?_, fun k hk => ?_, fun q hq => ?_⟩
    · rw [f1 N j h1 h2 (fun w => h3 ⟨w.1, by omega, by omega⟩), g1 N j h1 h2 (fun w => h3 ⟨w.1, by omega, by omega⟩)]
    · rw [f2]; congr 1; omega
    · obtain ⟨a1, a2⟩ := f3 k (by omega)
      obtain ⟨b1, b2⟩ := g3 (k + d) (by omega)
      rw [a1, a2, b1, b2, show k + d + 1 = k + (d + 1) by omega]; exact ⟨rfl, rfl⟩
    · by_cases e : q = 0
      · subst e
        obtain ⟨a1, a2, a3⟩ := g4 0 (by omega)
        rw [← a1, ← a2, ← a3]
        refine ⟨?_, ?_, ?_⟩
        · exact f1 _ _ (fun w => nk _ _ (by decide) w.1) (fun w => by rcases w.1 with w | w <;> exact nk _ _ (by decide) w) (fun w => by have := w.2; omega)
        · exact f1 _ _ (fun w => nk _ _ (by decide) w.1) (fun w => by rcases w.1 with w | w <;> exact nk _ _ (by decide) w) (fun w => by have := w.2; omega)
        · exact f1 _ _ (fun w => nk _ _ (by decide) w.1) (fun w => by rcases w.1 with w | w <;> exact nk _ _ (by decide) w) (fun w => by have := w.2; omega)
      · obtain ⟨a1, a2, a3⟩ := f4 (q - 1) (by omega)
        rw [show n + 1 + (q - 1) = n + q by omega] at a1 a2 a3
        obtain ⟨b1, b2⟩ := g3 (q - 1) (by omega)
        rw [a1, a2, a3, b1, b2, show q - 1 + 1 = q by omega]; exact ⟨rfl, rfl, rfl⟩
