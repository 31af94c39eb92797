/-! The call pass. -/
theorem TIs_samL {p : PP} {t : Nat} (ht : t + 1 ≤ 5000) : ∀ (f i : Nat) (a : IF), i + f = gT p → TIs p a t i → TIs p (samL p a i f) t (gT p) := by
  intro f
  induction f with
  | zero => intro i a hi h; rw [show gT p = i by omega]; exact h
  | succ f ih => intro i a hi h; exact ih (i + 1) _ (by omega) (TIs_samA ht (by omega) h)
theorem TI_Tr {p0 : PP} {a0 : IF} {T : Nat} (hW : WF p0 a0) (hO : OK p0) (h2 : ∀ i, i < gT p0 → TI p0 a0 i T) : ∀ (t : Nat) (p : PP) (a : IF) (c : Int32), t ≤ gS p0 → Tr p0 a0 t p a c → ∀ i, i < gT p0 → TI p a i T := by
  intro t
  induction t with
  | zero => intro p a c _ h; obtain ⟨rfl, rfl, rfl⟩ := h; exact h2
  | succ t ih =>
    intro p a c ht h
    obtain ⟨p1, a1, c1, r, g1, g2, g3⟩ := h
    obtain ⟨w, s⟩ := Tr_ok hW hO t p1 a1 c1 (by omega) g1
    obtain ⟨-, s2, -⟩ := PT_ok w (by rw [s.1]; exact hO t (by omega)) g2
    exact fun i hi => PT_TI s2.2.2.2 g2 (ih p1 a1 c1 (by omega) g1 i hi)
theorem TI_TK {p p' : PP} {a a' : IF} {c : Int32} {t : Nat} (hW : WF p a) (hO : OK p) (hnow : a (0, 0, 0) 8 = nI t) (ht : t + 1 ≤ 5000) (hT : ∀ i, i < gT p → TI p a i t) (h : TK p a p' a' c) : ∀ i, i < gT p → TI p' a' i (t + 1) := by
  have hw : WF p (up a (0, 0, 0) 8 (a (0, 0, 0) 8 + 1)) := WF_now hW (by rw [hnow, nI_1]; exact bn_nI (by omega) (by omega))
  have uo : ∀ r k z j, r ≠ 0 → up a (0, 0, 0) 8 (a (0, 0, 0) 8 + 1) (r, k, z) j = a (r, k, z) j := fun r k z j g => up_ne (fun q => by have := q.1; simp only [Prod.mk.injEq] at this; exact g this.1)
  have hT2 : TIs p (up a (0, 0, 0) 8 (a (0, 0, 0) 8 + 1)) t 0 := by
    intro k hk
    rw [if_neg (by omega)]
    have g := hT k hk
    unfold TI at *
    simp only [uo 6 _ _ _ (by decide), uo 15 _ _ _ (by decide), uo 14 _ _ _ (by decide)]
    exact g
  have h3 := TIs_samL ht (gT p) 0 _ (by omega) hT2
  exact TI_Tr (WF_samL (gT p) 0 _ hw (by omega)) hO (fun i hi => by have := h3 i hi; rw [if_pos hi] at this; exact this) (gS p) p' a' c (Nat.le_refl _) h
theorem Tr_o {p0 : PP} {a0 : IF} {n : Nm} {j : Nat} (hn : n.1 = 4 ∨ n.1 = 5 ∨ n.1 = 1 ∨ 20 ≤ n.1) : ∀ (t : Nat) (p : PP) (a : IF) (c : Int32), Tr p0 a0 t p a c → a n j = a0 n j := by
  intro t
  induction t with
  | zero => intro p a c h; obtain ⟨rfl, rfl, rfl⟩ := h; rfl
  | succ t ih =>
    intro p a c h
    obtain ⟨p1, a1, c1, r, g1, g2, g3⟩ := h
    rw [← ih p1 a1 c1 g1]
    exact (PT_fr g2).1 n j (fun q => by rw [q.1] at hn; simp at hn) (fun q => by rw [q.1] at hn; simp at hn) (fun q => by rw [q.1] at hn; simp at hn) (fun q => by omega) (fun q => by omega)
theorem TK_o {p p' : PP} {a a' : IF} {c : Int32} {n : Nm} {j : Nat} (hn : n.1 = 4 ∨ n.1 = 5 ∨ n.1 = 1 ∨ 20 ≤ n.1) (h : TK p a p' a' c) : a' n j = a n j := by
  rw [Tr_o hn _ _ _ _ h, samL_o (by omega), up_ne (fun q => by rw [q.1] at hn; simp at hn)]
theorem PS_o {p0 : PP} {a0 : IF} {n : Nm} {j : Nat} (hn : n.1 = 4 ∨ n.1 = 5 ∨ n.1 = 1 ∨ 20 ≤ n.1) : ∀ (k : Nat) (p : PP) (a : IF) (c : Int32), PS p0 a0 k p a c → a n j = a0 n j := by
  intro k
  induction k with
  | zero => intro p a c h; obtain ⟨rfl, rfl, rfl⟩ := h; rfl
  | succ k ih =>
    intro p a c h
    obtain ⟨p1, a1, c1, r, h1, h2, h3⟩ := h
    rw [TK_o hn h2, ih p1 a1 c1 h1]
theorem H_PS {p0 : PP} {a0 : IF} {t0 : Nat} (hW : WF p0 a0) (hO : OK p0) (ht : a0 (0, 0, 0) 8 = nI t0) (hT : ∀ i, i < gT p0 → TI p0 a0 i t0) (hG : HG a0 t0) (hH : ∀ i, i < gT p0 → HI p0 a0 i t0) : ∀ (k : Nat) (p : PP) (a : IF) (c : Int32), t0 + k ≤ 5000 → PS p0 a0 k p a c → (∀ i, i < gT p0 → TI p a i (t0 + k)) ∧ HG a (t0 + k) ∧ ∀ i, i < gT p0 → HI p a i (t0 + k) := by
  intro k
  induction k with
  | zero => intro p a c _ h; obtain ⟨rfl, rfl, rfl⟩ := h; exact ⟨hT, hG, hH⟩
  | succ k ih =>
    intro p a c hk h
    obtain ⟨p1, a1, c1, r, h1, h2, h3⟩ := h
    obtain ⟨g1, g2, g3⟩ := PS_ok hW hO ht k p1 a1 c1 (by omega) h1
    obtain ⟨f1, f2, f3⟩ := ih p1 a1 c1 (by omega) h1
    have hO1 : OK p1 := fun t q => by rw [g2.1] at q ⊢; rw [g2.2.2.1]; exact hO t q
    have e := g2.2.1
    obtain ⟨k2, k3⟩ := H_TK g1 hO1 g3 (by omega) (fun i hi => f1 i (by omega)) f2 (fun i hi => f3 i (by omega)) h2
    exact ⟨fun i hi => TI_TK g1 hO1 g3 (by omega) (fun i hi => f1 i (by omega)) h2 i (by omega), k2, fun i hi => k3 i (by omega)⟩
theorem c_rng {x : Int32} {lo hi : Nat} (hl : hi < 2 ^ 31) (hlo : lo ≤ hi) {σ : PH} {Q : PH → Prop} {X : String → PH → Prop} (h1 : ∀ k, lo ≤ k → k ≤ hi → x = nI k → Q σ) (h2 : (∀ k, lo ≤ k → k ≤ hi → x ≠ nI k) → X xIA σ) : w6_checkRange x (nI lo) (nI hi) σ Q X := by
  unfold w6_checkRange
  refine ⟨fun q => h2 (fun k k1 k2 e => ?_), fun q => ⟨fun w => ?_, fun w => h2 (fun k k1 k2 e => ?_)⟩⟩
  · rw [e, nI_ltI (by omega) (by omega)] at q; omega
  · have hx : ¬ x < 0 := by
      intro z
      rw [Int32.lt_iff_toInt_lt] at z q
      rw [nI_toInt (by omega)] at q
      have : (0 : Int32).toInt = 0 := rfl
      omega
    obtain ⟨k, hk, rfl⟩ := nI_of hx
    rw [nI_ltI hk (by omega)] at q
    rw [nI_leI hk (by omega)] at w
    exact h1 k (by omega) w rfl
  · rw [e, nI_leI (by omega) (by omega)] at w; omega