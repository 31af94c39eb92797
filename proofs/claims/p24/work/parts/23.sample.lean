/-! What holds of the class's half at all times; the class's sampling. -/
def tn (x : Int32) : Nat := x.toNatClampNeg
/-- a number of this range -/
def bn (x : Int32) (lo hi : Nat) : Prop := ∃ k, lo ≤ k ∧ k ≤ hi ∧ x = nI k
theorem bn_nI {k lo hi : Nat} (h1 : lo ≤ k) (h2 : k ≤ hi) : bn (nI k) lo hi := ⟨k, h1, h2, rfl⟩
theorem bn_tn {x : Int32} {lo hi : Nat} (h : bn x lo hi) (hh : hi < 2 ^ 31) : x = nI (tn x) ∧ lo ≤ tn x ∧ tn x ≤ hi := by
  obtain ⟨k, h1, h2, rfl⟩ := h
  rw [tn, nI_clamp (by omega)]; exact ⟨rfl, h1, h2⟩
/-- an item: number, node, band, last value; its timer; its queue -/
def IS (a : IF) (i : Nat) : Prop :=
  a (14, i, 0) 0 = nI i ∧ bn (a (14, i, 0) 2) 0 9 ∧ bn (a (14, i, 0) 3) 0 1000 ∧ bn (a (14, i, 0) 9) 0 1000 ∧ zb (a (14, i, 0) 6) ∧ bn (a (15, i, 0) 0) 1 20 ∧
  ∃ sz c : Nat, a (16, i, 0) 0 = nI sz ∧ 1 ≤ sz ∧ sz ≤ 4 ∧ a (16, i, 0) 4 = nI c ∧ c ≤ sz ∧ ∀ k, zb (a (18, i, 0) k)
/-- a subscription -/
def SS (p : PP) (a : IF) (s : Nat) : Prop :=
  zb (a (6, s, 0) 7) ∧ bn (a (7, s, 0) 0) 1 20 ∧ bn (a (6, s, 0) 3) 0 9 ∧ bn (a (6, s, 0) 4) 1 10 ∧ a (6, s, 0) 8 = nI (cnt (gW p) s (gT p)) ∧ bn (a (6, s, 0) 9) 0 (gM p s) ∧ gM p s ≤ 5 ∧
  (∀ q, q < gM p s → gP p s q < gM p s) ∧ (∀ o, o < gM p s → bn (a (10, s, o) 4) 0 10) ∧ (∀ q r, q < gM p s → r < gM p s → gP p s q = gP p s r → q = r) ∧ (∀ o, o < gM p s → ∀ k, zb (a (13, s, o) k))
def W1 (p : PP) (a : IF) : Prop :=
  a (0, 0, 0) 5 = nI (gS p) ∧ gS p ≤ 4 ∧ a (0, 0, 0) 6 = nI (gT p) ∧ gT p ≤ 16 ∧ (∀ k, k < 10 → bn (a (1, 0, 0) k) 0 1000) ∧ (∀ i, i < gT p → gW p i < gS p) ∧ bn (a (0, 0, 0) 7) 0 10 ∧ bn (a (0, 0, 0) 8) 0 5000 ∧ bn (a (4, 0, 0) 3) 0 512
def WF (p : PP) (a : IF) : Prop := W1 p a ∧ (∀ i, i < gT p → IS a i) ∧ ∀ s, s < gS p → SS p a s
theorem IS.cg {a a' : IF} {i : Nat} (h : ∀ r j, a' (r, i, 0) j = a (r, i, 0) j) (g : IS a i) : IS a' i := by
  unfold IS at *
  simp only [h]
  exact g
def samA (p : PP) (a : IF) (i : Nat) : IF :=
  if a (6, gW p i, 0) 7 = 0 then a else
  if a (15, i, 0) 1 - 1 ≤ 0 then
    (if far (a (1, 0, 0) (tn (a (14, i, 0) 2))) (a (14, i, 0) 9) (a (14, i, 0) 3) then
      enq (up (up a (15, i, 0) 1 (a (15, i, 0) 1 - 1)) (15, i, 0) 1 (a (15, i, 0) 0)) i (tn (a (16, i, 0) 0)) (tn (a (16, i, 0) 4)) (a (16, i, 0) 1) (fun k => a (17, i, 0) k) (fun k => a (18, i, 0) k) (a (1, 0, 0) (tn (a (14, i, 0) 2)))
    else up (up a (15, i, 0) 1 (a (15, i, 0) 1 - 1)) (15, i, 0) 1 (a (15, i, 0) 0))
  else up a (15, i, 0) 1 (a (15, i, 0) 1 - 1)
theorem enq_o {I : IF} {i sz c : Nat} {d x : Int32} {v m : Nat → Int32} {n : Nm} {j : Nat} (h : n.2.1 ≠ i ∨ n.1 < 14 ∨ 18 < n.1) : enq I i sz c d v m x n j = I n j := by
  obtain ⟨r, k, z⟩ := n
  simp only at h
  have g : ∀ q : Nat, 14 ≤ q → q ≤ 18 → ¬ ((r, k, z) : Nm) = (q, i, 0) := by
    intro q h1 h2 e
    simp only [Prod.mk.injEq] at e
    omega
  rw [enq, up_ne (fun q => g 14 (by omega) (by omega) q.1), up_ne (fun q => g 14 (by omega) (by omega) q.1), setQ_o (fun q => g 16 (by omega) (by omega) q.1) (g 17 (by omega) (by omega)) (g 18 (by omega) (by omega))]
theorem samA_o {p : PP} {a : IF} {i : Nat} {n : Nm} {j : Nat} (h : n.2.1 ≠ i ∨ n.1 < 14 ∨ 18 < n.1) : samA p a i n j = a n j := by
  have g : ¬ n = ((15, i, 0) : Nm) := by
    intro e
    rw [e] at h
    simp at h
  unfold samA
  split
  · rfl
  · split
    · split
      · rw [enq_o h, up_ne (fun q => g q.1), up_ne (fun q => g q.1)]
      · rw [up_ne (fun q => g q.1), up_ne (fun q => g q.1)]
    · rw [up_ne (fun q => g q.1)]
theorem IS.tick {a : IF} {i : Nat} {v : Int32} (h : IS a i) : IS (up a (15, i, 0) 1 v) i := by
  unfold IS at *
  simpa [up] using h
theorem qN_le {sz c : Nat} (h : 1 ≤ sz) (hc : c ≤ sz) : qN sz c ≤ sz := by unfold qN; split <;> omega
theorem IS_enq {a : IF} {i sz c : Nat} {x d : Int32} {m v : Nat → Int32} (h : IS a i) (h0 : a (16, i, 0) 0 = nI sz) (s1 : 1 ≤ sz) (s4 : sz ≤ 4) (hc : c ≤ sz) (hm : ∀ k, zb (m k)) (hx : bn x 0 1000) : IS (enq a i sz c d v m x) i := by
  obtain ⟨h1, h2, h3, h4, h5, h6, -⟩ := h
  have o : ∀ {n : Nm} {j : Nat}, n ≠ (16, i, 0) → n ≠ (17, i, 0) → n ≠ (18, i, 0) → ¬ (n = (14, i, 0) ∧ (j = 9 ∨ j = 8)) → enq a i sz c d v m x n j = a n j := by
    intro n j g1 g2 g3 g4
    rw [enq, up_ne (fun q => g4 ⟨q.1, Or.inr q.2⟩), up_ne (fun q => g4 ⟨q.1, Or.inl q.2⟩), setQ_o (fun q => g1 q.1) g2 g3]
  have e9 : enq a i sz c d v m x (14, i, 0) 9 = x := by rw [enq, up_nj (by decide), up_same]
  have e16 : enq a i sz c d v m x (16, i, 0) 0 = nI sz := by rw [enq, up_ne (by simp), up_ne (by simp), setQ_o (by simp) (by simp) (by simp)]; exact h0
  have e164 : enq a i sz c d v m x (16, i, 0) 4 = nI (qN sz c) := by rw [enq, up_ne (by simp), up_ne (by simp), setQ_c]
  have e18 : ∀ k, enq a i sz c d v m x (18, i, 0) k = qM sz c d m k := by intro k; rw [enq, up_ne (by simp), up_ne (by simp), setQ_m]
  refine ⟨?_, ?_, ?_, ?_, ?_, ?_, sz, qN sz c, e16, s1, s4, e164, qN_le s1 hc, ?_⟩
  · rw [o (by simp) (by simp) (by simp) (by simp)]; exact h1
  · rw [o (by simp) (by simp) (by simp) (by simp)]; exact h2
  · rw [o (by simp) (by simp) (by simp) (by simp)]; exact h3
  · rw [e9]; exact hx
  · rw [o (by simp) (by simp) (by simp) (by simp)]; exact h5
  · rw [o (by simp) (by simp) (by simp) (by simp)]; exact h6
  · intro k; rw [e18]; exact qM_zb hm k
theorem IS_samA {p : PP} {a : IF} {i : Nat} (hw : ∀ k, k < 10 → bn (a (1, 0, 0) k) 0 1000) (h : IS a i) : IS (samA p a i) i := by
  have g := h
  obtain ⟨h1, h2, h3, h4, h5, h6, sz, c, g1, g2, g3, g4, g5, g6⟩ := h
  have hn := bn_tn h2 (by decide)
  unfold samA
  split
  · exact g
  · split
    · split
      · rw [g1, g4, tn, tn, nI_clamp (by omega), nI_clamp (by omega)]
        exact IS_enq (IS.tick (IS.tick g)) (by simp [up, g1]) g2 g3 g5 g6 (hw _ (by omega))
      · exact IS.tick (IS.tick g)
    · exact IS.tick g
theorem WF_samA {p : PP} {a : IF} {i : Nat} (h : WF p a) (hi : i < gT p) : WF p (samA p a i) := by
  obtain ⟨h1, h2, h3⟩ := h
  have o : ∀ {n : Nm} {j : Nat}, n.1 < 14 → samA p a i n j = a n j := fun g => samA_o (Or.inr (Or.inl g))
  refine ⟨?_, fun k hk => ?_, fun s hs => ?_⟩
  · unfold W1 at *
    simp only [o (n := (0, 0, 0)) (by decide), o (n := (1, 0, 0)) (by decide), o (n := (4, 0, 0)) (by decide)]
    exact h1
  · by_cases e : k = i
    · subst e; exact IS_samA h1.2.2.2.2.1 (h2 k hk)
    · exact IS.cg (fun r j => samA_o (Or.inl e)) (h2 k hk)
  · have g := h3 s hs
    unfold SS at *
    simp only [o (n := (6, s, 0)) (show 6 < 14 by decide), o (n := (7, s, 0)) (show 7 < 14 by decide), o (n := (10, s, _)) (show 10 < 14 by decide), o (n := (13, s, _)) (show 13 < 14 by decide)]
    exact g
/-- the items from i on, n of them -/
def samL (p : PP) (a : IF) (i : Nat) : Nat → IF
  | 0 => a
  | n + 1 => samL p (samA p a i) (i + 1) n
theorem samL_o {p : PP} {n : Nm} {j : Nat} (h : n.1 < 14 ∨ 18 < n.1) : ∀ (f i : Nat) (a : IF), samL p a i f n j = a n j := by
  intro f
  induction f with
  | zero => intro i a; rfl
  | succ f ih => intro i a; rw [samL, ih]; exact samA_o (Or.inr h)
theorem WF_samL {p : PP} : ∀ (f i : Nat) (a : IF), WF p a → i + f ≤ gT p → WF p (samL p a i f) := by
  intro f
  induction f with
  | zero => intro i a h _; exact h
  | succ f ih => intro i a h g; exact ih (i + 1) _ (WF_samA h (by omega)) (by omega)
theorem c_sampleL {p : PP} {J : JF} {K : Int32 → PH → Prop} {Q : PH → Prop} : ∀ (f i : Nat) (a : IF), WF p a → i + f = gT p → K (nI (gT p)) (S p (samL p a i f) J) → l6_sampleItems_2 (0, 0, 0) K Q (f + 1) (nI i) (S p a J) := by
  intro f
  induction f with
  | zero =>
    intro i a h g hK
    have hb := h.1.2.2.2.1
    unfold l6_sampleItems_2
    refine ⟨rfl, fun _ => ?_, fun q => absurd ?_ q⟩
    · have : i = gT p := by omega
      subst this; exact hK
    · rw [hI_S, h.1.2.2.1, nI_leI (by omega) (by omega)]; omega
  | succ f ih =>
    intro i a h g hK
    have hi : i < gT p := by omega
    have hb := h.1.2.2.2.1
    have hs := h.1.2.2.2.2.2.1 i hi
    obtain ⟨h1, h2, h3, h4, h5, h6, sz, c, g1, g2, g3, g4, g5, g6⟩ := h.2.1 i hi
    have hn := bn_tn h2 (by decide)
    have next : ∀ J', J' = J → l6_sampleItems_2 (0, 0, 0) K Q (f + 1) (nI i + 1) (S p (samA p a i) J') := by
      intro J' e; subst e
      rw [nI_1]; exact ih (i + 1) _ (WF_samA h hi) (by omega) hK
    have next := next J rfl
    unfold l6_sampleItems_2
    refine ⟨rfl, fun q => ?_, fun _ => ⟨_, rfl, rfl, vinL 16 rfl (by omega) (by decide), ?_, ?_⟩⟩
    · rw [hI_S, h.1.2.2.1, nI_leI (by omega) (by omega)] at q; omega
    · rw [hR_S, nI_clamp (by omega), rq3 hi]; intro e; cases e
    · rw [hR_S, nI_clamp (by omega), rq3 hi]
      intro m2 e; cases e
      refine ⟨kq14 hi, _, rq141 hi, kq6 hs, ?_, ?_⟩
      · intro e
        rw [hI_S] at e
        rw [samA, if_pos e] at next; exact next
      · intro e
        rw [hI_S] at e
        refine ⟨_, rq144 hi, kq15 hi, ?_⟩
        rw [samA, if_neg e] at next
        refine c_tick (kq15 hi) rfl rfl (fun q => ⟨fun z => absurd z (by decide), fun _ => ?_⟩) (fun q => ⟨fun _ => ?_, fun z => absurd rfl z⟩)
        · rw [if_pos q] at next
          refine ⟨_, rfl, rfl, ?_, ?_⟩
          · rw [hI_S, up_ne (by simp), up_ne (by simp), hn.1]; exact vinL 10 rfl (by omega) (by decide)
          · rw [hI_S, up_ne (by simp), up_ne (by simp), up_ne (by simp), up_ne (by simp)]
            refine c_sample hi (fun z => ?_) (fun z => ?_)
            · rw [up_ne (by simp), up_ne (by simp), up_ne (by simp), up_ne (by simp)] at z
              rw [if_neg (show ¬ far (a (1, 0, 0) (tn (a (14, i, 0) 2))) _ _ from z)] at next; exact next
            · rw [up_ne (by simp), up_ne (by simp), up_ne (by simp), up_ne (by simp)] at z
              rw [if_pos (show far (a (1, 0, 0) (tn (a (14, i, 0) 2))) _ _ from z)] at next
              refine c_enqueue hi (v := fun k => a (17, i, 0) k) (m := fun k => a (18, i, 0) k) (c := c) (sz := sz) (d := a (16, i, 0) 1) ⟨?_, ?_, ?_⟩ g2 g3 g5 g6 ?_ ?_ ?_
              · rw [up_ne (by simp), up_ne (by simp)]; exact g4
              · intro k; rw [up_ne (by simp), up_ne (by simp)]
              · intro k; rw [up_ne (by simp), up_ne (by simp)]
              · rw [up_ne (by simp), up_ne (by simp)]; exact g1
              · rw [up_ne (by simp), up_ne (by simp)]
              · rw [g1, g4] at next
                simp only [tn] at next ⊢
                rw [nI_clamp (show sz < 2 ^ 31 by omega), nI_clamp (show c < 2 ^ 31 by omega)] at next
                exact next
        · rw [if_neg q] at next; exact next
theorem c_sampleItems {p : PP} {J : JF} {a : IF} {Q : PH → Prop} (h : WF p a) (hQ : Q (S p (samL p a 0 (gT p)) J)) : w6_sampleItems (0, 0, 0) (S p a J) Q := by
  unfold w6_sampleItems
  exact ⟨gT p + 1, c_sampleL (gT p) 0 a h (by omega) hQ⟩
