/-! What the law sees. -/
def LV (N : Nat) (p : PP) (I : IF) (t : Nat) : Prop :=
  WF p I ∧ gS p ≤ 2 ∧ gT p ≤ 10 ∧ t ≤ 5000 ∧ I (0, 0, 0) 8 = nI t ∧ (I (23, 11, 0) 0 = nI t ∧ I (23, 11, 0) 1 = nI (gS p) ∧ I (23, 11, 0) 2 = nI (gT p) ∧ I (23, 11, 0) 3 = I (0, 0, 0) 7) ∧ (∀ k, k < 3 → I (23, 0, 0) k = I (1, 0, 0) k) ∧ (∀ s, s < gS p → I (23, 1, 0) (11 * s) = I (6, s, 0) 7 ∧ I (23, 1, 0) (11 * s + 9) = I (6, s, 0) 10 ∧ I (23, 1, 0) (11 * s + 10) = I (6, s, 0) 11) ∧ (∀ i, i < gT p → (∃ n, I (23, 2, 0) i = nI n ∧ n < 2 ^ 31 ∧ n % 2 = gW p i ∧ n / 16384 % 2 = tn (I (14, i, 0) 6)) ∧ I (23, 5, 0) i = I (14, i, 0) 8 ∧ I (23, 6, 0) i = I (16, i, 0) 4 ∧ I (23, 7, 0) i = I (14, i, 0) 7) ∧ OQ p I ∧ HG I t ∧ (∀ i, i < gT p → TI p I i t ∧ HI p I i t) ∧ hC I ≤ N ∧ ∀ s, s < gS p → SN p I s t
theorem LX.v {N : Nat} {p : PP} {I : IF} (h : LX N p I) : ∃ t, LV N p I t := by
  obtain ⟨B, h0, ⟨t, hIV, hG, hH, hN⟩, hX, hE⟩ := h.i
  obtain ⟨hW, hM, hTI, hSN, hTS, hnow, hOQ, h5⟩ := hIV
  have hs := h0.sy
  have c : ∀ r k z j, r < 20 → B (r, k, z) j = I (r, k, z) j := fun r k z j hr => h0.at_ r k z j hr
  have e8 : tn (B (0, 0, 0) 8) = t := by rw [hnow, tn_nI (by omega)]
  rw [e8] at hX
  refine ⟨t, hW.ca hs, hX.1, hX.2.1, h5, by rw [← c 0 _ _ _ (by decide)]; exact hnow, ⟨?_, ?_, ?_, ?_⟩, fun k hk => ?_, fun s hs' => ⟨?_, ?_, ?_⟩, fun i hi => ⟨?_, ?_, ?_, ?_⟩, ?_, hG.ca hs, fun i hi => ⟨?_, (hH i hi).ca hs⟩, ?_, fun s hs' => ?_⟩
  · rw [hE.2.2.2.2.1, hM.1.1]; exact hnow
  · rw [hE.2.2.2.2.2.1, hM.1.2.2.1]; exact hW.1.1
  · rw [hE.2.2.2.2.2.2.1, hM.1.2.2.2.1]; exact hW.1.2.2.1
  · rw [hE.2.2.2.2.2.2.2, hM.1.2.1, c 0 _ _ _ (by decide)]
  · rw [hE.1 k hk, hM.1.2.2.2.2 k (by omega), c 1 _ _ _ (by decide)]
  · have := hE.2.1 s 0 (by have := hX.1; omega) (by decide)
    rw [show 11 * s + 0 = 11 * s from rfl, show 4 + 0 = 4 from rfl] at this
    rw [this, (hM.2.1 s hs').1.1, c 6 _ _ _ (by decide)]
  · rw [hE.2.1 s 9 (by have := hX.1; omega) (by decide), ← c 6 _ _ _ (by decide)]
    exact (hM.2.1 s hs').1.2.2.2.2.2.2.2.2.1
  · rw [hE.2.1 s 10 (by have := hX.1; omega) (by decide), ← c 6 _ _ _ (by decide)]
    exact (hM.2.1 s hs').1.2.2.2.2.2.2.2.2.2
  · obtain ⟨n, n1, n2, n3, -, -, -, -, n8, -⟩ := x_itm hW hM hE hX.1 hi
    exact ⟨n, n1, n2, n3, by rw [n8, c 14 _ _ _ (by decide)]⟩
  · rw [(hE.2.2.1 i hi).2.2.2.2.1, ← c 14 _ _ _ (by decide)]
    exact (hM.2.2.1 i hi).2.2.2.2.2.2.2.2.2.2.1
  · rw [(hE.2.2.1 i hi).2.2.2.2.2.1, ← c 16 _ _ _ (by decide)]
    exact (hM.2.2.1 i hi).2.2.2.2.2.2.2.2.2.2.2.1
  · rw [(hE.2.2.1 i hi).2.2.2.2.2.2.1, ← c 14 _ _ _ (by decide)]
    exact (hM.2.2.1 i hi).2.2.2.2.2.2.2.2.1
  · unfold OQ pr at *
    simp only [← c 6 _ _ _ (show 6 < 20 by decide)]; exact hOQ
  · have := hTI i hi
    unfold TI at *
    simp only [← c 6 _ _ _ (show 6 < 20 by decide), ← c 14 _ _ _ (show 14 < 20 by decide), ← c 15 _ _ _ (show 15 < 20 by decide)]; exact this
  · rw [hC_cg (fun j => (c 4 0 0 j (by decide)).symm)]; exact hN
  · exact SN.cg rfl (c 6 _ _ _ (by decide)).symm (c 6 _ _ _ (by decide)).symm (fun o => (c 10 _ _ _ (by decide)).symm) (hX.2.2.2.1 s hs').2.1
section
variable {N : Nat} {p : PP} {I : IF} {J : JF}
theorem x_there {t : Nat} {x : Int32} {Q : Int32 → PH → Prop} (h : LV N p I t) (h1 : ∀ i, i < gT p → x = nI i → I (6, gW p i, 0) 7 ≠ 0 → Q 1 (S p I J)) (h2 : (∀ i, i < gT p → x = nI i → I (6, gW p i, 0) 7 = 0) → Q 0 (S p I J)) : wL_isThere (23, 1, 0) (23, 2, 0) (23, 11, 0) x (S p I J) Q := by
  obtain ⟨hW, g2, g10, t5, hnow, hn, hv, hs, hi, -⟩ := h
  unfold wL_isThere
  rw [hI_S, show Int32.toNatClampNeg 2 = 2 from rfl, hn.2.2.1]
  refine ⟨fun w => h2 (fun i hi e => ?_), fun w => ⟨rfl, vinL (i := 2) 4 rfl (by decide) (by decide), fun q => h2 (fun i hi e => ?_), fun q => ?_⟩⟩
  · rw [e, nI_lt0 (by omega)] at w; exact w.elim
  · rw [e, nI_leI (by omega) (by omega)] at q; omega
  · obtain ⟨i, hi31, rfl⟩ := nI_of w
    rw [nI_leI (by omega) hi31] at q
    have hi' : i < gT p := by omega
    obtain ⟨⟨n, n1, n2, n3, -⟩, -⟩ := hi i hi'
    have hgs := hW.1.2.2.2.2.2.1 i hi'
    have e1 : 11 * (I (23, 2, 0) (Int32.toNatClampNeg (nI i)) &&& 1) = nI (11 * gW p i) := by
      rw [nI_clamp hi31, n1, fld_sub, n3]; exact nI_mul 11 _
    rw [e1, nI_clamp (show 11 * gW p i < 2 ^ 31 by omega), (hs _ hgs).1]
    refine ⟨rfl, vinL 10 rfl (by omega) (by decide), rfl, vinL 22 rfl (by omega) (by decide), fun z => h2 (fun k hk e => ?_), fun z => h1 i hi' rfl (by rw [z]; decide)⟩
    have : i = k := (nI_eq hi31 (by omega)).mp e
    subst this
    exact ((hW.2.2 _ hgs).1).resolve_right z
theorem x_keptL {P : PP} {s : Nat} {x : Int32} {Q : Int32 → PH → Prop} (hs : s < 2) (h1 : ∀ k, k < 5 → ¬ x ≤ 0 → I (23, 9, 0) (5 * s + k) &&& 8191 = x → Q (nI (5 * s + k)) (S P I J)) (h2 : (¬ x ≤ 0 → ∀ k, k < 5 → I (23, 9, 0) (5 * s + k) &&& 8191 ≠ x) → Q (-1) (S P I J)) : ∀ (d k : Nat), k + d = 5 → (¬ x ≤ 0 → ∀ l, l < k → I (23, 9, 0) (5 * s + l) &&& 8191 ≠ x) → lL_kept_4 (23, 9, 0) (nI s) x (fun _ τ1 => Q (-1) τ1) Q (d + 1) (nI (5 * s + k)) (S P I J) := by
  intro d
  induction d with
  | zero =>
    intro k hk hn
    unfold lL_kept_4
    refine ⟨fun _ => h2 (fun z l hl => hn z l (by omega)), fun w => absurd ?_ w⟩
    rw [nIx5, show nI (5 * s) + 5 = nI (5 * s + 5) from nI_add _ 5, nI_leI (by omega) (by omega)]; omega
  | succ d ih =>
    intro k hk hn
    have nx : nI (5 * s + k) + 1 = nI (5 * s + (k + 1)) := nI_add _ 1
    unfold lL_kept_4
    rw [nx]
    refine ⟨fun w => ?_, fun _ => ⟨fun z => ih (k + 1) (by omega) (fun y => absurd z y), fun z => ⟨rfl, vinL 10 rfl (by omega) (by decide), ?_, ?_⟩⟩⟩
    · rw [nIx5, show nI (5 * s) + 5 = nI (5 * s + 5) from nI_add _ 5, nI_leI (by omega) (by omega)] at w; omega
    · rw [hI_S, nI_clamp (show 5 * s + k < 2 ^ 31 by omega)]
      intro y
      refine ih (k + 1) (by omega) (fun _ l hl => ?_)
      by_cases e : l = k
      · subst e; exact y
      · exact hn z l (by omega)
    · rw [hI_S, nI_clamp (show 5 * s + k < 2 ^ 31 by omega)]
      intro y
      exact h1 k (by omega) z y
/-- which place the law finds: the message's own -/
theorem x_kept {s : Nat} {x : Int32} {Q : Int32 → PH → Prop} (h : LX N p I) (hs : s < gS p) (h1 : ∀ q k n, q < tn (I (6, s, 0) 9) → I (10, s, gP p s q) 3 = x → k < 5 → ¬ x ≤ 0 → I (23, 9, 0) (5 * s + k) &&& 8191 = x → (∀ l, l < 5 → I (23, 9, 0) (5 * s + l) &&& 8191 = x → l = k) → I (10, s, gP p s q) 4 = nI n → n ≤ 6 → I (23, 9, 0) (5 * s + k) >>> (13 &&& 31) = nI n → (∀ j, j < n → I (23, 10, 0) (6 * (5 * s + k) + j) >>> (5 &&& 31) = I (11, s, gP p s q) j ∧ I (23, 10, 0) (6 * (5 * s + k) + j) &&& 15 = I (12, s, gP p s q) j ∧ (I (23, 10, 0) (6 * (5 * s + k) + j) >>> (4 &&& 31)) &&& 1 = I (13, s, gP p s q) j) → Q (nI (5 * s + k)) (S p I J)) (h2 : (∀ q, q < tn (I (6, s, 0) 9) → I (10, s, gP p s q) 3 ≠ x) → Q (-1) (S p I J)) : wL_kept (23, 9, 0) (nI s) x (S p I J) Q := by
  obtain ⟨B, h0, ⟨t, hIV, -⟩, hX, hE⟩ := h.i
  have c : ∀ r k z j, r < 20 → B (r, k, z) j = I (r, k, z) j := fun r k z j hr => h0.at_ r k z j hr
  have g2 := hX.1
  have hMM := (hIV.2.1.2.1 s hs).2
  have hSN := (hX.2.2.2.1 s hs).2.1
  have h5 := hIV.2.2.2.2.2.2.2
  have num : ∀ l, l < 5 → I (23, 9, 0) (5 * s + l) &&& 8191 = B (21, 30, 0) (5 * s + l) := fun l hl => EncM_num (hE.2.2.2.1 (5 * s + l) (by omega))
  have et : tn (B (0, 0, 0) 8) < 2 ^ 31 := by rw [hIV.2.2.2.2.2.1, tn_nI (by omega)]; omega
  unfold wL_kept
  refine ⟨6, ?_⟩
  rw [nIx5]
  refine x_keptL (by omega) (fun k hk z e => ?_) (fun hn => h2 (fun q hq e => ?_)) 5 0 rfl (fun _ l hl => by omega)
  · rcases hMM.2.1 k hk with w | ⟨q, hq, w⟩
    · rw [num k hk, w] at e
      exact absurd (by rw [← e]; decide) z
    · have ex : I (10, s, gP p s q) 3 = x := by rw [← c 10 _ _ _ (by decide), ← w, ← num k hk]; exact e
      obtain ⟨-, k', hk', e1, e2, e3, e4⟩ := slot_of et hMM hSN hq (x := x) (by rw [c 10 _ _ _ (by decide)]; exact ex)
      have ekk : k = k' := e4 k hk (by rw [← num k hk]; exact e)
      subst ekk
      rcases hE.2.2.2.1 (5 * s + k) (by omega) with w2 | ⟨x', n, m1, m2, m3, m4, m5, m6, m7⟩
      · rw [num k hk, w2.1] at e
        exact absurd (by rw [← e]; decide) z
      · have e2' : I (10, s, gP p s q) 4 = nI n := by rw [← c 10 _ _ _ (by decide), ← e2]; exact m4
        refine h1 q k n (by rw [← c 6 _ _ _ (by decide)]; exact hq) ex hk z e (fun l hl w3 => e4 l hl (by rw [← num l hl]; exact w3)) e2' m5 ?_ (fun j hj => ?_)
        · rw [m6, fld_many (by omega)]
          congr 1; omega
        · have hj' : j < tn (B (10, s, gP p s q) 4) := by rw [← e2, m4, tn_nI (by omega)]; exact hj
          obtain ⟨y1, y2, y3⟩ := e3 j hj'
          obtain ⟨i, v, f, w1, w2, w3, w4, w5, w6, w7⟩ := m7 j hj
          rw [w7, fld_val (by omega), fld_itm, fld_mark (by omega), ← c 11 _ _ _ (by decide), ← c 12 _ _ _ (by decide), ← c 13 _ _ _ (by decide), ← y1, ← y2, ← y3, w1, w3, w5]
          refine ⟨?_, ?_, ?_⟩
          · congr 1; omega
          · congr 1; omega
          · congr 1; omega
  · obtain ⟨z, k', hk', e1, -⟩ := slot_of et hMM hSN (q := q) (by rw [c 6 _ _ _ (by decide)]; exact hq) (x := x) (by rw [c 10 _ _ _ (by decide)]; exact e)
    exact hn z k' hk' (by rw [num k' hk']; exact e1)
end
