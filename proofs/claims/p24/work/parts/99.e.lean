/-! The acts that open, close, add, set and link. -/
theorem lk_val {T z v T' : Int32} {j : Nat} (hj : j < 16) (h : lkC T z v T' j) : T' = (if z = 0 then T &&& ((1 <<< (nI j &&& 31)) ^^^ (-1)) else T ||| (1 <<< (nI j &&& 31))) ∧ (∀ k, k < 32 → bq T' k = true → bq T k = true ∨ k = j) ∧ ((bq T j = true ∧ z = 1) ∨ (bq T j = false ∧ z = 0) → v = 0) ∧ ((bq T j = true ∧ z = 0) ∨ (bq T j = false ∧ z = 1) → v = 1) := by
  have d01 : (1 : Int32) ≠ 0 := by decide
  have b1 := bq_shl1 j hj
  rcases h with ⟨b, rfl, rfl, rfl⟩ | ⟨b, rfl, rfl, rfl⟩ | ⟨b, rfl, rfl, rfl⟩ | ⟨b, rfl, rfl, rfl⟩
  · refine ⟨?_, fun k _ h => Or.inl h, fun _ => rfl, ?_⟩
    · rw [if_pos rfl]
      refine bq_ext (fun i hi => ?_)
      rw [bq_and, bq_xor, b1 i hi, bq_m1 i hi]
      by_cases e : i = j
      · subst e; rw [b]; simp
      · simp [e]
    · rintro (⟨w, -⟩ | ⟨-, w⟩)
      · rw [b] at w; cases w
      · exact absurd w.symm d01
  · refine ⟨?_, fun k hk h => ?_, ?_, fun _ => rfl⟩
    · rw [if_neg d01]
      refine bq_ext (fun i hi => ?_)
      rw [bq_xor, bq_or, b1 i hi]
      by_cases e : i = j
      · subst e; rw [b]; simp
      · simp [e]
    · rw [bq_xor, b1 k hk] at h
      by_cases e : k = j
      · exact Or.inr e
      · left; simpa [e] using h
    · rintro (⟨w, -⟩ | ⟨-, w⟩)
      · rw [b] at w; cases w
      · exact absurd w d01
  · refine ⟨?_, fun k _ h => Or.inl h, fun _ => rfl, ?_⟩
    · rw [if_neg d01]
      refine bq_ext (fun i hi => ?_)
      rw [bq_or, b1 i hi]
      by_cases e : i = j
      · subst e; rw [b]; simp
      · simp [e]
    · rintro (⟨-, w⟩ | ⟨w, -⟩)
      · exact absurd w d01
      · rw [b] at w; cases w
  · refine ⟨?_, fun k hk h => ?_, ?_, fun _ => rfl⟩
    · rw [if_pos rfl]
      refine bq_ext (fun i hi => ?_)
      rw [bq_xor, bq_and, bq_xor, b1 i hi, bq_m1 i hi]
      by_cases e : i = j
      · subst e; rw [b]; simp
      · simp [e]
    · rw [bq_xor, b1 k hk] at h
      by_cases e : k = j
      · exact Or.inr e
      · left; simpa [e] using h
    · rintro (⟨-, w⟩ | ⟨w, -⟩)
      · exact absurd w.symm d01
      · rw [b] at w; cases w
section
variable {N : Nat} {p : PP} {I : IF} {J : JF}
theorem open_rg {p1 p2 p3 p4 p5 : Int32} {t : Nat} {Q : Int32 → PH → Prop} (h : LV N p I t) (hn : ¬ (bn p1 1 20 ∧ bn p2 1 10 ∧ bn p3 1 30 ∧ bn p4 0 9 ∧ bn p5 1 10)) (g : Q (-7200) (S p I J)) : wL_open (0, 0, 0) p1 p2 p3 p4 p5 (S p I J) Q :=
  w_open h.1 h.2.2.2.2.2.2.2.2.2.1.ok (fun _ => g) (fun w => absurd w hn) (fun w => absurd w hn)
theorem add_ix {p1 p2 p3 p4 p5 p6 : Int32} {Q : Int32 → PH → Prop} (hW : WF p I) (hz : zb p5) (hn : ¬ ((∃ s, s < gS p ∧ p1 = nI s ∧ I (6, s, 0) 7 ≠ 0) ∧ bn p2 0 9)) (g : Q (-7100) (S p I J)) : wL_add (0, 0, 0) p1 p2 p3 p4 p5 p6 (S p I J) Q :=
  w_add hW hz (fun _ => g) (fun w => absurd w hn) (fun w => absurd w hn) (fun w => absurd w hn)
theorem add_rg {p1 p2 p3 p4 p5 p6 : Int32} {Q : Int32 → PH → Prop} (hW : WF p I) (hz : zb p5) (h1 : (∃ s, s < gS p ∧ p1 = nI s ∧ I (6, s, 0) 7 ≠ 0) ∧ bn p2 0 9) (hn : ¬ (bn p3 1 20 ∧ bn p4 1 4 ∧ bn p6 0 1000)) (g : Q (-7200) (S p I J)) : wL_add (0, 0, 0) p1 p2 p3 p4 p5 p6 (S p I J) Q :=
  w_add hW hz (fun w => absurd h1 w) (fun _ _ => g) (fun _ w => absurd w hn) (fun _ w => absurd w hn)
theorem close_ix {x : Int32} {Q : Int32 → PH → Prop} (hW : WF p I) (hn : ∀ s, s < gS p → x = nI s → I (6, s, 0) 7 = 0) (g : Q (-7100) (S p I J)) : wL_close (0, 0, 0) x (S p I J) Q :=
  w_close hW (fun s a1 a2 a3 => absurd (hn s a1 a2) a3) (fun _ => g)
theorem rep_ix {x y : Int32} {Q : Int32 → PH → Prop} (hW : WF p I) (hy : zb y) (hn : ∀ i, i < gT p → x = nI i → I (6, gW p i, 0) 7 = 0) (g : Q (-7100) (S p I J)) : wL_setReporting (0, 0, 0) x y (S p I J) Q :=
  w_setReporting hW hy (fun i a1 a2 a3 => absurd (hn i a1 a2) a3) (fun _ => g)
theorem link_ix {x y z : Int32} {Q : Int32 → PH → Prop} (hW : WF p I) (hz : zb z) (hn : (∀ i, i < gT p → x = nI i → I (6, gW p i, 0) 7 = 0) ∨ (∀ i, i < gT p → y = nI i → I (6, gW p i, 0) 7 = 0)) (g : Q (-7100) (S p I J)) : wL_link (0, 0, 0) x y z (S p I J) Q :=
  w_link hW hz (fun i j _ _ _ a1 a2 a3 a4 a5 a6 _ _ _ _ _ => hn.elim (fun w => absurd (w i a1 a3) a5) (fun w => absurd (w j a2 a4) a6)) (fun i j a1 a2 a3 a4 a5 a6 _ => hn.elim (fun w => absurd (w i a1 a3) a5) (fun w => absurd (w j a2 a4) a6)) (fun _ => g)
theorem link_rg {i j : Nat} {z : Int32} {Q : Int32 → PH → Prop} (hW : WF p I) (hz : zb z) (hi : i < gT p) (hj : j < gT p) (li : I (6, gW p i, 0) 7 ≠ 0) (lj : I (6, gW p j, 0) 7 ≠ 0) (hn : i = j ∨ gW p i ≠ gW p j) (g : Q (-7200) (S p I J)) : wL_link (0, 0, 0) (nI i) (nI j) z (S p I J) Q := by
  have h16 := hW.1.2.2.2.1
  refine w_link hW hz (fun a b _ _ _ a1 a2 a3 a4 _ _ a7 a8 _ _ _ => ?_) (fun _ _ _ _ _ _ _ _ _ => g) (fun w => w.elim (fun w => absurd (w i hi rfl) li) (fun w => absurd (w j hj rfl) lj))
  have e1 : i = a := (nI_eq (by omega) (by omega)).mp a3
  have e2 : j = b := (nI_eq (by omega) (by omega)).mp a4
  subst e1; subst e2
  exact hn.elim (fun w => absurd w a7) (fun w => absurd a8 w)
theorem x_cntL {p3 : Int32} {t s : Nat} {K : Int32 → Int32 → PH → Prop} {Q : Int32 → PH → Prop} (h : LV N p I t) (es : p3 &&& 1 = nI s) (s2 : s < 2) (hK : ∀ y, K (nI (cnt (gW p) s (gT p))) y (S p I J)) : ∀ d i, i + d = gT p → lL_opens_492 (0, 0, 0) p3 (23, 1, 0) (23, 2, 0) (23, 11, 0) K Q (d + 1) (nI (cnt (gW p) s i)) (nI i) (S p I J) := by
  have h' := h
  obtain ⟨hW, g2, g10, t5, hnow, hn, hv, hs, hi, hOQ, hG, hTH, hCm, hSN⟩ := h'
  intro d
  induction d with
  | zero =>
    intro i hd
    have : i = gT p := by omega
    subst this
    unfold lL_opens_492
    rw [hI_S, show Int32.toNatClampNeg 2 = 2 from rfl, hn.2.2.1]
    exact ⟨rfl, vinL (i := 2) 4 rfl (by decide) (by decide), fun _ => hK _, fun w => absurd ((nI_leI (by omega) (by omega)).mpr (Nat.le_refl _)) w⟩
  | succ d ih =>
    intro i hd
    have hig : i < gT p := by omega
    have IH := ih (i + 1) (by omega)
    obtain ⟨⟨n, n1, n2, n3, -⟩, -⟩ := hi i hig
    have hgs := hW.1.2.2.2.2.2.1 i hig
    unfold lL_opens_492
    rw [hI_S, show Int32.toNatClampNeg 2 = 2 from rfl, hn.2.2.1, nI_clamp (show i < 2 ^ 31 by omega), n1, fld_sub, n3, es, nI_1, Int32.add_zero, nI_1]
    refine ⟨rfl, vinL (i := 2) 4 rfl (by decide) (by decide), fun w => ?_, fun _ => ⟨rfl, vinL 10 rfl (by omega) (by decide), fun w => ?_, fun w => ?_⟩⟩
    · rw [nI_leI (by omega) (by omega)] at w; omega
    · rw [cnt, if_neg (fun e => w (by rw [e]))] at IH; exact IH
    · rw [cnt, if_pos ((nI_eq (by omega) (by omega)).mp w)] at IH; exact IH
end
