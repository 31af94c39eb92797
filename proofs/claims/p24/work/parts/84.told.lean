/-! An item's packed facts; what the law finds told. -/
theorem tn_zb {x : Int32} (h : zb x) : tn x ≤ 1 ∧ x = nI (tn x) := by rcases h with rfl | rfl <;> exact ⟨by decide, rfl⟩
theorem x_itm {p : PP} {a b I : IF} {i : Nat} (hW : WF p a) (hM : MX p a b) (hE : Enc p b I) (g2 : gS p ≤ 2) (hi : i < gT p) : ∃ N, I (23, 2, 0) i = nI N ∧ N < 2 ^ 31 ∧ N % 2 = gW p i ∧ N / 2 % 16 = tn (a (14, i, 0) 2) ∧ N / 32 % 32 = tn (a (15, i, 0) 0) ∧ N / 1024 % 8 = tn (a (16, i, 0) 0) ∧ nI (N / 8192 % 2) = a (16, i, 0) 1 ∧ N / 16384 % 2 = tn (a (14, i, 0) 6) ∧ N / 32768 = tn (a (14, i, 0) 3) := by
  obtain ⟨m1, m2, m3, m4, m5, m6, m7, m8, m9, m10, m11, m12, m13, m14⟩ := hM.2.2.1 i hi
  obtain ⟨i1, i2, i3, i4, i5, i6, sz, c, j1, j2, j3, j4, j5, j6⟩ := hW.2.1 i hi
  have hw := hW.1.2.2.2.2.2.1 i hi
  obtain ⟨⟨d0, d1⟩, q2, -⟩ := hE.2.2.1 i hi
  obtain ⟨-, -, n9⟩ := bn_tn i2 (by decide)
  obtain ⟨-, -, n3⟩ := bn_tn i3 (by decide)
  obtain ⟨-, -, n6⟩ := bn_tn i6 (by decide)
  have r1 := (tn_zb i5).1
  have ts : tn (a (16, i, 0) 0) = sz := by rw [j1, tn_nI (by omega)]
  have hN : tkN b i = gW p i + 2 * tn (a (14, i, 0) 2) + 32 * tn (a (15, i, 0) 0) + 1024 * sz + 8192 * tn (a (16, i, 0) 1) + 16384 * tn (a (14, i, 0) 6) + 32768 * tn (a (14, i, 0) 3) := by
    unfold tkN
    rw [m1, m2, m4, m5, m6, m8, m7, tn_nI (by omega), ts]
  rw [m6] at d0 d1
  refine ⟨tkN b i, q2, ?_, ?_, ?_, ?_, ?_, ?_, ?_, ?_⟩
  · omega
  · omega
  · omega
  · omega
  · rw [ts]; omega
  · rw [d0]; congr 1; omega
  · omega
  · omega
theorem x_cnt {p : PP} {a b I : IF} {i : Nat} (hW : WF p a) (hM : MX p a b) (hE : Enc p b I) (hi : i < gT p) : ∃ c, c ≤ 4 ∧ I (23, 6, 0) i = nI c ∧ a (16, i, 0) 4 = nI c ∧ tn (a (16, i, 0) 4) = c ∧ (fil a i = true ↔ c ≠ 0) := by
  obtain ⟨c, c1, c2, c3⟩ := IS_c (hW.2.1 i hi)
  have m12 := (hM.2.2.1 i hi).2.2.2.2.2.2.2.2.2.2.2.1
  obtain ⟨-, -, -, -, -, q6, -⟩ := hE.2.2.1 i hi
  refine ⟨c, c2, by rw [q6, m12, c1], c1, c3, ?_⟩
  unfold fil
  rw [decide_eq_true_iff, c1, nI_le0 (by omega)]
theorem x_div11 {s : Nat} (hs : s < 2) : nI (11 * s) / 11 = nI s := by
  have := pk_div (a := 11 * s) (d := 11) (by omega) (by decide) (by decide)
  rw [Nat.mul_div_cancel_left _ (by decide)] at this
  exact this
/-- an item's triggers name items of its own subscription -/
def Trg (p : PP) (a : IF) : Prop := ∀ i, i < gT p → ∀ j, j < 32 → bq (a (14, i, 0) 7) j = true → j < gT p ∧ gW p j = gW p i
theorem tB_own {p : PP} {a : IF} {s i : Nat} (hT : Trg p a) (hi : i < 32) : ∀ n, n ≤ gT p → tB p a s i n = true → i < gT p ∧ gW p i = s := by
  intro n
  induction n with
  | zero => intro _ h; cases h
  | succ n ih =>
    intro hn h
    rw [tB] at h
    cases e : tB p a s i n with
    | true => exact ih (by omega) e
    | false =>
      rw [e, Bool.false_or, Bool.and_eq_true, Bool.and_eq_true, Bool.and_eq_true] at h
      obtain ⟨g1, g2⟩ := hT n (by omega) i hi h.2.2.2
      exact ⟨g1, by rw [g2]; simpa [own?] using h.1⟩
set_option maxHeartbeats 1000000 in
theorem x_told12 {p P : PP} {a b I : IF} {J : JF} {s : Nat} (hW : WF p a) (hM : MX p a b) (hE : Enc p b I) (g2 : gS p ≤ 2) (g10 : gT p ≤ 10) (hs : s < 2) {K : Int32 → Int32 → PH → Prop} {Q : Int32 → PH → Prop} (hK : ∀ T y, (∀ i, i < 32 → bq T i = (rB p a s (gT p) i || tB p a s i (gT p))) → K T y (S P I J)) : ∀ (d n : Nat) (T : Int32), n + d = gT p → (∀ i, i < 32 → bq T i = (rB p a s n i || tB p a s i n)) → lL_publish_12 (nI (11 * s)) (23, 1, 0) (23, 2, 0) (23, 6, 0) (23, 7, 0) (23, 8, 0) (23, 9, 0) (23, 10, 0) (23, 11, 0) K Q (d + 1) T (nI n) (S P I J) := by
  have e2 : I (23, 11, 0) 2 = nI (gT p) := by rw [hE.2.2.2.2.2.2.1, hM.1.2.2.2.1, hW.1.2.2.1]
  intro d
  induction d with
  | zero =>
    intro n T h g
    have : n = gT p := by omega
    subst this
    unfold lL_publish_12
    refine ⟨rfl, vinL (i := 2) 4 rfl (by decide) (by decide), fun _ => hK T _ g, fun q => absurd ?_ q⟩
    rw [hI_S, show Int32.toNatClampNeg 2 = 2 from rfl, e2, nI_leI (by omega) (by omega)]; exact Nat.le_refl _
  | succ d ih =>
    intro n T h g
    have hn : n < gT p := by omega
    have cn : (nI n).toNatClampNeg = n := nI_clamp (by omega)
    obtain ⟨N, q2, hN, r1, -, -, -, -, r6, -⟩ := x_itm hW hM hE g2 hn
    obtain ⟨c, c4, q6, c1, c3, cf⟩ := x_cnt hW hM hE hn
    have hw := hW.1.2.2.2.2.2.1 n hn
    have q7 : I (23, 7, 0) n = a (14, n, 0) 7 := by
      obtain ⟨-, -, -, -, -, -, q7, -⟩ := hE.2.2.1 n hn
      rw [q7]; exact (hM.2.2.1 n hn).2.2.2.2.2.2.2.2.1
    have rr := tn_zb (hW.2.1 n hn).2.2.2.2.1
    have rep_iff : rep a n = true ↔ ¬ N / 16384 % 2 = 0 := by
      unfold rep
      rw [decide_eq_true_iff, r6, rr.2, nI_e0 (by omega), tn_nI (by omega)]
    have own_iff : own? p s n = true ↔ gW p n = s := by unfold own?; rw [decide_eq_true_iff]
    have v10 : ∀ {σ : PH} {m : Nm}, hL σ m = 10 → vp_in (nI n) (hL σ m) := fun e => vinL 10 e (by omega) (by decide)
    unfold lL_publish_12
    rw [x_div11 hs, hI_S, show Int32.toNatClampNeg 2 = 2 from rfl, e2, cn, q2, q6, q7, fld_sub, fld_rep hN, nI_1]
    refine ⟨rfl, vinL (i := 2) 4 rfl (by decide) (by decide), fun q => ?_, fun _ => ⟨rfl, v10 rfl, fun q => ?_, fun q => ⟨rfl, v10 rfl, fun z => ?_, fun z => ⟨fun w => ⟨rfl, v10 rfl, ?_⟩, fun w => ?_⟩⟩⟩⟩
    · rw [nI_leI (by omega) (by omega)] at q; omega
    · have no : own? p s n = false := by
        cases e : own? p s n with
        | false => rfl
        | true => exact absurd (by rw [r1, own_iff.mp e]) q
      refine ih (n + 1) T (by omega) (fun i hi => ?_)
      rw [rB_no no, tB, no, Bool.false_and, Bool.or_false]; exact g i hi
    · have ho : own? p s n = true := own_iff.mpr (by rw [nI_eq (by omega) (by omega)] at q; omega)
      rw [nI_e0 (by omega)] at z
      have hf : fil a n = false := by
        cases e : fil a n with
        | false => rfl
        | true => exact absurd z (cf.mp e)
      refine ih (n + 1) T (by omega) (fun i hi => ?_)
      rw [rB_yes ho, tB, ho, hf]; simpa using g i hi
    · have ho : own? p s n = true := own_iff.mpr (by rw [nI_eq (by omega) (by omega)] at q; omega)
      rw [nI_e0 (by omega)] at z w
      have hf : fil a n = true := cf.mpr z
      have hr : rep a n = true := rep_iff.mpr w
      rw [forall_eq]
      refine ih (n + 1) _ (by omega) (fun i hi => ?_)
      rw [rB_yes ho, tB, ho, hf, hr, bq_or, bq_or, bq_shl1 n (by omega) i hi, g i hi]
      cases rB p a s n i <;> cases tB p a s i n <;> cases bq (a (14, n, 0) 7) i <;> simp
    · have ho : own? p s n = true := own_iff.mpr (by rw [nI_eq (by omega) (by omega)] at q; omega)
      rw [nI_e0 (by omega)] at z w
      have hf : fil a n = true := cf.mpr z
      have hr : rep a n = false := by
        cases e : rep a n with
        | false => rfl
        | true => exact absurd w (rep_iff.mp e)
      refine ih (n + 1) T (by omega) (fun i hi => ?_)
      rw [rB_yes ho, tB, ho, hf, hr]; simpa using g i hi
theorem x_told78 {p P : PP} {a b I : IF} {J : JF} {s : Nat} {T0 : Int32} (hW : WF p a) (hM : MX p a b) (hE : Enc p b I) (g10 : gT p ≤ 10) {y1 : Int32} {K : Int32 → Int32 → PH → Prop} {Q : Int32 → PH → Prop} (hK : ∀ T y, (∀ i, i < 32 → bq T i = (bq T0 i && (decide (gT p ≤ i) || fil a i))) → K T y (S P I J)) : ∀ (d n : Nat) (T : Int32), n + d = gT p → (∀ i, i < 32 → bq T i = (bq T0 i && (decide (n ≤ i) || fil a i))) → lL_publish_78 (nI (11 * s)) (23, 1, 0) (23, 6, 0) (23, 8, 0) (23, 9, 0) (23, 10, 0) (23, 11, 0) y1 K Q (d + 1) T (nI n) (S P I J) := by
  have e2 : I (23, 11, 0) 2 = nI (gT p) := by rw [hE.2.2.2.2.2.2.1, hM.1.2.2.2.1, hW.1.2.2.1]
  intro d
  induction d with
  | zero =>
    intro n T h g
    have : n = gT p := by omega
    subst this
    unfold lL_publish_78
    refine ⟨rfl, vinL (i := 2) 4 rfl (by decide) (by decide), fun _ => hK T _ g, fun q => absurd ?_ q⟩
    rw [hI_S, show Int32.toNatClampNeg 2 = 2 from rfl, e2, nI_leI (by omega) (by omega)]; exact Nat.le_refl _
  | succ d ih =>
    intro n T h g
    have hn : n < gT p := by omega
    have cn : (nI n).toNatClampNeg = n := nI_clamp (by omega)
    obtain ⟨c, c4, q6, c1, c3, cf⟩ := x_cnt hW hM hE hn
    unfold lL_publish_78
    rw [hI_S, show Int32.toNatClampNeg 2 = 2 from rfl, e2, cn, q6, nI_1]
    have st : ∀ i, i < 32 → (i = n → fil a n = true) → (bq T0 i && (decide (n + 1 ≤ i) || fil a i)) = (bq T0 i && (decide (n ≤ i) || fil a i)) := fun i hi e => by
      by_cases w : i = n
      · subst w; rw [e rfl]; simp
      · have : decide (n + 1 ≤ i) = decide (n ≤ i) := by simp only [decide_eq_decide]; omega
        rw [this]
    refine ⟨rfl, vinL (i := 2) 4 rfl (by decide) (by decide), fun q => ?_, fun _ => ⟨rfl, vinL 10 rfl (by omega) (by decide), fun q => ?_, fun q => ?_⟩⟩
    · rw [nI_leI (by omega) (by omega)] at q; omega
    · rw [nI_e0 (by omega)] at q
      refine ih (n + 1) T (by omega) (fun i hi => ?_)
      rw [st i hi (fun _ => cf.mpr q)]; exact g i hi
    · rw [nI_e0 (by omega)] at q
      have hf : fil a n = false := by
        cases e : fil a n with
        | false => rfl
        | true => exact absurd q (cf.mp e)
      rw [forall_eq]
      refine ih (n + 1) _ (by omega) (fun i hi => ?_)
      rw [bq_and, bq_xor, bq_shl1 n (by omega) i hi, bq_m1 i hi, g i hi]
      by_cases w : i = n
      · subst w; rw [hf]; simp
      · have : decide (n + 1 ≤ i) = decide (n ≤ i) := by simp only [decide_eq_decide]; omega
        rw [this]; simp [w]
/-- both of the law's loops together -/
theorem Told_of {p : PP} {a : IF} {s : Nat} {T T0 : Int32} (hT : Trg p a) (h0 : ∀ i, i < 32 → bq T0 i = (rB p a s (gT p) i || tB p a s i (gT p))) (h1 : ∀ i, i < 32 → bq T i = (bq T0 i && (decide (gT p ≤ i) || fil a i))) : Told p a s T := by
  intro i hi
  rw [h1 i hi, h0 i hi]
  unfold toB fB
  cases e : tB p a s i (gT p) with
  | true =>
    obtain ⟨g1, g2⟩ := tB_own hT hi (gT p) (Nat.le_refl _) e
    have ho : own? p s i = true := by unfold own?; rw [decide_eq_true_iff]; exact g2
    rw [ho, decide_eq_true g1, decide_eq_false (show ¬ gT p ≤ i by omega)]
    cases fr : fil a i with
    | true => simp
    | false =>
      have : rB p a s (gT p) i = false := by unfold rB; rw [fr]; simp
      rw [this]; simp
  | false =>
    rw [Bool.or_false, Bool.false_and, Bool.or_false]
    cases r : rB p a s (gT p) i with
    | false => simp
    | true =>
      unfold rB at r
      simp only [Bool.and_eq_true] at r
      rw [r.2.2.1]; simp
