/-! The model finds what is told. -/
def bI (x : Bool) : Int32 := cond x 1 0
theorem bI_0 {x : Bool} : bI x = 0 ↔ x = false := by cases x <;> decide
theorem bI_zb (x : Bool) : zb (bI x) := by cases x; exact zb0; exact zb1
theorem m_tells {p P : PP} {a b : IF} {J : JF} {i : Nat} (hM : MX p a b) (hW : WF p a) (hi : i < gT p) {Q : Int32 → PH → Prop} (hQ : Q (bI (fil a i && rep a i)) (S P b J)) : w7_tells (20, 0, 0) (nI i) (S P b J) Q := by
  have h16 := hW.1.2.2.2.1
  have vi : ∀ {σ : PH} {n : Nm}, hL σ n = 16 → vp_in (nI i) (hL σ n) := fun e => vinL 16 e (by omega) (by decide)
  obtain ⟨m1, m2, m3, m4, m5, m6, m7, m8, m9, m10, m11, m12, m13, m14⟩ := hM.2.2.1 i hi
  unfold w7_tells
  refine ⟨rfl, _, rfl, rfl, vi rfl, ?_⟩
  rw [hI_S, nI_clamp (by omega), m8]
  refine ⟨fun q => ?_, fun q => ⟨_, rfl, rfl, vi rfl, ?_⟩⟩
  · have : rep a i = false := by simpa [rep] using q
    rw [this, Bool.and_false] at hQ; exact hQ
  · have hr : rep a i = true := by simpa [rep] using q
    rw [m12]
    rw [hr, Bool.and_true] at hQ
    refine ⟨fun z => ?_, fun z => ?_⟩
    · have : fil a i = false := by simpa [fil] using z
      rw [this] at hQ; exact hQ
    · have : fil a i = true := by simpa [fil] using z
      rw [this] at hQ; exact hQ
theorem m_isToldL {p P : PP} {a b : IF} {J : JF} {i s : Nat} {r : Int32} {base : Bool} (hM : MX p a b) (hW : WF p a) (hi : i < gT p) (hs : s < gS p) {K : Int32 → Int32 → PH → Prop} {Q : Int32 → PH → Prop} (hK : ∀ y, K (bI (base || tB p a s i (gT p))) y (S P b J)) : ∀ (d k : Nat), k + d = gT p → l7_isTold_9 (20, 0, 0) (nI s) (nI i) r K Q (d + 1) (bI (base || tB p a s i k)) (nI k) (S P b J) := by
  have h16 := hW.1.2.2.2.1
  have h4 := hW.1.2.1
  intro d
  induction d with
  | zero =>
    intro k h
    have : k = gT p := by omega
    subst this
    unfold l7_isTold_9
    refine ⟨rfl, fun _ => hK _, fun q => absurd ?_ q⟩
    rw [hI_S, hM.1.2.2.2.1, hW.1.2.2.1, nI_leI (by omega) (by omega)]; exact Nat.le_refl _
  | succ d ih =>
    intro k h
    have hk : k < gT p := by omega
    have hw := hW.1.2.2.2.2.2.1 k hk
    have g := ih (k + 1) (by omega)
    have vi : ∀ {σ : PH} {n : Nm}, hL σ n = 16 → vp_in (nI k) (hL σ n) := fun e => vinL 16 e (by omega) (by decide)
    obtain ⟨m1, m2, m3, m4, m5, m6, m7, m8, m9, m10, m11, m12, m13, m14⟩ := hM.2.2.1 k hk
    unfold l7_isTold_9
    refine ⟨rfl, fun q => ?_, fun _ => ⟨fun q => ?_, fun q => ⟨_, rfl, rfl, vi rfl, ?_⟩⟩⟩
    · rw [hI_S, hM.1.2.2.2.1, hW.1.2.2.1, nI_leI (by omega) (by omega)] at q; omega
    · rw [nI_1]
      have e : (base || tB p a s i k) = true := by
        cases z : (base || tB p a s i k) with
        | false => rw [z] at q; exact absurd rfl q
        | true => rfl
      have e2 : (base || tB p a s i (k + 1)) = true := by rw [tB, ← Bool.or_assoc, e, Bool.true_or]
      rw [e2] at g; exact g
    · rw [bI_0] at q
      have e3 : (base || tB p a s i (k + 1)) = (own? p s k && (fil a k && (rep a k && bq (a (14, k, 0) 7) i))) := by rw [tB, ← Bool.or_assoc, q, Bool.false_or]
      rw [e3] at g
      rw [hI_S, nI_clamp (by omega), m1, nI_1]
      refine ⟨fun z => ?_, fun z => ?_⟩
      · have : own? p s k = false := by
          unfold own?; rw [decide_eq_false_iff_not]; intro y; exact z (by rw [y])
        rw [this] at g; exact g
      · have : own? p s k = true := by
          unfold own?; rw [decide_eq_true_iff]; exact (nI_eq (by omega) (by omega)).mp z
        rw [this, Bool.true_and] at g
        refine m_tells hM hW hk ⟨fun y => ?_, fun y => ⟨_, rfl, rfl, vi rfl, ?_⟩⟩
        · rw [bI_0] at y
          rw [← Bool.and_assoc, y, Bool.false_and] at g; exact g
        · have y' : (fil a k && rep a k) = true := by
            cases w : (fil a k && rep a k) with
            | false => rw [w] at y; exact absurd rfl y
            | true => rfl
          rw [← Bool.and_assoc, y', Bool.true_and] at g
          rw [hI_S, m9]
          refine ⟨fun w => ?_, fun w => ?_⟩
          · rw [bq_tst _ (by omega)] at w
            have : bq (a (14, k, 0) 7) i = false := by simpa using w
            rw [this] at g; exact g
          · rw [bq_tst _ (by omega)] at w
            rw [w] at g; exact g
theorem m_isTold {p P : PP} {a b : IF} {J : JF} {i s : Nat} (hM : MX p a b) (hW : WF p a) (hi : i < gT p) (hs : s < gS p) {Q : Int32 → PH → Prop} (hQ : Q (bI (toB p a s i)) (S P b J)) : w7_isTold (20, 0, 0) (nI s) (nI i) (S P b J) Q := by
  have h16 := hW.1.2.2.2.1
  have h4 := hW.1.2.1
  have hw := hW.1.2.2.2.2.2.1 i hi
  have vi : ∀ {σ : PH} {n : Nm}, hL σ n = 16 → vp_in (nI i) (hL σ n) := fun e => vinL 16 e (by omega) (by decide)
  obtain ⟨m1, m2, m3, m4, m5, m6, m7, m8, m9, m10, m11, m12, m13, m14⟩ := hM.2.2.1 i hi
  unfold w7_isTold
  refine ⟨rfl, m_tells hM hW hi ⟨gT p + 1, ?_⟩⟩
  have key := m_isToldL (P := P) (J := J) (r := bI (fil a i && rep a i)) (base := fil a i && rep a i) hM hW hi hs (Q := Q) (K := fun y1 _ τ1 => hK τ1 (20, 0, 0) = 8 ∧ ∃ m3 : Nm, hR τ1 (20, 0, 0) 16 = some m3 ∧ hK τ1 m3 = 9 ∧ vp_in (nI i) (hL τ1 m3) ∧ ((¬ (hI τ1 m3 (Int32.toNatClampNeg (nI i))) = nI s → Q 0 τ1) ∧ ((hI τ1 m3 (Int32.toNatClampNeg (nI i))) = nI s → ∃ m4 : Nm, hR τ1 (20, 0, 0) 27 = some m4 ∧ hK τ1 m4 = 9 ∧ vp_in (nI i) (hL τ1 m4) ∧ (((hI τ1 m4 (Int32.toNatClampNeg (nI i))) ≤ 0 → Q 0 τ1) ∧ (¬ ((hI τ1 m4 (Int32.toNatClampNeg (nI i))) ≤ 0) → ((y1 = 0 → Q 0 τ1) ∧ (¬ (y1 = 0) → Q 1 τ1))))))) (fun y => ?_) (gT p) 0 (by omega)
  · rw [tB, Bool.or_false] at key; exact key
  · refine ⟨rfl, _, rfl, rfl, vi rfl, ?_⟩
    rw [hI_S, nI_clamp (by omega), m1]
    have eB : toB p a s i = (own? p s i && (fil a i && ((fil a i && rep a i) || tB p a s i (gT p)))) := by
      unfold toB rB fB
      rw [decide_eq_true hi]
      cases own? p s i <;> cases fil a i <;> cases rep a i <;> cases tB p a s i (gT p) <;> rfl
    rw [eB] at hQ
    refine ⟨fun z => ?_, fun z => ⟨_, rfl, rfl, vi rfl, ?_⟩⟩
    · have : own? p s i = false := by
        unfold own?; rw [decide_eq_false_iff_not]; intro y; exact z (by rw [y])
      rw [this] at hQ; exact hQ
    · have : own? p s i = true := by
        unfold own?; rw [decide_eq_true_iff]; exact (nI_eq (by omega) (by omega)).mp z
      rw [this, Bool.true_and] at hQ
      rw [m12]
      refine ⟨fun y => ?_, fun y => ⟨fun w => ?_, fun w => ?_⟩⟩
      · have : fil a i = false := by simpa [fil] using y
        rw [this] at hQ; exact hQ
      · have hf : fil a i = true := by simpa [fil] using y
        rw [bI_0] at w
        rw [w, hf] at hQ; exact hQ
      · have hf : fil a i = true := by simpa [fil] using y
        rw [bI_0] at w
        have w' : ((fil a i && rep a i) || tB p a s i (gT p)) = true := by
          cases v : ((fil a i && rep a i) || tB p a s i (gT p)) with
          | false => exact absurd v w
          | true => rfl
        rw [w', hf] at hQ; exact hQ
theorem toB_big {p : PP} {a : IF} {s i : Nat} (h : gT p ≤ i) : toB p a s i = false := by
  unfold toB rB fB
  have : decide (i < gT p) = false := by simp; omega
  rw [this]; simp
theorem m_toldL {p P : PP} {a b : IF} {J : JF} {s : Nat} (hM : MX p a b) (hW : WF p a) (hs : s < gS p) {K : Int32 → Int32 → PH → Prop} {Q : Int32 → PH → Prop} (hK : ∀ T y, Told p a s T → K T y (S P b J)) : ∀ (d k : Nat) (T : Int32), k + d = gT p → (∀ i, i < 32 → bq T i = (decide (i < k) && toB p a s i)) → l7_toldItems_4 (20, 0, 0) (nI s) K Q (d + 1) T (nI k) (S P b J) := by
  have h16 := hW.1.2.2.2.1
  intro d
  induction d with
  | zero =>
    intro k T h g
    have : k = gT p := by omega
    subst this
    unfold l7_toldItems_4
    refine ⟨rfl, fun _ => hK _ _ (fun i hi => ?_), fun q => absurd ?_ q⟩
    · rw [g i hi]
      by_cases e : i < gT p
      · rw [decide_eq_true e, Bool.true_and]
      · rw [decide_eq_false e, Bool.false_and, toB_big (by omega)]
    · rw [hI_S, hM.1.2.2.2.1, hW.1.2.2.1, nI_leI (by omega) (by omega)]; exact Nat.le_refl _
  | succ d ih =>
    intro k T h g
    have hk : k < gT p := by omega
    unfold l7_toldItems_4
    refine ⟨rfl, fun q => ?_, fun _ => m_isTold hM hW hk hs ⟨fun z => ?_, fun z => ?_⟩⟩
    · rw [hI_S, hM.1.2.2.2.1, hW.1.2.2.1, nI_leI (by omega) (by omega)] at q; omega
    · rw [nI_1]
      rw [bI_0] at z
      refine ih (k + 1) _ (by omega) (fun i hi => ?_)
      rw [bq_or, bq_0, Bool.or_false, g i hi]
      by_cases e : i = k
      · subst e; rw [z]; simp
      · have : decide (i < k + 1) = decide (i < k) := by simp only [decide_eq_decide]; omega
        rw [this]
    · rw [nI_1]
      have z' : toB p a s k = true := by
        cases v : toB p a s k with
        | false => rw [v] at z; exact absurd rfl z
        | true => rfl
      refine ih (k + 1) _ (by omega) (fun i hi => ?_)
      rw [bq_or, bq_shl1 k (by omega) i hi, g i hi]
      by_cases e : i = k
      · subst e; rw [z']; simp
      · have : decide (i < k + 1) = decide (i < k) := by simp only [decide_eq_decide]; omega
        rw [this]; simp [e]
theorem m_toldItems {p P : PP} {a b : IF} {J : JF} {s : Nat} (hM : MX p a b) (hW : WF p a) (hs : s < gS p) {Q : Int32 → PH → Prop} (hQ : ∀ T, Told p a s T → Q T (S P b J)) : w7_toldItems (20, 0, 0) (nI s) (S P b J) Q := by
  unfold w7_toldItems
  exact ⟨gT p + 1, m_toldL (K := fun y1 _ τ1 => Q y1 τ1) hM hW hs (fun T _ h => hQ T h) (gT p) 0 0 (by omega) (fun i hi => by rw [bq_0]; simp)⟩
