/-! Bits of ints, and what is told. -/
def bq (x : Int32) (i : Nat) : Bool := x.toBitVec.getLsbD i
theorem bq_ext {x y : Int32} (h : ∀ i, i < 32 → bq x i = bq y i) : x = y := Int32.toBitVec_inj.mp (BitVec.eq_of_getLsbD_eq (fun i hi => h i hi))
theorem bq_or (x y : Int32) (i : Nat) : bq (x ||| y) i = (bq x i || bq y i) := by unfold bq; rw [Int32.toBitVec_or, BitVec.getLsbD_or]
theorem bq_and (x y : Int32) (i : Nat) : bq (x &&& y) i = (bq x i && bq y i) := by unfold bq; rw [Int32.toBitVec_and, BitVec.getLsbD_and]
theorem bq_xor (x y : Int32) (i : Nat) : bq (x ^^^ y) i = (bq x i ^^ bq y i) := by unfold bq; rw [Int32.toBitVec_xor, BitVec.getLsbD_xor]
theorem bq_0 (i : Nat) : bq 0 i = false := BitVec.getLsbD_zero
theorem bq_m1 : ∀ i, i < 32 → bq (-1) i = true := by decide +kernel
theorem bq_shl1 : ∀ n, n < 16 → ∀ i, i < 32 → bq (1 <<< (nI n &&& 31)) i = decide (i = n) := by decide +kernel
theorem bq_1 : ∀ i, i < 32 → bq 1 i = decide (i = 0) := by decide +kernel
theorem bq_smod : ∀ n, n < 32 → ((nI n &&& 31).toBitVec.smod 32).toNat = n := by decide +kernel
theorem bq_shr (x : Int32) {n : Nat} (hn : n < 32) : bq (x >>> (nI n &&& 31)) 0 = bq x n := by
  unfold bq
  rw [Int32.toBitVec_shiftRight, BitVec.sshiftRight', bq_smod n hn, BitVec.getLsbD_sshiftRight]
  simp [hn]
theorem bq_tst (x : Int32) {n : Nat} (hn : n < 32) : (x >>> (nI n &&& 31)) &&& 1 = 1 ↔ bq x n = true := by
  rw [← bq_shr x hn]
  constructor
  · intro h
    have := congrArg (fun y => bq y 0) h
    simp only [bq_and] at this
    rw [bq_1 0 (by decide)] at this
    simpa using this
  · intro h
    refine bq_ext (fun i hi => ?_)
    rw [bq_and, bq_1 i hi]
    by_cases e : i = 0
    · subst e; simp [h]
    · simp [e]
theorem bq_tst0 (x : Int32) {n : Nat} (hn : n < 16) : x &&& (1 <<< (nI n &&& 31)) = 0 ↔ bq x n = false := by
  constructor
  · intro h
    have := congrArg (fun y => bq y n) h
    simp only [bq_and, bq_0] at this
    rw [bq_shl1 n hn n (by omega)] at this
    simpa using this
  · intro h
    refine bq_ext (fun i hi => ?_)
    rw [bq_and, bq_shl1 n hn i hi, bq_0]
    by_cases e : i = n
    · subst e; simp [h]
    · simp [e]
/-- something lies in the item's queue; the item reports -/
def fil (a : IF) (i : Nat) : Bool := decide (¬ a (16, i, 0) 4 ≤ 0)
def rep (a : IF) (i : Nat) : Bool := decide (¬ a (14, i, 0) 6 = 0)
def own? (p : PP) (s i : Nat) : Bool := decide (gW p i = s)
/-- among the first n items -/
def rB (p : PP) (a : IF) (s n i : Nat) : Bool := decide (i < n) && (own? p s i && (fil a i && rep a i))
def fB (p : PP) (a : IF) (s n i : Nat) : Bool := decide (i < n) && (own? p s i && fil a i)
def tB (p : PP) (a : IF) (s i : Nat) : Nat → Bool
  | 0 => false
  | n + 1 => tB p a s i n || (own? p s n && (fil a n && (rep a n && bq (a (14, n, 0) 7) i)))
def toB (p : PP) (a : IF) (s i : Nat) : Bool := rB p a s (gT p) i || (tB p a s i (gT p) && fB p a s (gT p) i)
def Told (p : PP) (a : IF) (s : Nat) (T : Int32) : Prop := ∀ i, i < 32 → bq T i = toB p a s i
theorem Told.eq {p : PP} {a : IF} {s : Nat} {T U : Int32} (h : Told p a s T) (g : Told p a s U) : T = U := bq_ext (fun i hi => (h i hi).trans (g i hi).symm)
theorem rB_no {p : PP} {a : IF} {s n : Nat} (h : own? p s n = false) (i : Nat) : rB p a s (n + 1) i = rB p a s n i := by
  unfold rB
  by_cases e : i = n
  · subst e; simp [h]
  · have : decide (i < n + 1) = decide (i < n) := by simp only [decide_eq_decide]; omega
    rw [this]
theorem fB_no {p : PP} {a : IF} {s n : Nat} (h : own? p s n = false) (i : Nat) : fB p a s (n + 1) i = fB p a s n i := by
  unfold fB
  by_cases e : i = n
  · subst e; simp [h]
  · have : decide (i < n + 1) = decide (i < n) := by simp only [decide_eq_decide]; omega
    rw [this]
theorem rB_yes {p : PP} {a : IF} {s n : Nat} (h : own? p s n = true) (i : Nat) : rB p a s (n + 1) i = (rB p a s n i || (decide (i = n) && (fil a n && rep a n))) := by
  unfold rB
  by_cases e : i = n
  · subst e; simp [h]
  · have : decide (i < n + 1) = decide (i < n) := by simp only [decide_eq_decide]; omega
    rw [this]; simp [e]
theorem fB_yes {p : PP} {a : IF} {s n : Nat} (h : own? p s n = true) (i : Nat) : fB p a s (n + 1) i = (fB p a s n i || (decide (i = n) && fil a n)) := by
  unfold fB
  by_cases e : i = n
  · subst e; simp [h]
  · have : decide (i < n + 1) = decide (i < n) := by simp only [decide_eq_decide]; omega
    rw [this]; simp [e]
/-- the class finds what is told -/
theorem c_findL {p : PP} {a : IF} {J : JF} {s : Nat} (hW : WF p a) (hs : s < gS p) {K : Int32 → Int32 → Int32 → Int32 → PH → Prop} {Q : Int32 → PH → Prop} (hK : ∀ R T F y, (∀ i, i < 32 → bq R i = rB p a s (gT p) i ∧ bq T i = tB p a s i (gT p) ∧ bq F i = fB p a s (gT p) i) → K R T F y (S p a J)) : ∀ (d n : Nat) (R T F : Int32), n + d = gT p → (∀ i, i < 32 → bq R i = rB p a s n i ∧ bq T i = tB p a s i n ∧ bq F i = fB p a s n i) → l4_findTold_9 (6, s, 0) K Q (cnt (gW p) s (gT p) - cnt (gW p) s n + 1) R T F (nI (cnt (gW p) s n)) (S p a J) := by
  have h16 := hW.1.2.2.2.1
  have hc := (hW.2.2 s hs).2.2.2.2.1
  have hcl := cnt_le (gW p) s (gT p)
  intro d
  induction d with
  | zero =>
    intro n R T F h g
    have : n = gT p := by omega
    subst this
    rw [Nat.sub_self]
    unfold l4_findTold_9
    refine ⟨kq6 hs, fun _ => hK R T F _ g, fun q => absurd ?_ q⟩
    rw [hI_S, hc, nI_leI (by omega) (by omega)]; exact Nat.le_refl _
  | succ d ih =>
    intro n R T F h g
    have hn : n < gT p := by omega
    cases e : own? p s n with
    | false =>
      have e' : ¬ gW p n = s := by simpa [own?] using e
      have g2 := ih (n + 1) R T F (by omega) (fun i hi => by
        obtain ⟨q1, q2, q3⟩ := g i hi
        refine ⟨by rw [rB_no e]; exact q1, ?_, by rw [fB_no e]; exact q3⟩
        rw [tB, e]; simpa using q2)
      rw [cnt, if_neg e'] at g2
      exact g2
    | true =>
      have e' : gW p n = s := by simpa [own?] using e
      have hc1 : cnt (gW p) s (n + 1) = cnt (gW p) s n + 1 := by rw [cnt, if_pos e']
      have hm := cnt_mono (gW p) s (show n + 1 ≤ gT p by omega)
      obtain ⟨i1, i2, i3, i4, i5, i6, sz, c, j1, j2, j3, j4, j5, j6⟩ := hW.2.1 n hn
      have g2 := fun R T F q => ih (n + 1) R T F (by omega) q
      rw [hc1] at g2
      rw [show cnt (gW p) s (gT p) - cnt (gW p) s n + 1 = (cnt (gW p) s (gT p) - (cnt (gW p) s n + 1) + 1) + 1 by omega]
      unfold l4_findTold_9
      refine ⟨kq6 hs, fun q => ?_, fun _ => ⟨_, rq65 hs, kq8 hs, vinL 16 (lq8 hs) (by omega) (by decide), ?_, ?_⟩⟩
      · rw [hI_S, hc, nI_leI (by omega) (by omega)] at q; omega
      · rw [hR_S, nI_clamp (by omega), rq8 hs, itf_at _ _ hn e']; intro q; cases q
      · rw [hR_S, nI_clamp (by omega), rq8 hs, itf_at _ _ hn e']
        intro m2 q; cases q
        refine ⟨kq14 hn, _, rq145 hn, kq16 hn, fun q => ?_, fun q => ?_⟩
        · rw [nI_1]
          rw [hI_S] at q
          have hf : fil a n = false := by simpa [fil] using q
          refine g2 R T F (fun i hi => ?_)
          obtain ⟨q1, q2, q3⟩ := g i hi
          rw [rB_yes e, fB_yes e, tB, hf, e]; simpa using ⟨q1, q2, q3⟩
        · rw [hI_S] at q
          have hf : fil a n = true := by simpa [fil] using q
          rw [hI_S, i1, nI_1]
          refine ⟨fun z => ?_, fun z => ?_⟩
          · have hr : rep a n = false := by simpa [rep] using z
            refine g2 _ _ _ (fun i hi => ?_)
            obtain ⟨q1, q2, q3⟩ := g i hi
            rw [rB_yes e, fB_yes e, tB, hf, e, hr, bq_or, bq_shl1 n (by omega) i hi]; simp [q1, q2, q3]
          · have hr : rep a n = true := by simpa [rep] using z
            refine g2 _ _ _ (fun i hi => ?_)
            obtain ⟨q1, q2, q3⟩ := g i hi
            rw [rB_yes e, fB_yes e, tB, hf, e, hr, bq_or, bq_or, bq_or, bq_shl1 n (by omega) i hi]; simp [q1, q2, q3]
theorem c_findTold {p : PP} {a : IF} {J : JF} {s : Nat} (hW : WF p a) (hs : s < gS p) {Q : Int32 → PH → Prop} (hQ : ∀ T, Told p a s T → Q T (S p a J)) : w4_findTold (6, s, 0) (S p a J) Q := by
  unfold w4_findTold
  have key := c_findL (J := J) hW hs (K := fun y1 y2 y3 y4 τ1 => Q (y1 ||| (y2 &&& y3)) τ1) (Q := Q) (fun R T F y g => hQ _ (fun i hi => by
    obtain ⟨q1, q2, q3⟩ := g i hi
    rw [bq_or, bq_and, q1, q2, q3]; rfl)) (gT p) 0 0 0 0 (by omega) (fun i hi => ⟨by rw [bq_0]; simp [rB], bq_0 i, by rw [bq_0]; simp [fB]⟩)
  exact ⟨_, key⟩
