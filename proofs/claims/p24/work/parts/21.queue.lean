/-! The class's leaves: timers, queues. -/
section
variable {p : PP} {I : IF} {J : JF}
/-- a queue with these contents -/
def setQ (I : IF) (i c : Nat) (v m : Nat → Int32) : IF := fun n j => if n = (16, i, 0) ∧ j = 4 then nI c else if n = (17, i, 0) then v j else if n = (18, i, 0) then m j else I n j
def isQ (I : IF) (i c : Nat) (v m : Nat → Int32) : Prop := I (16, i, 0) 4 = nI c ∧ (∀ k, I (17, i, 0) k = v k) ∧ (∀ k, I (18, i, 0) k = m k)
def fu (f : Nat → Int32) (k : Nat) (x : Int32) : Nat → Int32 := fun j => if j = k then x else f j
def sh (f : Nat → Int32) (c : Nat) : Nat → Int32 := fun j => if j + 1 < c then f (j + 1) else f j
theorem setQ_id {i c : Nat} {v m : Nat → Int32} (h : isQ I i c v m) : setQ I i c v m = I := by
  funext n j
  unfold setQ
  split
  · next g => rw [g.1, g.2, h.1]
  · split
    · next g => rw [g, h.2.1]
    · split
      · next g => rw [g, h.2.2]
      · rfl
theorem setQ_c {i c : Nat} {v m : Nat → Int32} : setQ I i c v m (16, i, 0) 4 = nI c := if_pos ⟨rfl, rfl⟩
theorem setQ_v {i c k : Nat} {v m : Nat → Int32} : setQ I i c v m (17, i, 0) k = v k := by simp [setQ]
theorem setQ_m {i c k : Nat} {v m : Nat → Int32} : setQ I i c v m (18, i, 0) k = m k := by simp [setQ]
theorem setQ_o {i c : Nat} {v m : Nat → Int32} {n : Nm} {j : Nat} (h1 : ¬ (n = (16, i, 0) ∧ j = 4)) (h2 : n ≠ (17, i, 0)) (h3 : n ≠ (18, i, 0)) : setQ I i c v m n j = I n j := by rw [setQ, if_neg h1, if_neg h2, if_neg h3]
theorem setQ_uc {i c d : Nat} {v m : Nat → Int32} : up (setQ I i c v m) (16, i, 0) 4 (nI d) = setQ I i d v m := by
  funext n j; unfold up setQ; split <;> rfl
theorem setQ_uv {i c k : Nat} {x : Int32} {v m : Nat → Int32} : up (setQ I i c v m) (17, i, 0) k x = setQ I i c (fu v k x) m := by
  funext n j; unfold up setQ fu
  by_cases h : n = (17, i, 0)
  · subst h; simp
  · simp [h]
theorem setQ_um {i c k : Nat} {x : Int32} {v m : Nat → Int32} : up (setQ I i c v m) (18, i, 0) k x = setQ I i c v (fu m k x) := by
  funext n j; unfold up setQ fu
  by_cases h : n = (18, i, 0)
  · subst h; simp
  · simp [h]
theorem c_append {i c : Nat} {v m : Nat → Int32} {x y : Int32} (hi : i < gT p) (hc : c < 4) (hy : zb y) {Q : PH → Prop} (h : Q (S p (setQ I i (c + 1) (fu v c x) (fu m c y)) J)) : w3_append (16, i, 0) x y (S p (setQ I i c v m) J) Q := by
  unfold w3_append
  simp only [hK_S, hL_S, hR_S, hI_S, kq16 hi, setQ_c]
  refine ⟨trivial, fun q => absurd q ?_, fun _ => ⟨_, rq162 hi, kq17 hi, ?_, ?_⟩⟩
  · rw [show (4 : Int32) = nI 4 from rfl, nI_leI (by omega) (by omega)]; omega
  · rw [lq17 hi, vin_nI (by omega) (by omega)]; exact hc
  · rw [forall_eq, nI_clamp (by omega), sI_S, setQ_uv]
    refine ⟨_, rq163 hi, kq18 hi, ?_, hy, ?_⟩
    · rw [hI_S, setQ_c, lq18 hi, vin_nI (by omega) (by omega)]; exact hc
    · rw [forall_eq, hI_S, setQ_c, nI_clamp (by omega), sI_S, setQ_um, forall_eq, hI_S, setQ_c, nI_1, sI_S, setQ_uc]
      exact h
theorem sh_step {f : Nat → Int32} {k : Nat} (hk : 1 ≤ k) : fu (sh f k) (k - 1) (sh f k k) = sh f (k + 1) := by
  funext j; unfold fu sh
  by_cases h : j = k - 1
  · rw [if_pos h, if_neg (by omega), if_pos (by omega)]; congr 1; omega
  · rw [if_neg h]
    by_cases g : j + 1 < k
    · rw [if_pos g, if_pos (by omega)]
    · rw [if_neg g, if_neg (by omega)]
theorem sh_1 {f : Nat → Int32} : sh f 1 = f := by funext j; unfold sh; rw [if_neg (by omega)]
theorem sh_zb {f : Nat → Int32} {c : Nat} (h : ∀ k, zb (f k)) (k : Nat) : zb (sh f c k) := by unfold sh; split <;> exact h _
theorem fu_zb {f : Nat → Int32} {c : Nat} {x : Int32} (h : ∀ k, zb (f k)) (hx : zb x) (k : Nat) : zb (fu f c x k) := by unfold fu; split; exact hx; exact h _
theorem c_dropL {i c : Nat} {v m : Nat → Int32} (hi : i < gT p) (hc : c ≤ 4) (hm : ∀ k, zb (m k)) {K : Int32 → PH → Prop} {Q : PH → Prop} (hK : K (nI c) (S p (setQ I i c (sh v c) (sh m c)) J)) : ∀ (f k : Nat), 1 ≤ k → k ≤ c → k + f = c + 1 → l3_dropFirst_2 (16, i, 0) K Q f (nI k) (S p (setQ I i c (sh v k) (sh m k)) J) := by
  intro f
  induction f with
  | zero => intro k h1 h2 h3; omega
  | succ f ih =>
    intro k h1 h2 h3
    unfold l3_dropFirst_2
    simp only [hK_S, hL_S, hR_S, hI_S, setQ_c]
    refine ⟨kq16 hi, fun q => ?_, fun q => ?_⟩
    · rw [nI_leI (by omega) (by omega)] at q
      have : k = c := by omega
      subst this; exact hK
    · rw [nI_leI (by omega) (by omega)] at q
      refine ⟨_, rq162 hi, kq17 hi, ?_, ?_, ?_⟩
      · rw [lq17 hi, vin_nI (by omega) (by omega)]; omega
      · rw [lq17 hi, nI_sub1 h1, vin_nI (by omega) (by omega)]; omega
      · rw [forall_eq, nI_sub1 h1, nI_clamp (by omega), nI_clamp (by omega), setQ_v, sI_S, setQ_uv, sh_step h1]
        refine ⟨_, rq163 hi, kq18 hi, ?_, ?_, ?_, ?_⟩
        · rw [lq18 hi, vin_nI (by omega) (by omega)]; omega
        · rw [lq18 hi, vin_nI (by omega) (by omega)]; omega
        · rw [hI_S, setQ_m]; exact sh_zb hm _
        · rw [forall_eq, hI_S, setQ_m, sI_S, setQ_um, sh_step h1, nI_1]
          exact ih (k + 1) (by omega) (by omega) (by omega)
theorem c_drop {i c : Nat} {v m : Nat → Int32} (hi : i < gT p) (h1 : 1 ≤ c) (hc : c ≤ 4) (hm : ∀ k, zb (m k)) {Q : PH → Prop} (h : Q (S p (setQ I i (c - 1) (sh v c) (sh m c)) J)) : w3_dropFirst (16, i, 0) (S p (setQ I i c v m) J) Q := by
  unfold w3_dropFirst
  refine ⟨c, ?_⟩
  have key := c_dropL (I := I) (J := J) (v := v) (m := m) hi hc hm (K := fun y1 τ1 => hK τ1 (16, i, 0) = 4 ∧ (((hI τ1 (16, i, 0) 4) ≤ 0 → Q τ1) ∧ (¬ ((hI τ1 (16, i, 0) 4) ≤ 0) → ∀ σ3 : PH, σ3 = sI τ1 (16, i, 0) 4 ((hI τ1 (16, i, 0) 4) - 1) → Q σ3))) (Q := Q) ?_ c 1 (Nat.le_refl _) h1 (by omega)
  · rw [sh_1, sh_1] at key; exact key
  · simp only [hK_S, hI_S, setQ_c]
    refine ⟨kq16 hi, fun q => ?_, fun _ => ?_⟩
    · rw [nI_le0 (by omega)] at q; omega
    · rw [forall_eq, sI_S, nI_sub1 h1, setQ_uc]; exact h
def qN (sz c : Nat) : Nat := if c < sz then c + 1 else sz
def qV (sz c : Nat) (d : Int32) (v : Nat → Int32) (x : Int32) : Nat → Int32 := if c < sz then fu v c x else if d = 0 then fu v (sz - 1) x else fu (sh v c) (c - 1) x
def qM (sz c : Nat) (d : Int32) (m : Nat → Int32) : Nat → Int32 := if c < sz then fu m c 0 else if d = 0 then fu m (sz - 1) 1 else fu (fu (sh m c) (c - 1) 0) 0 1
theorem qM_zb {sz c : Nat} {d : Int32} {m : Nat → Int32} (h : ∀ k, zb (m k)) (k : Nat) : zb (qM sz c d m k) := by
  unfold qM; split
  · exact fu_zb h zb0 k
  · split
    · exact fu_zb h zb1 k
    · exact fu_zb (fu_zb (sh_zb h) zb0) zb1 k
theorem c_put {i c sz : Nat} {d x : Int32} {v m : Nat → Int32} (hi : i < gT p) (hs1 : 1 ≤ sz) (hs : sz ≤ 4) (hc : c ≤ sz) (hm : ∀ k, zb (m k)) (h0 : I (16, i, 0) 0 = nI sz) (hd : I (16, i, 0) 1 = d) {Q : PH → Prop} (h : Q (S p (setQ I i (qN sz c) (qV sz c d v x) (qM sz c d m)) J)) : w3_put (16, i, 0) x (S p (setQ I i c v m) J) Q := by
  have g0 : ∀ {c : Nat} {v m : Nat → Int32}, setQ I i c v m (16, i, 0) 0 = nI sz := by intro c v m; rw [setQ_o (by simp) (by simp) (by simp)]; exact h0
  have g1 : ∀ {c : Nat} {v m : Nat → Int32}, setQ I i c v m (16, i, 0) 1 = d := by intro c v m; rw [setQ_o (by simp) (by simp) (by simp)]; exact hd
  unfold w3_put
  simp only [hK_S, hI_S, setQ_c, g0, g1]
  refine ⟨kq16 hi, fun q => ⟨fun e => ?_, fun e => ?_⟩, fun q => ?_⟩
  · rw [nI_leI (by omega) (by omega)] at q
    rw [forall_eq, sI_S, nI_sub1 hs1, setQ_uc]
    refine c_append hi (by omega) zb1 ?_
    have hlt : ¬ c < sz := by omega
    simp only [qN, qV, qM, if_neg hlt, if_pos e] at h
    rw [show sz - 1 + 1 = sz by omega]; exact h
  · rw [nI_leI (by omega) (by omega)] at q
    refine c_drop hi (by omega) (by omega) hm ?_
    refine c_append hi (by omega) zb0 ?_
    refine ⟨_, rq163 hi, kq18 hi, by rw [hL_S, lq18 hi]; exact (vin_nI (n := 0) (by omega) (by omega)).mpr (by omega), ?_⟩
    rw [forall_eq, show Int32.toNatClampNeg 0 = 0 from rfl, sI_S, setQ_um]
    have hlt : ¬ c < sz := by omega
    simp only [qN, qV, qM, if_neg hlt, if_neg e] at h
    rw [show c - 1 + 1 = sz by omega]; exact h
  · rw [nI_leI (by omega) (by omega)] at q
    refine c_append hi (by omega) zb0 ?_
    rw [qN, qV, qM, if_pos (by omega), if_pos (by omega), if_pos (by omega)] at h
    exact h
/-- an item takes in a sample -/
def enq (I : IF) (i sz c : Nat) (d : Int32) (v m : Nat → Int32) (x : Int32) : IF := up (up (setQ I i (qN sz c) (qV sz c d v x) (qM sz c d m)) (14, i, 0) 9 x) (14, i, 0) 8 (I (14, i, 0) 8 + 1)
theorem c_enqueue {i c sz : Nat} {d x : Int32} {v m : Nat → Int32} (hi : i < gT p) (hq : isQ I i c v m) (hs1 : 1 ≤ sz) (hs : sz ≤ 4) (hc : c ≤ sz) (hm : ∀ k, zb (m k)) (h0 : I (16, i, 0) 0 = nI sz) (hd : I (16, i, 0) 1 = d) {Q : PH → Prop} (h : Q (S p (enq I i sz c d v m x) J)) : w1_enqueue (14, i, 0) x (S p I J) Q := by
  unfold w1_enqueue
  refine ⟨kq14 hi, _, rq145 hi, kq16 hi, ?_⟩
  rw [show S p I J = S p (setQ I i c v m) J by rw [setQ_id hq]]
  refine c_put hi hs1 hs hc hm h0 hd ?_
  rw [forall_eq, sI_S, forall_eq, sI_S, hI_S, up_nj (by decide), setQ_o (by simp) (by simp) (by simp)]
  exact h
/-- whether a value leaves an item's band -/
abbrev far (x last band : Int32) : Prop := ¬ ((if 0 ≤ (x - last) then (x - last) else 0 - (x - last)) ≤ band)
theorem c_leaves {i : Nat} {x y : Int32} (hi : i < gT p) {Q : Int32 → PH → Prop} (h1 : ¬ far x y (I (14, i, 0) 3) → Q 0 (S p I J)) (h2 : far x y (I (14, i, 0) 3) → Q 1 (S p I J)) : w1_leavesBand (14, i, 0) x y (S p I J) Q := by
  unfold w1_leavesBand
  rw [forall_eq]
  refine ⟨kq14 hi, fun g => h1 (fun q => q g), fun g => h2 g⟩
theorem c_sample {i : Nat} {x : Int32} (hi : i < gT p) {Q : PH → Prop} (h1 : ¬ far x (I (14, i, 0) 9) (I (14, i, 0) 3) → Q (S p I J)) (h2 : far x (I (14, i, 0) 9) (I (14, i, 0) 3) → w1_enqueue (14, i, 0) x (S p I J) Q) : w1_sample (14, i, 0) x (S p I J) Q := by
  unfold w1_sample
  refine ⟨kq14 hi, c_leaves hi (fun g => ⟨fun _ => h1 g, fun q => absurd rfl q⟩) (fun g => ⟨fun q => absurd q (by decide), fun _ => h2 g⟩)⟩
theorem c_tick {n : Nm} {a e : Int32} (hk : Kf p n = 6) (ha : I n 1 = a) (he : I n 0 = e) {Q : Int32 → PH → Prop} (h1 : a - 1 ≤ 0 → Q 1 (S p (up (up I n 1 (a - 1)) n 1 e) J)) (h2 : ¬ a - 1 ≤ 0 → Q 0 (S p (up I n 1 (a - 1)) J)) : w5_countTick n (S p I J) Q := by
  unfold w5_countTick
  refine ⟨hk, ?_⟩
  rw [forall_eq, hI_S, ha, sI_S, hI_S, up_same]
  refine ⟨fun g => ?_, fun g => h2 g⟩
  rw [forall_eq, sI_S, up_nj (by decide), he]; exact h1 g
end
