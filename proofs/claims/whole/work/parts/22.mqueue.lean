/-! The model's queues. -/
section
variable {p : PP} {I : IF} {J : JF}
def setR (I : IF) (i c : Nat) (v m : Nat → Int32) : IF := fun n j => if n = (21, 27, 0) ∧ j = i then nI c else if n = (21, 28, 0) ∧ 4 * i ≤ j ∧ j < 4 * i + 4 then v (j - 4 * i) else if n = (21, 29, 0) ∧ 4 * i ≤ j ∧ j < 4 * i + 4 then m (j - 4 * i) else I n j
def isR (I : IF) (i c : Nat) (v m : Nat → Int32) : Prop := I (21, 27, 0) i = nI c ∧ (∀ k, k < 4 → I (21, 28, 0) (4 * i + k) = v k) ∧ (∀ k, k < 4 → I (21, 29, 0) (4 * i + k) = m k)
theorem setR_id {i c : Nat} {v m : Nat → Int32} (h : isR I i c v m) : setR I i c v m = I := by
  funext n j
  unfold setR
  split
  · next g => rw [g.1, g.2, h.1]
  · split
    · next g => rw [g.1, ← h.2.1 (j - 4 * i) (by omega), show 4 * i + (j - 4 * i) = j by omega]
    · split
      · next g => rw [g.1, ← h.2.2 (j - 4 * i) (by omega), show 4 * i + (j - 4 * i) = j by omega]
      · rfl
theorem setR_c {i c : Nat} {v m : Nat → Int32} : setR I i c v m (21, 27, 0) i = nI c := if_pos ⟨rfl, rfl⟩
theorem setR_v {i c k : Nat} {v m : Nat → Int32} (h : k < 4) : setR I i c v m (21, 28, 0) (4 * i + k) = v k := by
  rw [setR, if_neg (by simp), if_pos ⟨rfl, by omega, by omega⟩, Nat.add_sub_cancel_left]
theorem setR_m {i c k : Nat} {v m : Nat → Int32} (h : k < 4) : setR I i c v m (21, 29, 0) (4 * i + k) = m k := by
  rw [setR, if_neg (by simp), if_neg (by simp), if_pos ⟨rfl, by omega, by omega⟩, Nat.add_sub_cancel_left]
theorem setR_o {i c : Nat} {v m : Nat → Int32} {n : Nm} {j : Nat} (h1 : ¬ (n = (21, 27, 0) ∧ j = i)) (h2 : ¬ (n = (21, 28, 0) ∧ 4 * i ≤ j ∧ j < 4 * i + 4)) (h3 : ¬ (n = (21, 29, 0) ∧ 4 * i ≤ j ∧ j < 4 * i + 4)) : setR I i c v m n j = I n j := by rw [setR, if_neg h1, if_neg h2, if_neg h3]
theorem setR_on {i c : Nat} {v m : Nat → Int32} {n : Nm} {j : Nat} (h1 : n ≠ (21, 27, 0)) (h2 : n ≠ (21, 28, 0)) (h3 : n ≠ (21, 29, 0)) : setR I i c v m n j = I n j := setR_o (fun q => h1 q.1) (fun q => h2 q.1) (fun q => h3 q.1)
theorem setR_uc {i c d : Nat} {v m : Nat → Int32} : up (setR I i c v m) (21, 27, 0) i (nI d) = setR I i d v m := by
  funext n j; unfold up setR; split <;> rfl
theorem setR_uv {i c k : Nat} {x : Int32} {v m : Nat → Int32} (h : k < 4) : up (setR I i c v m) (21, 28, 0) (4 * i + k) x = setR I i c (fu v k x) m := by
  funext n j; unfold up setR fu
  by_cases g : n = (21, 28, 0)
  · subst g
    by_cases e : j = 4 * i + k
    · subst e
      simp [h]
    · by_cases q : 4 * i ≤ j ∧ j < 4 * i + 4
      · have e' : ¬ j - 4 * i = k := by omega
        simp [e, q, e']
      · simp only [e, q]; simp
  · simp [g]
theorem setR_um {i c k : Nat} {x : Int32} {v m : Nat → Int32} (h : k < 4) : up (setR I i c v m) (21, 29, 0) (4 * i + k) x = setR I i c v (fu m k x) := by
  funext n j; unfold up setR fu
  by_cases g : n = (21, 29, 0)
  · subst g
    by_cases e : j = 4 * i + k
    · subst e
      simp [h]
    · by_cases q : 4 * i ≤ j ∧ j < 4 * i + 4
      · have e' : ¬ j - 4 * i = k := by omega
        simp [e, q, e']
      · simp only [e, q]; simp
  · simp [g]
theorem m_puts {i c k : Nat} {x y : Int32} {v m : Nat → Int32} (hi : i < 16) (hk : k < 4) (hy : zb y) {Q : PH → Prop} (h : Q (S p (setR I i c (fu v k x) (fu m k y)) J)) : w7_puts (20, 0, 0) (nI (4 * i + k)) x y (S p (setR I i c v m) J) Q := by
  unfold w7_puts
  refine ⟨rfl, _, rfl, rfl, vinL 64 rfl (by omega) (by decide), ?_⟩
  rw [forall_eq, nI_clamp (by omega), sI_S, setR_uv hk]
  refine ⟨_, rfl, rfl, vinL 64 rfl (by omega) (by decide), hy, ?_⟩
  rw [forall_eq, sI_S, setR_um hk]; exact h
theorem m_dropL {i c : Nat} {v m : Nat → Int32} (hi : i < 16) (hc : c ≤ 4) (hm : ∀ k, zb (m k)) {K : Int32 → PH → Prop} {Q : PH → Prop} (hK : K (nI (4 * i + c)) (S p (setR I i c (sh v c) (sh m c)) J)) : ∀ (f k : Nat), 1 ≤ k → k ≤ c → k + f = c + 1 → l7_takesFirst_6 (20, 0, 0) (nI i) K Q f (nI (4 * i + k)) (S p (setR I i c (sh v k) (sh m k)) J) := by
  intro f
  induction f with
  | zero => intro k h1 h2 h3; omega
  | succ f ih =>
    intro k h1 h2 h3
    unfold l7_takesFirst_6
    refine ⟨rfl, _, rfl, rfl, vinL 16 rfl hi (by decide), ?_⟩
    rw [hI_S, nI_clamp (by omega), setR_c, nIx4, nI_add]
    refine ⟨fun q => ?_, fun q => ?_⟩
    · rw [nI_leI (by omega) (by omega)] at q
      have : k = c := by omega
      subst this; exact hK
    · rw [nI_leI (by omega) (by omega)] at q
      refine ⟨_, rfl, rfl, vinL 64 rfl (by omega) (by decide), _, rfl, rfl, vinL 64 rfl (by omega) (by decide), ?_⟩
      rw [nI_clamp (by omega), setR_v (by omega), setR_m (by omega), nI_sub1 (by omega), show 4 * i + k - 1 = 4 * i + (k - 1) by omega]
      refine m_puts hi (by omega) (sh_zb hm _) ?_
      rw [sh_step h1, sh_step h1, nI_1, show 4 * i + k + 1 = 4 * i + (k + 1) by omega]
      exact ih (k + 1) (by omega) (by omega) (by omega)
theorem m_drop {i c : Nat} {v m : Nat → Int32} (hi : i < 16) (h1 : 1 ≤ c) (hc : c ≤ 4) (hm : ∀ k, zb (m k)) {Q : PH → Prop} (h : Q (S p (setR I i (c - 1) (sh v c) (sh m c)) J)) : w7_takesFirst (20, 0, 0) (nI i) (S p (setR I i c v m) J) Q := by
  unfold w7_takesFirst
  refine ⟨c, ?_⟩
  rw [nIx4, nI_1]
  have key := m_dropL (p := p) (I := I) (J := J) (v := v) (m := m) hi hc hm (K := fun _ τ1 => hK τ1 (20, 0, 0) = 8 ∧ ∃ m4 : Nm, hR τ1 (20, 0, 0) 27 = some m4 ∧ hK τ1 m4 = 9 ∧ vp_in (nI i) (hL τ1 m4) ∧ ∀ σ2 : PH, σ2 = sI τ1 m4 (Int32.toNatClampNeg (nI i)) ((hI τ1 m4 (Int32.toNatClampNeg (nI i))) - 1) → Q σ2) (Q := Q) ?_ c 1 (Nat.le_refl _) h1 (by omega)
  · rw [sh_1, sh_1] at key; exact key
  · refine ⟨rfl, _, rfl, rfl, vinL 16 rfl hi (by decide), ?_⟩
    rw [forall_eq, hI_S, nI_clamp (by omega), setR_c, nI_sub1 h1, sI_S, setR_uc]; exact h
/-- the model's item takes in a sample -/
def enqR (I : IF) (i sz c : Nat) (d : Int32) (v m : Nat → Int32) (x : Int32) : IF := setR (up (up I (21, 26, 0) i (I (21, 26, 0) i + 1)) (21, 25, 0) i x) i (qN sz c) (qV sz c d v x) (qM sz c d m)
set_option maxRecDepth 20000 in
theorem m_tail {i c sz : Nat} {x d : Int32} {v m : Nat → Int32} (hi : i < 16) (hs1 : 1 ≤ sz) (hs : sz ≤ 4) (hc : c ≤ sz) (hm : ∀ k, zb (m k)) (q2 : isR (up (up I (21, 26, 0) i (I (21, 26, 0) i + 1)) (21, 25, 0) i x) i c v m) (h0 : I (21, 20, 0) i = nI sz) (hd : I (21, 21, 0) i = d) {Q : PH → Prop} (h : Q (S p (enqR I i sz c d v m x) J)) : ∀ σ1 : PH, σ1 = sI (S p I J) ((21, 26, 0) : Nm) i ((hI (S p I J) ((21, 26, 0) : Nm) i) + 1) → ∀ σ2 : PH, σ2 = sI σ1 ((21, 25, 0) : Nm) i x → ∃ m5 : Nm, hR (S p I J) ((20, 0, 0) : Nm) 27 = some m5 ∧ hK σ2 m5 = 9 ∧ vp_in (nI i) (hL (S p I J) m5) ∧ ∃ m6 : Nm, hR (S p I J) ((20, 0, 0) : Nm) 20 = some m6 ∧ hK σ2 m6 = 9 ∧ vp_in (nI i) (hL (S p I J) m6) ∧ (((hI σ2 m6 i) ≤ (hI σ2 m5 i) → ∃ m7 : Nm, hR (S p I J) ((20, 0, 0) : Nm) 21 = some m7 ∧ hK σ2 m7 = 10 ∧ vp_in (nI i) (hL (S p I J) m7) ∧ (((hI σ2 m7 i) = 0 → w7_puts ((20, 0, 0) : Nm) (((4 * (nI i)) + (hI σ2 m5 i)) - 1) x 1 σ2 (fun σ3 => Q σ3)) ∧ (¬ ((hI σ2 m7 i) = 0) → w7_takesFirst ((20, 0, 0) : Nm) (nI i) σ2 (fun σ4 => ∃ m8 : Nm, hR σ4 ((20, 0, 0) : Nm) 27 = some m8 ∧ hK σ4 m8 = 9 ∧ vp_in (nI i) (hL σ4 m8) ∧ w7_puts ((20, 0, 0) : Nm) ((4 * (nI i)) + (hI σ4 m8 i)) x 0 σ4 (fun σ5 => ∃ m9 : Nm, hR σ5 ((20, 0, 0) : Nm) 27 = some m9 ∧ hK σ5 m9 = 9 ∧ vp_in (nI i) (hL σ5 m9) ∧ ∀ σ6 : PH, σ6 = sI σ5 m9 i ((hI σ5 m9 i) + 1) → ∃ m10 : Nm, hR σ5 ((20, 0, 0) : Nm) 29 = some m10 ∧ hK σ6 m10 = 10 ∧ vp_in (4 * (nI i)) (hL σ5 m10) ∧ ∀ σ7 : PH, σ7 = sI σ6 m10 (Int32.toNatClampNeg (4 * (nI i))) 1 → Q σ7))))) ∧ (¬ ((hI σ2 m6 i) ≤ (hI σ2 m5 i)) → w7_puts ((20, 0, 0) : Nm) ((4 * (nI i)) + (hI σ2 m5 i)) x 0 σ2 (fun σ8 => ∃ m11 : Nm, hR σ8 ((20, 0, 0) : Nm) 27 = some m11 ∧ hK σ8 m11 = 9 ∧ vp_in (nI i) (hL σ8 m11) ∧ ∀ σ9 : PH, σ9 = sI σ8 m11 i ((hI σ8 m11 i) + 1) → Q σ9))) := by
  have vi : ∀ {σ : PH} {n : Nm}, hL σ n = 16 → vp_in (nI i) (hL σ n) := fun e => vinL 16 e hi (by decide)
  rw [forall_eq, forall_eq, sI_S, hI_S, sI_S]
  unfold enqR at h
  generalize hI2 : up (up I (21, 26, 0) i (I (21, 26, 0) i + 1)) (21, 25, 0) i x = I2 at h q2 ⊢
  have h0 : ∀ {c : Nat} {v m : Nat → Int32}, setR I2 i c v m (21, 20, 0) i = nI sz := by
    intro c v m; rw [setR_on (by simp) (by simp) (by simp), ← hI2, up_ne (by simp), up_ne (by simp)]; exact h0
  have hd : ∀ {c : Nat} {v m : Nat → Int32}, setR I2 i c v m (21, 21, 0) i = d := by
    intro c v m; rw [setR_on (by simp) (by simp) (by simp), ← hI2, up_ne (by simp), up_ne (by simp)]; exact hd
  rw [show S p I2 J = S p (setR I2 i c v m) J by rw [setR_id q2]]
  refine ⟨_, rfl, rfl, vi rfl, _, rfl, rfl, vi rfl, ?_⟩
  rw [hI_S, h0, setR_c, nI_leI (by omega) (by omega), nIx4, nI_add]
  refine ⟨fun q => ⟨_, rfl, rfl, vi rfl, ?_⟩, fun q => ?_⟩
  · have hlt : ¬ c < sz := by omega
    rw [hd]
    refine ⟨fun e => ?_, fun e => ?_⟩
    · rw [nI_sub1 (by omega), show 4 * i + c - 1 = 4 * i + (sz - 1) by omega]
      refine m_puts hi (by omega) zb1 ?_
      simp only [qN, qV, qM, if_neg hlt, if_pos e] at h
      rw [show c = sz by omega]; exact h
    · refine m_drop hi (by omega) (by omega) hm ?_
      refine ⟨_, rfl, rfl, vi rfl, ?_⟩
      rw [hI_S, setR_c, nI_add]
      refine m_puts hi (by omega) zb0 ?_
      refine ⟨_, rfl, rfl, vi rfl, ?_⟩
      rw [forall_eq, hI_S, setR_c, nI_1, sI_S, setR_uc]
      refine ⟨_, rfl, rfl, vinL 64 rfl (by omega) (by decide), ?_⟩
      rw [forall_eq, nI_clamp (by omega), sI_S, show (21, 29, 0) = ((21, 29, 0) : Nm) from rfl, show 4 * i = 4 * i + 0 from rfl, setR_um (by omega)]
      simp only [qN, qV, qM, if_neg hlt, if_neg e] at h
      rw [show c - 1 + 1 = sz by omega]; exact h
  · have hlt : c < sz := by omega
    refine m_puts hi (by omega) zb0 ?_
    refine ⟨_, rfl, rfl, vi rfl, ?_⟩
    rw [forall_eq, hI_S, setR_c, nI_1, sI_S, setR_uc]
    simp only [qN, qV, qM, if_pos hlt] at h
    exact h
/-- the model's distance -/
def farM (x last band : Int32) : Prop := ¬ ((if x ≤ last then last - x else x - last) ≤ band)
set_option maxRecDepth 20000 in
theorem m_samples {i c sz nd : Nat} {x d : Int32} {v m : Nat → Int32} (hi : i < 16) (hnd : nd < 10) (hN : I (21, 17, 0) i = nI nd) (hx : I (21, 2, 0) nd = x) (hq : isR I i c v m) (hs1 : 1 ≤ sz) (hs : sz ≤ 4) (hc : c ≤ sz) (hm : ∀ k, zb (m k)) (h0 : I (21, 20, 0) i = nI sz) (hd : I (21, 21, 0) i = d) {Q : PH → Prop} (h1 : ¬ I (21, 26, 0) i ≤ 0 → ¬ farM x (I (21, 25, 0) i) (I (21, 22, 0) i) → Q (S p I J)) (h2 : I (21, 26, 0) i ≤ 0 ∨ farM x (I (21, 25, 0) i) (I (21, 22, 0) i) → Q (S p (enqR I i sz c d v m x) J)) : w7_samples (20, 0, 0) (nI i) (S p I J) Q := by
  have vi : ∀ {σ : PH} {n : Nm}, hL σ n = 16 → vp_in (nI i) (hL σ n) := fun e => vinL 16 e hi (by decide)
  have fb : ∀ {y : Int32}, I (21, 22, 0) i < y ↔ ¬ y ≤ I (21, 22, 0) i := Int32.not_le.symm
  have q2 : isR (up (up I (21, 26, 0) i (I (21, 26, 0) i + 1)) (21, 25, 0) i x) i c v m := by
    refine ⟨?_, fun k hk => ?_, fun k hk => ?_⟩
    · rw [up_ne (by simp), up_ne (by simp)]; exact hq.1
    · rw [up_ne (by simp), up_ne (by simp)]; exact hq.2.1 k hk
    · rw [up_ne (by simp), up_ne (by simp)]; exact hq.2.2 k hk
  unfold w7_samples
  refine ⟨rfl, _, rfl, rfl, vi rfl, _, rfl, rfl, ?_, ?_⟩
  · rw [hI_S, nI_clamp (by omega), hN]; exact vinL 10 rfl hnd (by decide)
  rw [forall_eq, hI_S, nI_clamp (by omega), hN, nI_clamp (by omega), hx]
  have A3 : ∀ (y : Int32), (if x ≤ I (21, 25, 0) i then I (21, 25, 0) i - x else x - I (21, 25, 0) i) = y → ¬ I (21, 26, 0) i ≤ 0 → ¬ I (21, 22, 0) i < y → Q (S p I J) := by
    intro y hy g b
    refine h1 g (fun z => ?_)
    rw [fb] at b
    unfold farM at z
    rw [hy] at z
    exact b z
  have A2 : ∀ (y : Int32), (if x ≤ I (21, 25, 0) i then I (21, 25, 0) i - x else x - I (21, 25, 0) i) = y → I (21, 22, 0) i < y → farM x (I (21, 25, 0) i) (I (21, 22, 0) i) := by
    intro y hy b
    unfold farM; rw [hy]; exact fb.mp b
  refine ⟨_, rfl, rfl, vi rfl, fun g => ⟨_, rfl, rfl, vi rfl, fun q => ?_, fun q => ⟨_, rfl, rfl, vi rfl, fun b => ?_, fun b => A3 _ (if_pos g) q b⟩⟩, fun g => ⟨_, rfl, rfl, vi rfl, fun q => ?_, fun q => ⟨_, rfl, rfl, vi rfl, fun b => ?_, fun b => A3 _ (if_neg g) q b⟩⟩⟩
  · have h := h2 (Or.inl q); exact m_tail hi hs1 hs hc hm q2 h0 hd h
  · have h := h2 (Or.inr (A2 _ (if_pos g) b)); exact m_tail hi hs1 hs hc hm q2 h0 hd h
  · have h := h2 (Or.inl q); exact m_tail hi hs1 hs hc hm q2 h0 hd h
  · have h := h2 (Or.inr (A2 _ (if_neg g) b)); exact m_tail hi hs1 hs hc hm q2 h0 hd h
end
