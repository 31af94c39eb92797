/-! The law's sampling. -/
theorem neg_small : ∀ e, e < 1001 → (nI 0 - nI e).toInt ≤ 0 := by decide +kernel
theorem lt_sub {x l b : Nat} (hx : x ≤ 1000) (hl : l ≤ 1000) (hb : b ≤ 1000) : nI x < nI l - nI b ↔ x + b < l := by
  by_cases h : b ≤ l
  · rw [nI_sub h, nI_ltI (by omega) (by omega)]; omega
  · have e : nI l - nI b = nI 0 - nI (b - l) := by
      have : nI b = nI l + nI (b - l) := by rw [nI_add]; congr 1; omega
      rw [this, show nI 0 = nI l - nI l by rw [Int32.sub_self]; rfl, Int32.sub_sub]
    rw [e, Int32.lt_iff_toInt_lt, nI_toInt (by omega)]
    have := neg_small (b - l) (by omega)
    omega
/-- outside the band: the law's two comparisons -/
theorem awy_iff {x l b : Nat} (hx : x ≤ 1000) (hl : l ≤ 1000) (hb : b ≤ 1000) : awy x l b ↔ (nI l + nI b < nI x ∨ nI x < nI l - nI b) := by
  rw [nI_add, nI_ltI (by omega) (by omega), lt_sub hx hl hb]
  show b < (if x ≤ l then l - x else x - l) ↔ _
  by_cases h : x ≤ l
  · rw [if_pos h]; omega
  · rw [if_neg h]; omega
theorem x_shL {P : PP} {I : IF} {J : JF} {i sz : Nat} {x1 : Int32} (hi : i < 10) (s1 : 1 ≤ sz) (s4 : sz ≤ 4) {w : Nat → Int32} {K : Int32 → PH → Prop} {Q : PH → Prop} (h8 : ∀ k, k < sz → I (23, 8, 0) (4 * i + k) = w k) (hK : ∀ I', (∀ n j, n ≠ (23, 8, 0) → I' n j = I n j) → (∀ j, ¬ (4 * i ≤ j ∧ j < 4 * i + 4) → I' (23, 8, 0) j = I (23, 8, 0) j) → (∀ k, k + 1 < sz → I' (23, 8, 0) (4 * i + k) = w (k + 1)) → K (nI sz) (S P I' J)) : ∀ (d m : Nat) (I1 : IF), m + d = sz → 1 ≤ m → (∀ n j, n ≠ (23, 8, 0) → I1 n j = I n j) → (∀ j, ¬ (4 * i ≤ j ∧ j < 4 * i + 4) → I1 (23, 8, 0) j = I (23, 8, 0) j) → (∀ k, k + 1 < m → I1 (23, 8, 0) (4 * i + k) = w (k + 1)) → (∀ k, m ≤ k → k < sz → I1 (23, 8, 0) (4 * i + k) = w k) → lL_sample_139 (nI i) (23, 8, 0) x1 (nI sz) K Q (d + 1) (nI m) (S P I1 J) := by
  intro d
  induction d with
  | zero =>
    intro m I1 h1 h2 g1 g2 g3 g4
    have : m = sz := by omega
    subst this
    unfold lL_sample_139
    exact ⟨fun _ => hK I1 g1 g2 g3, fun q => absurd ((nI_leI (by omega) (by omega)).mpr (Nat.le_refl _)) q⟩
  | succ d ih =>
    intro m I1 h1 h2 g1 g2 g3 g4
    unfold lL_sample_139
    refine ⟨fun q => ?_, fun _ => ⟨rfl, ?_, ?_, ?_⟩⟩
    · rw [nI_leI (by omega) (by omega)] at q; omega
    · rw [nIx4, nI_add]; exact vinL 40 rfl (by omega) (by decide)
    · rw [nIx4, nI_add, nI_sub1 (by omega)]; exact vinL 40 rfl (by omega) (by decide)
    · rw [forall_eq, nIx4, nI_add, nI_sub1 (by omega), nI_clamp (by omega), nI_clamp (by omega), hI_S, sI_S, nI_1, g4 m (Nat.le_refl _) (by omega)]
      refine ih (m + 1) _ (by omega) (by omega) (fun n j hn => ?_) (fun j hj => ?_) (fun k hk => ?_) (fun k k1 k2 => ?_)
      · rw [up_ne (fun q => hn q.1)]; exact g1 n j hn
      · rw [up_nj (by omega)]; exact g2 j hj
      · by_cases e : k + 1 = m
        · rw [show 4 * i + k = 4 * i + m - 1 by omega, up_same, e]
        · rw [up_nj (by omega)]; exact g3 k (by omega)
      · rw [up_nj (by omega)]; exact g4 k (by omega) k2
set_option maxHeartbeats 1000000 in
theorem x_sample {P : PP} {I : IF} {J : JF} {i N cq x ls c : Nat} {v m : Nat → Int32} (hi : i < 10) (hN : N < 2 ^ 31) (hnd : N / 2 % 16 < 3) (bd1 : N / 32768 ≤ 1000) (x1 : x ≤ 1000) (s1 : 1 ≤ N / 1024 % 8) (s4 : N / 1024 % 8 ≤ 4) (hc : c ≤ N / 1024 % 8) (hcq : cq < 6000) (hm : ∀ k, zb (m k)) (e2 : I (23, 2, 0) i = nI N) (e0 : I (23, 0, 0) (N / 2 % 16) = nI x) (e4 : 0 < cq → I (23, 4, 0) i = nI ls ∧ ls ≤ 1000) (e5 : I (23, 5, 0) i = nI cq) (e6 : I (23, 6, 0) i = nI c) (e8 : ∀ k, k < c → I (23, 8, 0) (4 * i + k) = nI (2 * tn (v k) + tn (m k))) {Q : PH → Prop} (h1 : 0 < cq → ¬ awy x ls (N / 32768) → Q (S P I J)) (h2 : (cq = 0 ∨ awy x ls (N / 32768)) → ∀ I', (∀ n j, n ≠ (23, 4, 0) → n ≠ (23, 5, 0) → n ≠ (23, 6, 0) → n ≠ (23, 8, 0) → I' n j = I n j) → (∀ k j, k ≠ 8 → j ≠ i → I' (23, k, 0) j = I (23, k, 0) j) → (∀ j, ¬ (4 * i ≤ j ∧ j < 4 * i + 4) → I' (23, 8, 0) j = I (23, 8, 0) j) → I' (23, 4, 0) i = nI x → I' (23, 5, 0) i = nI (cq + 1) → I' (23, 6, 0) i = nI (qN (N / 1024 % 8) c) → (∀ k, k < qN (N / 1024 % 8) c → I' (23, 8, 0) (4 * i + k) = nI (2 * tn (qV (N / 1024 % 8) c (nI (N / 8192 % 2)) v (nI x) k) + tn (qM (N / 1024 % 8) c (nI (N / 8192 % 2)) m k))) → Q (S P I' J)) : wL_sample (nI i) (23, 0, 0) (23, 2, 0) (23, 4, 0) (23, 5, 0) (23, 6, 0) (23, 8, 0) (S P I J) Q := by
  have v10 : ∀ {σ : PH} {n : Nm}, hL σ n = 10 → vp_in (nI i) (hL σ n) := fun e => vinL 10 e hi (by decide)
  have ci : (nI i).toNatClampNeg = i := nI_clamp (by omega)
  have tz : ∀ {y : Int32}, zb y → tn y ≤ 1 := fun h => by rcases h with rfl | rfl <;> decide
  have tx : tn (nI x) = x := tn_nI (by omega)
  have t0 : tn (0 : Int32) = 0 := rfl
  have t1 : tn (1 : Int32) = 1 := rfl
  unfold wL_sample
  simp only [hI_S, ci, e2, fld_node hN, fld_band hN, forall_eq]
  rw [nI_clamp (show N / 2 % 16 < 2 ^ 31 by omega), e0]
  refine ⟨rfl, v10 rfl, rfl, vinL 3 rfl hnd (by decide), rfl, v10 rfl, ?_⟩
  refine jP_i (cq = 0 ∨ awy x ls (N / 32768)) (fun hA => ?_) (fun K hK => ?_)
  · have h2 := h2 hA
    simp only [sI_S, hI_S]
    rw [e5, nI_1]
    generalize hI2 : up (up I (23, 5, 0) i (nI (cq + 1))) (23, 4, 0) i (nI x) = I2
    have f2 : I2 (23, 2, 0) i = nI N := by rw [← hI2, up_ne (by simp), up_ne (by simp)]; exact e2
    have f6 : I2 (23, 6, 0) i = nI c := by rw [← hI2, up_ne (by simp), up_ne (by simp)]; exact e6
    have f4 : I2 (23, 4, 0) i = nI x := by rw [← hI2, up_same]
    have f5 : I2 (23, 5, 0) i = nI (cq + 1) := by rw [← hI2, up_ne (by simp), up_same]
    have f8 : ∀ j, I2 (23, 8, 0) j = I (23, 8, 0) j := fun j => by rw [← hI2, up_ne (by simp), up_ne (by simp)]
    have fo : ∀ n j, n ≠ (23, 4, 0) → n ≠ (23, 5, 0) → I2 n j = I n j := fun n j g4 g5 => by rw [← hI2, up_ne (fun q => g4 q.1), up_ne (fun q => g5 q.1)]
    have fi : ∀ k j, j ≠ i → I2 (23, k, 0) j = I (23, k, 0) j := fun k j g => by rw [← hI2, up_nj g, up_nj g]
    refine ⟨rfl, v10 rfl, ?_⟩
    rw [f2, f6, fld_size hN, fld_drops hN]
    generalize hsz : N / 1024 % 8 = sz at *
    generalize hd : N / 8192 % 2 = d at *
    have hd2 : d < 2 := by omega
    refine ⟨rfl, v10 rfl, fun q => ⟨fun w => ?_, fun w => ?_⟩, fun q => ?_⟩
    · rw [nI_leI (by omega) (by omega)] at q
      rw [nI_e0 (by omega)] at w
      have hlt : ¬ c < sz := by omega
      have d1 : ¬ nI d = 0 := by rw [nI_e0 (by omega)]; exact w
      refine ⟨sz - 1 + 1, ?_⟩
      refine x_shL (I := I2) (w := fun k => nI (2 * tn (v k) + tn (m k))) hi s1 s4 (fun k hk => by rw [f8]; exact e8 k (by omega)) (fun I3 g1 g2 g3 => ?_) (sz - 1) 1 I2 (by omega) (Nat.le_refl _) (fun _ _ _ => rfl) (fun _ _ => rfl) (fun k hk => by omega) (fun k k1 k2 => by rw [f8]; exact e8 k (by omega))
      rw [nIx4, nI_add, nI_sub1 (by omega), nI_clamp (by omega), nI_clamp (show 4 * i < 2 ^ 31 by omega), show (2 : Int32) = nI 2 from rfl, nI_mul]
      refine ⟨rfl, vinL 40 rfl (by omega) (by decide), ?_⟩
      refine ⟨vinL 40 rfl (by omega) (by decide), ?_⟩
      simp only [sI_S, hI_S]
      simp only [qN, qV, qM, if_neg hlt, if_neg d1] at h2
      have cs : c = sz := by omega
      subst cs
      -- the first place
      have h0 : up I3 (23, 8, 0) (4 * i + c - 1) (nI (2 * x)) (23, 8, 0) (4 * i) = nI (2 * tn (fu (sh v c) (c - 1) (nI x) 0) + tn (fu (sh m c) (c - 1) 0 0)) := by
        unfold fu
        by_cases g : c = 1
        · subst g; rw [show 4 * i + 1 - 1 = 4 * i by omega, up_same, if_pos rfl, if_pos rfl, tx, t0, Nat.add_zero]
        · rw [up_nj (by omega), if_neg (by omega), if_neg (by omega)]
          have := g3 0 (by omega)
          rw [Nat.add_zero] at this
          rw [this]; unfold sh; rw [if_pos (by omega), if_pos (by omega)]
      rw [h0, or1 (tz (fu_zb (sh_zb hm) zb0 0))]
      refine h2 _ (fun n j n4 n5 n6 n8 => ?_) (fun k j k8 ji => ?_) (fun j hj => ?_) ?_ ?_ ?_ (fun k hk => ?_)
      · rw [up_ne (fun q => n8 q.1), up_ne (fun q => n8 q.1), g1 n j n8, fo n j n4 n5]
      · rw [up_ne (fun q => n23 k8 q.1), up_ne (fun q => n23 k8 q.1), g1 _ j (n23 k8), fi k j ji]
      · rw [up_nj (by omega), up_nj (by omega), g2 j hj, f8]
      · rw [up_ne (by simp), up_ne (by simp), g1 _ _ (by simp)]; exact f4
      · rw [up_ne (by simp), up_ne (by simp), g1 _ _ (by simp)]; exact f5
      · rw [up_ne (by simp), up_ne (by simp), g1 _ _ (by simp)]; exact f6
      · by_cases k0 : k = 0
        · subst k0
          rw [show 4 * i + 0 = 4 * i from rfl, up_same]
          show _ = nI (2 * tn (fu (sh v c) (c - 1) (nI x) 0) + tn (fu (fu (sh m c) (c - 1) 0) 0 1 0))
          rw [show fu (fu (sh m c) (c - 1) 0) 0 1 0 = (1 : Int32) from if_pos rfl, t1]
        · rw [up_nj (by omega)]
          show _ = nI (2 * tn (fu (sh v c) (c - 1) (nI x) k) + tn (fu (fu (sh m c) (c - 1) 0) 0 1 k))
          rw [show fu (fu (sh m c) (c - 1) 0) 0 1 k = fu (sh m c) (c - 1) 0 k from if_neg k0]
          unfold fu
          by_cases g : k = c - 1
          · rw [if_pos g, if_pos g, show 4 * i + k = 4 * i + c - 1 by omega, up_same, tx, t0, Nat.add_zero]
          · rw [if_neg g, if_neg g, up_nj (by omega), g3 k (by omega)]
            unfold sh; rw [if_pos (by omega), if_pos (by omega)]
    · rw [nI_leI (by omega) (by omega)] at q
      rw [nI_e0 (by omega)] at w
      have hlt : ¬ c < sz := by omega
      have d0 : nI d = 0 := by rw [w]; rfl
      rw [nIx4, nI_add, nI_sub1 (by omega), nI_clamp (by omega), show (2 : Int32) = nI 2 from rfl, nI_mul, nI_1]
      refine ⟨rfl, vinL 40 rfl (by omega) (by decide), ?_⟩
      simp only [qN, qV, qM, if_neg hlt, if_pos d0] at h2
      refine h2 _ (fun n j n4 n5 n6 n8 => ?_) (fun k j k8 ji => ?_) (fun j hj => ?_) ?_ ?_ ?_ (fun k hk => ?_)
      · rw [up_ne (fun q => n8 q.1), fo n j n4 n5]
      · rw [up_ne (fun q => n23 k8 q.1), fi k j ji]
      · rw [up_nj (by omega), f8]
      · rw [up_ne (by simp)]; exact f4
      · rw [up_ne (by simp)]; exact f5
      · rw [up_ne (by simp)]; rw [f6]; congr 1; omega
      · unfold fu
        by_cases g : k = sz - 1
        · rw [if_pos g, if_pos g, show 4 * i + k = 4 * i + sz - 1 by omega, up_same, tx, t1]
        · rw [if_neg g, if_neg g, up_nj (by omega), f8]; exact e8 k (by omega)
    · rw [nI_leI (by omega) (by omega)] at q
      have hlt : c < sz := by omega
      rw [nIx4, nI_add, nI_clamp (by omega), show (2 : Int32) = nI 2 from rfl, nI_mul]
      refine ⟨rfl, vinL 40 rfl (by omega) (by decide), ?_⟩
      rw [up_ne (by simp), f6, nI_1]
      simp only [qN, qV, qM, if_pos hlt] at h2
      refine h2 _ (fun n j n4 n5 n6 n8 => ?_) (fun k j k8 ji => ?_) (fun j hj => ?_) ?_ ?_ ?_ (fun k hk => ?_)
      · rw [up_ne (fun q => n6 q.1), up_ne (fun q => n8 q.1), fo n j n4 n5]
      · rw [up_nj ji, up_ne (fun q => n23 k8 q.1), fi k j ji]
      · rw [up_ne (by simp), up_nj (by omega), f8]
      · rw [up_ne (by simp), up_ne (by simp)]; exact f4
      · rw [up_ne (by simp), up_ne (by simp)]; exact f5
      · rw [up_same]
      · rw [up_ne (by simp)]
        unfold fu
        by_cases g : k = c
        · rw [if_pos g, if_pos g, g, up_same, tx, t0, Nat.add_zero]
        · rw [if_neg g, if_neg g, up_nj (by omega), f8]; exact e8 k (by omega)
  · rw [e5]
    refine ⟨fun q => hK (Or.inl ?_), fun q => ⟨rfl, v10 rfl, ?_⟩⟩
    · rw [nI_le0 (by omega)] at q; exact q
    · rw [nI_le0 (by omega)] at q
      obtain ⟨g4, l1⟩ := e4 (by omega)
      have hA := awy_iff (b := N / 32768) x1 l1 bd1
      rw [g4]
      exact ⟨fun w => hK (Or.inr (hA.mpr (Or.inl w))), fun w => ⟨fun u => hK (Or.inr (hA.mpr (Or.inr u))), fun u => h1 (by omega) (fun z => (hA.mp z).elim w u)⟩⟩
