/-! link: the call. -/
theorem nAI : ¬ xIA = xIO := by decide
theorem nIA : ¬ xIO = xIA := by decide
def lkC (T z v T' : Int32) (j : Nat) : Prop := (bq T j = false ∧ z = 0 ∧ v = 0 ∧ T' = T) ∨ (bq T j = false ∧ z = 1 ∧ v = 1 ∧ T' = T ^^^ (1 <<< (nI j &&& 31))) ∨ (bq T j = true ∧ z = 1 ∧ v = 0 ∧ T' = T) ∨ (bq T j = true ∧ z = 0 ∧ v = 1 ∧ T' = T ^^^ (1 <<< (nI j &&& 31)))
section
variable {N : Nat} {p : PP} {I : IF} {J : JF} {R : Int32 → Int32 → PH → Prop}
theorem lk_li (h : LI N p I) {I1 : IF} {i : Nat} {T' : Int32} (hi : i < gT p) (h1 : ∀ n j, ¬ (n = (14, i, 0) ∧ j = 7) → I1 n j = I n j) (h2 : I1 (14, i, 0) 7 = T') : LI N p (up (up I1 (20, 0, 0) 0 0) (21, 24, 0) i T') := by
  have h' := h
  obtain ⟨t, ⟨hW, hM, -⟩, -⟩ := h'
  refine LI_itm (I' := I1) h hi (fun n j q => h1 n j (fun w => q ⟨w.1, Or.inr w.2⟩)) (by rw [h1 _ _ (by simp)]; exact (hW.2.1 i hi).2.2.2.2.1) (fun n j q1 q2 => ?_) ?_ ?_
  · rw [up_ne (fun w => q2 (by rw [w.1]; exact ⟨rfl, Or.inr rfl, w.2⟩)), up_ne q1]
  · rw [up_ne (by simp), up_ne (by simp), h1 _ _ (by simp), h1 _ _ (by simp)]; exact (hM.2.2.1 i hi).2.2.2.2.2.2.2.1
  · rw [up_same, h2]
theorem lk_mo {p : PP} {I I1 : IF} {J : JF} {i j : Nat} {z v T' : Int32} {R : Int32 → PH → Prop} (hW : WF p I) (hM1 : MX p I I1) (hi : i < gT p) (hj : j < gT p) (li : I (6, gW p i, 0) 7 ≠ 0) (lj : I (6, gW p j, 0) 7 ≠ 0) (hij : i ≠ j) (ho : gW p i = gW p j) (hz : zb z) (hc : lkC (I (14, i, 0) 7) z v T' j) (g : R v (S p (up (up I1 (20, 0, 0) 0 0) (21, 24, 0) i T') J)) : w7_link (20, 0, 0) (nI i) (nI j) z (S p I1 J) R := by
  have h16 := hW.1.2.2.2.1
  unfold w7_link
  refine ⟨rfl, m_isItm hW hM1 (fun u hu e2 _ => ⟨fun w => absurd w (by decide), fun _ => m_isItm hW hM1 (fun u2 hu2 e3 _ => ⟨fun _ => ⟨fun w => absurd ((nI_eq (by omega) (by omega)).mp w) hij, fun _ => ⟨_, rfl, rfl, vinL 16 rfl (by omega) (by decide), vinL 16 rfl (by omega) (by decide), fun _ => ?_, fun w => absurd ?_ w⟩⟩, fun w => absurd w (by decide)⟩) (fun hn => absurd (hn j hj rfl) lj)⟩) (fun hn => absurd (hn i hi rfl) li)⟩
  · have ex : up I1 (20, 0, 0) 0 0 (21, 24, 0) i = I (14, i, 0) 7 := by rw [up_ne (by simp)]; exact (hM1.2.2.1 i hi).2.2.2.2.2.2.2.2.1
    rw [forall_eq, sI_S, hI_S, up_same]
    refine ⟨fun _ => ⟨_, rfl, rfl, vinL 16 rfl (by omega) (by decide), ?_⟩, fun w => absurd (by decide) w⟩
    rw [nI_clamp (by omega), ex, bq_tst _ (by omega)]
    simp only [forall_eq, sI_S]
    rcases hc with ⟨c1, rfl, rfl, rfl⟩ | ⟨c1, rfl, rfl, rfl⟩ | ⟨c1, rfl, rfl, rfl⟩ | ⟨c1, rfl, rfl, rfl⟩
    · refine ⟨fun _ => ⟨fun _ => ⟨fun _ => ?_, fun w => absurd rfl w⟩, fun w => absurd rfl w⟩, fun w => ?_⟩
      · rw [bq_cutI (by omega) c1]; exact g
      · rw [c1] at w; cases w
    · refine ⟨fun _ => ⟨fun w => absurd w (by decide), fun _ => ⟨fun w => absurd w (by decide), fun _ => ?_⟩⟩, fun w => ?_⟩
      · rw [← bq_put (by omega) c1]; exact g
      · rw [c1] at w; cases w
    · refine ⟨fun w => absurd c1 w, fun _ => ⟨fun w => absurd w (by decide), fun _ => ⟨fun _ => ?_, fun w => absurd rfl w⟩⟩⟩
      rw [bq_putI (by omega) c1]; exact g
    · refine ⟨fun w => absurd c1 w, fun _ => ⟨fun _ => ⟨fun w => absurd w (by decide), fun _ => ?_⟩, fun w => absurd rfl w⟩⟩
      rw [← bq_cut (by omega) c1]; exact g
  · rw [nI_clamp (by omega), nI_clamp (by omega), hI_S, (hM1.2.2.1 i hi).1, (hM1.2.2.1 j hj).1, ho]
theorem L_link {x y z : Int32} (hz : zb z) (h : LI N p I) (hR : ∀ r1 r2 p' I' J', LI N p' I' → I' (20, 0, 0) 0 = r1 → (r1 = 0 → (r2 = 0 → J' (22, 0, 0) 0 = 0) ∧ (r2 ≠ 0 → J' (22, 0, 0) 0 = 1)) → R r1 r2 (S p' I' J')) : wL_link (0, 0, 0) x y z (22, 0, 0) (S p I J) (fun r1 σ => hK σ (20, 0, 0) = 8 ∧ w7_link (20, 0, 0) x y z σ (fun r2 σ' => R r1 r2 σ')) := by
  have h' := h
  obtain ⟨t, ⟨hW, hM, -⟩, -⟩ := h'
  have h16 := hW.1.2.2.2.1
  have fin : ∀ (I1 : IF) (i j : Nat) (v T' : Int32), i < gT p → j < gT p → I (6, gW p i, 0) 7 ≠ 0 → I (6, gW p j, 0) 7 ≠ 0 → i ≠ j → gW p i = gW p j → (∀ n k, ¬ (n = (14, i, 0) ∧ k = 7) → I1 n k = I n k) → I1 (14, i, 0) 7 = T' → lkC (I (14, i, 0) 7) z v T' j → zb v ∧ ((v = 0 → hK (S p I1 J) (22, 0, 0) = 14 ∧ vp_in 0 (hL (S p I1 J) (22, 0, 0)) ∧ ∀ σ3 : PH, σ3 = sJ (S p I1 J) (22, 0, 0) (Int32.toNatClampNeg 0) 0 → (hK σ3 (20, 0, 0) = 8 ∧ w7_link (20, 0, 0) (nI i) (nI j) z σ3 (fun r2 σ' => R 0 r2 σ'))) ∧ (¬ (v = 0) → hK (S p I1 J) (22, 0, 0) = 14 ∧ vp_in 0 (hL (S p I1 J) (22, 0, 0)) ∧ ∀ σ4 : PH, σ4 = sJ (S p I1 J) (22, 0, 0) (Int32.toNatClampNeg 0) 1 → (hK σ4 (20, 0, 0) = 8 ∧ w7_link (20, 0, 0) (nI i) (nI j) z σ4 (fun r2 σ' => R 0 r2 σ')))) := by
    intro I1 i j v T' hi hj li lj hij ho h1 h2 hc
    have hM1 : MX p I I1 := hM.cb (fun n k hn => h1 n k (fun q => by rw [q.1] at hn; exact absurd hn (by simp)))
    refine ⟨?_, fun v0 => ⟨rfl, v22, ?_⟩, fun v0 => ⟨rfl, v22, ?_⟩⟩
    · rcases hc with c | c | c | c
      · exact Or.inl c.2.2.1
      · exact Or.inr c.2.2.1
      · exact Or.inl c.2.2.1
      · exact Or.inr c.2.2.1
    · rw [forall_eq, sJ_S]
      refine ⟨rfl, lk_mo hW hM1 hi hj li lj hij ho hz hc ?_⟩
      exact hR _ _ _ _ _ (lk_li h hi h1 h2) (by rw [up_ne (by simp), up_same]) (fun _ => ⟨fun _ => upJ_s _ _ _ _, fun w => absurd v0 w⟩)
    · rw [forall_eq, sJ_S]
      refine ⟨rfl, lk_mo hW hM1 hi hj li lj hij ho hz hc ?_⟩
      exact hR _ _ _ _ _ (lk_li h hi h1 h2) (by rw [up_ne (by simp), up_same]) (fun _ => ⟨fun w => absurd w v0, fun _ => upJ_s _ _ _ _⟩)
  have no1 : R 1 0 (S p (up I (20, 0, 0) 0 1) J) := hR _ _ _ _ _ h.thr (up_same _ _ _ _) (fun w => absurd w (by decide))
  have no2 : R 2 0 (S p (up I (20, 0, 0) 0 2) J) := hR _ _ _ _ _ h.thr (up_same _ _ _ _) (fun w => absurd w (by decide))
  unfold wL_link w6_link
  refine ⟨rfl, rfl, c_liveI hW (fun i hi e li => c_liveI hW (fun j hj e2 lj => ⟨_, rfl, _, rfl, (by rw [hK_S, kq14 hi]; decide), (by rw [hK_S, kq14 hj]; decide), fun w => ⟨fun q => absurd q nAI, fun _ => ⟨rfl, ?_⟩, Or.inr rfl⟩, fun w => ⟨kq14 hi, kq14 hj, _, rq141 hj, _, rq141 hi, (by rw [hK_S, kq6 (hW.1.2.2.2.2.2.1 i hi)]; decide), (by rw [hK_S, kq6 (hW.1.2.2.2.2.2.1 j hj)]; decide), fun ow => ?_, fun ow => ⟨fun q => absurd q nAI, fun _ => ⟨rfl, ?_⟩, Or.inr rfl⟩⟩⟩) (fun hn => ⟨fun _ => ⟨rfl, ?_⟩, fun q => absurd q nIA, Or.inl rfl⟩)) (fun hn => ⟨fun _ => ⟨rfl, ?_⟩, fun q => absurd q nIA, Or.inl rfl⟩)⟩
  · have : i = j := by simpa using w
    subst this; subst e; subst e2
    unfold w7_link
    refine ⟨rfl, m_isItm hW hM (fun u hu e2 _ => ⟨fun w => absurd w (by decide), fun _ => m_isItm hW hM (fun u2 hu2 e3 _ => ⟨fun _ => ⟨fun _ => ?_, fun w => absurd rfl w⟩, fun w => absurd w (by decide)⟩) (fun hn => absurd (hn i hi rfl) li)⟩) (fun hn => absurd (hn i hi rfl) li)⟩
    rw [forall_eq, sI_S, hI_S, up_same]
    exact ⟨fun w => absurd w (by decide), fun _ => no2⟩
  · have ho : gW p i = gW p j := by simpa using ow
    have hij : i ≠ j := fun q => w (by rw [q])
    subst e; subst e2
    unfold w1_setTrigger
    rw [hI_S, (hW.2.1 j hj).1, bq_tst0 _ (by omega)]
    refine ⟨kq14 hi, fun b0 => ⟨fun z0 => ?_, fun z0 => ?_⟩, fun b1 => ⟨fun z0 => ?_, fun z0 => ?_⟩⟩
    · rw [forall_eq, sI_S]
      refine fin _ i j _ _ hi hj li lj hij ho (fun n k q => up_ne q) (up_same _ _ _ _) (Or.inr (Or.inl ⟨b0, ?_, rfl, rfl⟩))
      rcases zb_cases hz with q | q
      · exact absurd q.symm z0
      · exact q
    · exact fin _ i j _ _ hi hj li lj hij ho (fun n k q => rfl) rfl (Or.inl ⟨b0, z0.symm, rfl, rfl⟩)
    · rw [forall_eq, sI_S]
      refine fin _ i j _ _ hi hj li lj hij ho (fun n k q => up_ne q) (up_same _ _ _ _) (Or.inr (Or.inr (Or.inr ⟨by simpa using b1, ?_, rfl, rfl⟩)))
      rcases zb_cases hz with q | q
      · exact q
      · exact absurd q.symm z0
    · exact fin _ i j _ _ hi hj li lj hij ho (fun n k q => rfl) rfl (Or.inr (Or.inr (Or.inl ⟨by simpa using b1, z0.symm, rfl, rfl⟩)))
  · have ho : gW p i ≠ gW p j := fun q => ow (by rw [q])
    have hij : i ≠ j := fun q => w (by rw [q])
    have g1 := hW.1.2.2.2.2.2.1 i hi
    have g2 := hW.1.2.2.2.2.2.1 j hj
    have g4 := hW.1.2.1
    subst e; subst e2
    unfold w7_link
    refine ⟨rfl, m_isItm hW hM (fun u hu e2 _ => ⟨fun w => absurd w (by decide), fun _ => m_isItm hW hM (fun u2 hu2 e3 _ => ⟨fun _ => ⟨fun w => absurd ((nI_eq (by omega) (by omega)).mp w) hij, fun _ => ⟨_, rfl, rfl, vinL 16 rfl (by omega) (by decide), vinL 16 rfl (by omega) (by decide), fun w => absurd ?_ ho, fun _ => ?_⟩⟩, fun w => absurd w (by decide)⟩) (fun hn => absurd (hn j hj rfl) lj)⟩) (fun hn => absurd (hn i hi rfl) li)⟩
    · rw [nI_clamp (by omega), nI_clamp (by omega), hI_S, (hM.2.2.1 i hi).1, (hM.2.2.1 j hj).1] at w
      exact (nI_eq (by omega) (by omega)).mp w
    · rw [forall_eq, sI_S, hI_S, up_same]
      exact ⟨fun w => absurd w (by decide), fun _ => no2⟩
  · subst e
    unfold w7_link
    refine ⟨rfl, m_isItm hW hM (fun u hu e2 _ => ⟨fun w => absurd w (by decide), fun _ => m_isItm hW hM (fun u hu e2 l => absurd (hn u hu e2) l) (fun _ => ⟨fun w => absurd rfl w, fun _ => ?_⟩)⟩) (fun hn => absurd (hn i hi rfl) li)⟩
    rw [forall_eq, sI_S, hI_S, up_same]
    exact ⟨fun w => absurd w (by decide), fun _ => no1⟩
  · unfold w7_link
    refine ⟨rfl, m_isItm hW hM (fun u hu e2 l => absurd (hn u hu e2) l) (fun _ => ⟨fun _ => ?_, fun w => absurd rfl w⟩)⟩
    rw [forall_eq, sI_S, hI_S, up_same]
    exact ⟨fun w => absurd w (by decide), fun _ => no1⟩
end
