/-! write. -/
def wrA (I : IF) (k h : Nat) (t v : Int32) : IF := up (up (up (up (up I (1, 0, 0) k v) (5, 0, 0) h t) (5, 1, 0) h (nI k)) (5, 2, 0) h v) (4, 0, 0) 3 (nI (h + 1))
theorem wrA_o {I : IF} {k h : Nat} {t v : Int32} {r z o j : Nat} (g : r ≠ 1 ∧ r ≠ 4 ∧ r ≠ 5) : wrA I k h t v (r, z, o) j = I (r, z, o) j := by
  have n : ∀ a b c, a = 1 ∨ a = 4 ∨ a = 5 → ¬ ((r, z, o) : Nm) = (a, b, c) := fun a b c h e => by simp only [Prod.mk.injEq] at e; omega
  rw [wrA, up_ne (fun q => n 4 _ _ (by omega) q.1), up_ne (fun q => n 5 _ _ (by omega) q.1), up_ne (fun q => n 5 _ _ (by omega) q.1), up_ne (fun q => n 5 _ _ (by omega) q.1), up_ne (fun q => n 1 _ _ (by omega) q.1)]
theorem wrA_1 {I : IF} {k h j : Nat} {t v : Int32} : wrA I k h t v (1, 0, 0) j = if j = k then v else I (1, 0, 0) j := by
  rw [wrA, up_ne (by simp), up_ne (by simp), up_ne (by simp), up_ne (by simp)]
  by_cases e : j = k
  · subst e; rw [up_same, if_pos rfl]
  · rw [up_nj e, if_neg e]
theorem wrA_4 {I : IF} {k h : Nat} {t v : Int32} : wrA I k h t v (4, 0, 0) 3 = nI (h + 1) := by rw [wrA, up_same]
theorem wrA_50 {I : IF} {k h j : Nat} {t v : Int32} : wrA I k h t v (5, 0, 0) j = if j = h then t else I (5, 0, 0) j := by
  rw [wrA, up_ne (by simp), up_ne (by simp), up_ne (by simp)]
  by_cases e : j = h
  · subst e; rw [up_same, if_pos rfl]
  · rw [up_nj e, if_neg e, up_ne (by simp)]
theorem wrA_51 {I : IF} {k h j : Nat} {t v : Int32} : wrA I k h t v (5, 1, 0) j = if j = h then nI k else I (5, 1, 0) j := by
  rw [wrA, up_ne (by simp), up_ne (by simp)]
  by_cases e : j = h
  · subst e; rw [up_same, if_pos rfl]
  · rw [up_nj e, if_neg e, up_ne (by simp), up_ne (by simp)]
theorem wrA_52 {I : IF} {k h j : Nat} {t v : Int32} : wrA I k h t v (5, 2, 0) j = if j = h then v else I (5, 2, 0) j := by
  rw [wrA, up_ne (by simp)]
  by_cases e : j = h
  · subst e; rw [up_same, if_pos rfl]
  · rw [up_nj e, if_neg e, up_ne (by simp), up_ne (by simp), up_ne (by simp)]
theorem c_record {p : PP} {I : IF} {J : JF} {h : Nat} {t nd v : Int32} (hh : h < 512) (hc : I (4, 0, 0) 3 = nI h) {Q : PH → Prop} (hQ : Q (S p (up (up (up (up I (5, 0, 0) h t) (5, 1, 0) h nd) (5, 2, 0) h v) (4, 0, 0) 3 (nI (h + 1))) J)) : w0_record (4, 0, 0) t nd v (S p I J) Q := by
  have vv : ∀ {σ : PH} {N : Nm}, hL σ N = 512 → vp_in (nI h) (hL σ N) := fun e => vinL 512 e hh (by decide)
  unfold w0_record
  rw [hI_S, hc]
  refine ⟨rfl, fun q => ?_, fun _ => ⟨_, rfl, rfl, vv rfl, ?_⟩⟩
  · rw [show (512 : Int32) = nI 512 from rfl, nI_leI (by omega) (by omega)] at q; omega
  rw [forall_eq, nI_clamp (by omega), sI_S, hI_S, up_ne (by simp), hc]
  refine ⟨_, rfl, rfl, vv rfl, ?_⟩
  rw [forall_eq, nI_clamp (by omega), sI_S, hI_S, up_ne (by simp), up_ne (by simp), hc]
  refine ⟨_, rfl, rfl, vv rfl, ?_⟩
  rw [forall_eq, nI_clamp (by omega), sI_S, forall_eq, hI_S, up_ne (by simp), up_ne (by simp), up_ne (by simp), hc, nI_1, sI_S]
  exact hQ
theorem H_wr {p : PP} {I : IF} {k v t : Nat} (hk : k < 10) (hv : v ≤ 1000) (ht5 : t ≤ 5000) (hG : HG I t) (hc : hC I < 512) : HG (wrA I k (hC I) (nI t) (nI v)) t ∧ hC (wrA I k (hC I) (nI t) (nI v)) = hC I + 1 ∧ ∀ i, HI p I i t → HI p (wrA I k (hC I) (nI t) (nI v)) i t := by
  have eC : hC (wrA I k (hC I) (nI t) (nI v)) = hC I + 1 := by
    show tn (wrA I k (hC I) (nI t) (nI v) (4, 0, 0) 3) = _
    rw [wrA_4, tn_nI (by omega)]
  have eT : ∀ j, hTk (wrA I k (hC I) (nI t) (nI v)) j = if j = hC I then t else hTk I j := fun j => by
    show tn (wrA I k (hC I) (nI t) (nI v) (5, 0, 0) j) = _
    rw [wrA_50]; split
    · rw [tn_nI (by omega)]
    · rfl
  have eN : ∀ j, hNd (wrA I k (hC I) (nI t) (nI v)) j = if j = hC I then k else hNd I j := fun j => by
    show tn (wrA I k (hC I) (nI t) (nI v) (5, 1, 0) j) = _
    rw [wrA_51]; split
    · rw [tn_nI (by omega)]
    · rfl
  have eV : ∀ j, hVl (wrA I k (hC I) (nI t) (nI v)) j = if j = hC I then v else hVl I j := fun j => by
    show tn (wrA I k (hC I) (nI t) (nI v) (5, 2, 0) j) = _
    rw [wrA_52]; split
    · rw [tn_nI (by omega)]
    · rfl
  have old : ∀ j, j < hC I → hTk (wrA I k (hC I) (nI t) (nI v)) j = hTk I j ∧ hNd (wrA I k (hC I) (nI t) (nI v)) j = hNd I j ∧ hVl (wrA I k (hC I) (nI t) (nI v)) j = hVl I j := fun j hj => ⟨by rw [eT, if_neg (by omega)], by rw [eN, if_neg (by omega)], by rw [eV, if_neg (by omega)]⟩
  refine ⟨⟨?_, fun j hj => ?_, fun nd hnd => ?_⟩, eC, fun i hi => ?_⟩
  · rw [eC, wrA_4]
  · rw [eC] at hj
    by_cases e : j = hC I
    · rw [eT, eN, eV, wrA_50, wrA_51, wrA_52, if_pos e, if_pos e, if_pos e, if_pos e, if_pos e, if_pos e]
      exact ⟨rfl, Nat.le_refl _, rfl, rfl, hv, hk⟩
    · obtain ⟨g1, g2, g3, g4, g5, g6⟩ := hG.2.1 j (by omega)
      rw [eT, eN, eV, wrA_50, wrA_51, wrA_52, if_neg e, if_neg e, if_neg e, if_neg e, if_neg e, if_neg e]
      exact ⟨g1, g2, g3, g4, g5, g6⟩
  · rw [eC, wrA_1, vbf, eN, eV, if_pos rfl, if_pos rfl, vbf_cg (hC I) (fun j hj => (old j hj).2)]
    by_cases e : nd = k
    · rw [if_pos e, if_pos e.symm]
    · rw [if_neg e, if_neg (fun z => e z.symm)]; exact hG.2.2 nd hnd
  · unfold HI at *
    rw [wrA_o (r := 6) (by decide)]
    rcases hi with e | ⟨w1, w2, w3, w4, w5⟩
    · exact Or.inl e
    · right
      have er : hR_ (wrA I k (hC I) (nI t) (nI v)) i = if k = tn (I (14, i, 0) 2) then hsp (tn (I (15, i, 0) 0)) (tn (I (14, i, 0) 10)) (tn (I (14, i, 0) 3)) t v (hR_ I i) else hR_ I i := by
        unfold hR_
        rw [wrA_o (r := 14) (by decide), wrA_o (r := 15) (by decide), wrA_o (r := 14) (by decide), wrA_o (r := 14) (by decide), wrA_o (r := 14) (by decide), eC, show hC I + 1 - tn (I (14, i, 0) 11) = (hC I - tn (I (14, i, 0) 11)) + 1 by omega, hst, show tn (I (14, i, 0) 11) + (hC I - tn (I (14, i, 0) 11)) = hC I by omega, eN, eT, eV, if_pos rfl, if_pos rfl, if_pos rfl, hst_cg _ (fun j hj => old j (by omega))]
      rw [er, eC]
      simp only [wrA_o (I := I) (k := k) (h := hC I) (t := nI t) (v := nI v) (r := 14) (show 14 ≠ 1 ∧ 14 ≠ 4 ∧ 14 ≠ 5 by decide), wrA_o (I := I) (k := k) (h := hC I) (t := nI t) (v := nI v) (r := 15) (show 15 ≠ 1 ∧ 15 ≠ 4 ∧ 15 ≠ 5 by decide)]
      refine ⟨w1, by omega, w3, fun j h1 h2 => ?_, ?_⟩
      · rw [eT]; split
        · exact w3
        · exact w4 j h1 (by omega)
      · split
        · exact FIN_write w5
        · exact w5
