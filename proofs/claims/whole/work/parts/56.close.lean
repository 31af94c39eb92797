theorem m_closeL {p P : PP} {a b : IF} {J : JF} {s : Nat} {K : Int32 → Int32 → PH → Prop} {Q : Int32 → PH → Prop} (hW : WF p a) (hM : MX p a b) (hs : s < gS p) (hK : ∀ y, K (nI (cnt (gW p) s (gT p))) y (S P b J)) : ∀ (d i : Nat), i + d = gT p → l7_close_30 (20, 0, 0) (nI s) K Q (d + 1) (nI (cnt (gW p) s i)) (nI i) (S P b J) := by
  have h16 := hW.1.2.2.2.1
  have h4 := hW.1.2.1
  intro d
  induction d with
  | zero =>
    intro i h
    have : i = gT p := by omega
    subst this
    unfold l7_close_30
    refine ⟨rfl, fun _ => hK _, fun q => absurd ?_ q⟩
    rw [hI_S, hM.1.2.2.2.1, hW.1.2.2.1, nI_leI (by omega) (by omega)]; exact Nat.le_refl _
  | succ d ih =>
    intro i h
    have hi : i < gT p := by omega
    have hw := hW.1.2.2.2.2.2.1 i hi
    have g := ih (i + 1) (by omega)
    unfold l7_close_30
    refine ⟨rfl, fun q => ?_, fun _ => ⟨_, rfl, rfl, vinL 16 rfl (by omega) (by decide), ?_⟩⟩
    · rw [hI_S, hM.1.2.2.2.1, hW.1.2.2.1, nI_leI (by omega) (by omega)] at q; omega
    · rw [hI_S, nI_clamp (by omega), (hM.2.2.1 i hi).1, nI_1, nI_1]
      refine ⟨fun q => ?_, fun q => ?_⟩
      · have e : ¬ gW p i = s := fun z => q (by rw [z])
        rw [cnt, if_neg e] at g
        rw [Int32.add_zero]; exact g
      · have e : gW p i = s := (nI_eq (by omega) (by omega)).mp q
        rw [cnt, if_pos e] at g
        exact g
section
variable {N : Nat} {p : PP} {I : IF} {J : JF} {R : Int32 → Int32 → PH → Prop}
theorem L_close {x : Int32} (h : LI N p I) (hR : ∀ r1 r2 p' I' J', LI N p' I' → I' (20, 0, 0) 0 = r1 → (r1 = 0 → J' (22, 0, 0) 0 = r2.toInt64) → R r1 r2 (S p' I' J')) : wL_close (0, 0, 0) x (22, 0, 0) (S p I J) (fun r1 σ => hK σ (20, 0, 0) = 8 ∧ w7_close (20, 0, 0) x σ (fun r2 σ' => R r1 r2 σ')) := by
  have h' := h
  obtain ⟨t, hIV, hG, hH, hN⟩ := h'
  have hIV' := hIV
  obtain ⟨hW, hM, hTI, hSN, hTS, hnow, hOQ, h5⟩ := hIV'
  have h4 := hW.1.2.1
  unfold wL_close w6_close
  refine ⟨rfl, rfl, c_openS hW (fun s hs e l => ⟨_, rfl, kq6 hs, ?_⟩) (fun hn => ⟨fun _ => ⟨rfl, ?_⟩, rfl⟩)⟩
  · subst e
    have uo : ∀ r k z j, (r ≠ 6 ∨ k ≠ s ∨ j ≠ 7) → up I (6, s, 0) 7 0 (r, k, z) j = I (r, k, z) j := fun r k z j g => up_ne (fun q => by have := q.1; simp only [Prod.mk.injEq] at this; have := q.2; omega)
    rw [forall_eq, sI_S, hI_S]
    refine ⟨rfl, v22, ?_⟩
    rw [forall_eq, sJ_S]
    refine ⟨rfl, ?_⟩
    have hM1 : MX p I (up I (6, s, 0) 7 0) := hM.cb (fun n j hn => up_ne (fun q => by rw [q.1] at hn; exact absurd hn (by simp)))
    have hic := (hW.2.2 s hs).2.2.2.2.1
    unfold w7_close
    refine ⟨rfl, m_isSub hW hM1 (fun u hu e2 _ => ⟨fun z => absurd z (by decide), fun _ => ?_⟩) (fun hn => absurd (hn s hs rfl) l)⟩
    rw [forall_eq, sI_S, hI_S, up_same]
    refine ⟨fun _ => ⟨gT p + 1, ?_⟩, fun z => absurd (by decide) z⟩
    refine m_closeL (a := I) hW hM1.thr hs (fun y => ⟨rfl, _, rfl, rfl, vinL 4 rfl (by omega) (by decide), ?_⟩) (gT p) 0 (by omega)
    rw [forall_eq, nI_clamp (by omega), sI_S]
    have hw1 : WF p (up I (6, s, 0) 7 0) := WF_up6 hW (by decide) (by decide) (by decide) (by decide) (fun _ => zb0)
    have hca : CA (up I (6, s, 0) 7 0) (up (up (up I (6, s, 0) 7 0) (20, 0, 0) 0 0) (21, 4, 0) s 0) := fun n j hn => by
      rw [up_ne (fun q => by rw [q.1] at hn; exact absurd hn (by simp)), up_ne (fun q => by rw [q.1] at hn; exact absurd hn (by simp))]
    have hX : MX p (up I (6, s, 0) 7 0) (up (up (up I (6, s, 0) 7 0) (20, 0, 0) 0 0) (21, 4, 0) s 0) := by
      refine MX.sub hM1 (fun n j g1 g2 g3 => up_ne (fun w => g2 ⟨w.1, Or.inl w.2⟩)) (fun n j g1 g2 => ?_) ?_ hs ?_
      · rw [up_ne (fun w => g2 (by rw [w.1]; exact ⟨rfl, by simp, w.2⟩)), up_ne (fun w => g1 ⟨w.1, Or.inr w.2⟩)]
      · rw [up_ne (by simp), up_nj (by decide), up_ne (by simp), up_ne (by simp)]; exact hM.1.2.1
      · obtain ⟨m1, m2, m3, m4, m5, m6, m7, m8, m9, m10⟩ := (hM.2.1 s hs).1
        unfold MS; simp [up, m2, m3, m4, m5, m6, m7, m8, m9, m10]
    have b5 : ∀ u, up (up (up I (6, s, 0) 7 0) (20, 0, 0) 0 0) (21, 4, 0) s 0 (21, 5, 0) u = I (21, 5, 0) u := fun u => by rw [up_ne (by simp), up_ne (by simp), up_ne (by simp)]
    have live : ∀ u, up I (6, s, 0) 7 0 (6, u, 0) 7 = 0 ∨ up I (6, s, 0) 7 0 (6, u, 0) 7 = I (6, u, 0) 7 := fun u => by
      by_cases e : u = s
      · subst e; left; exact up_same _ _ _ _
      · right; exact uo 6 _ _ _ (Or.inr (Or.inl e))
    have h2 : IV p (up I (6, s, 0) 7 0) (up (up (up I (6, s, 0) 7 0) (20, 0, 0) 0 0) (21, 4, 0) s 0) t := by
      refine ⟨hw1, hX, fun i hi => ?_, fun u hu => SN.cg rfl (uo 6 _ _ _ (Or.inr (Or.inr (by decide)))) (uo 6 _ _ _ (Or.inr (Or.inr (by decide)))) (fun o => uo 10 _ _ _ (Or.inl (by decide))) (hSN u hu), fun u hu => ?_, ?_, ?_, h5⟩
      · have := hTI i hi
        unfold TI at *
        rcases live (gW p i) with e | e
        · exact Or.inl e
        · rw [e, uo 15 _ _ _ (Or.inl (by decide)), uo 15 _ _ _ (Or.inl (by decide)), uo 14 _ _ _ (Or.inl (by decide)), uo 14 _ _ _ (Or.inl (by decide))]; exact this
      · have := hTS u hu
        unfold TS at *
        rcases live u with e | e
        · exact Or.inl e
        · rw [e, uo 7 _ _ _ (Or.inl (by decide)), uo 7 _ _ _ (Or.inl (by decide)), b5]; exact this
      · rw [uo 0 _ _ _ (Or.inl (by decide))]; exact hnow
      · have e3 : ∀ u, up I (6, s, 0) 7 0 (6, u, 0) 3 = I (6, u, 0) 3 := fun u => uo 6 _ _ _ (Or.inr (Or.inr (by decide)))
        unfold OQ pr at *
        simp only [e3]; exact hOQ
    refine hR _ _ _ _ _ (LI.join h2 hca (HG.cg (fun j => uo 4 _ _ _ (Or.inl (by decide))) (fun k j => uo 5 _ _ _ (Or.inl (by decide))) (fun j => uo 1 _ _ _ (Or.inl (by decide))) hG) (fun i hi => HI.cg rfl (live _) (fun j => uo 4 _ _ _ (Or.inl (by decide))) (fun k j => uo 5 _ _ _ (Or.inl (by decide))) (fun j => uo 14 _ _ _ (Or.inl (by decide))) (uo 15 _ _ _ (Or.inl (by decide))) (hH i hi)) (by rw [hC_cg (fun j => uo 4 _ _ _ (Or.inl (by decide)))]; exact hN)) ?_ (fun _ => ?_)
    · rw [up_ne (by simp), up_same]
    · rw [show Int32.toNatClampNeg 0 = 0 from rfl, upJ_s, up_nj (by decide), hic]
  · unfold w7_close
    refine ⟨rfl, m_isSub hW hM (fun u hu e2 l => absurd (hn u hu e2) l) (fun _ => ⟨fun _ => ?_, fun z => absurd rfl z⟩)⟩
    rw [forall_eq, sI_S, hI_S, up_same]
    exact ⟨fun z => absurd z (by decide), fun _ => hR _ _ _ _ _ h.thr (up_same _ _ _ _) (fun z => absurd z (by decide))⟩
end
