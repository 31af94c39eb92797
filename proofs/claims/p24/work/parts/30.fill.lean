/-! The class fills a message. -/
theorem tn_nI {c : Nat} (h : c < 2 ^ 31) : tn (nI c) = c := by rw [tn, nI_clamp h]
theorem gvN_o {i s o : Nat} {n : Nm} {j : Nat} (h : ¬ ((n.1 = 10 ∨ n.1 = 11 ∨ n.1 = 12 ∨ n.1 = 13) ∧ n.2 = (s, o)) ∧ ¬ ((n.1 = 16 ∨ n.1 = 17 ∨ n.1 = 18) ∧ n.2 = (i, 0))) : ∀ (d : Nat) (a : IF), gvN i s o d a n j = a n j := by
  intro d
  induction d with
  | zero => intro a; rfl
  | succ d ih => intro a; rw [gvN, ih, gv1_o h]
theorem gvN_c {p : PP} {i s o : Nat} (hi : i < gT p) (hs : s < gS p) (ho : o < gM p s) : ∀ (d : Nat) (a : IF) (c n : Nat), WF p a → a (16, i, 0) 4 = nI c → d ≤ c → c ≤ 4 → a (10, s, o) 4 = nI n → n + d ≤ 10 → WF p (gvN i s o d a) ∧ gvN i s o d a (10, s, o) 4 = nI (n + d) ∧ gvN i s o d a (16, i, 0) 4 = nI (c - d) := by
  intro d
  induction d with
  | zero => intro a c n h hc h1 h2 hn h3; exact ⟨h, hn, hc⟩
  | succ d ih =>
    intro a c n h hc h1 h2 hn h3
    have t16 : tn (a (16, i, 0) 4) = c := by rw [hc, tn_nI (by omega)]
    have t10 : tn (a (10, s, o) 4) = n := by rw [hn, tn_nI (by omega)]
    have g := ih (gv1 a i s o) (c - 1) (n + 1) (WF_gv1 h hi hs ho hc (by omega) h2 hn (by omega)) (by rw [gv1_16, t16]) (by omega) (by omega) (by rw [gv1_10, t10]) (by omega)
    rw [show n + (d + 1) = n + 1 + d by omega, show c - (d + 1) = c - 1 - d by omega]
    exact g
theorem IS_c {a : IF} {i : Nat} (h : IS a i) : ∃ c, a (16, i, 0) 4 = nI c ∧ c ≤ 4 ∧ tn (a (16, i, 0) 4) = c := by
  obtain ⟨-, -, -, -, -, -, sz, c, -, -, g3, g4, g5, -⟩ := h
  exact ⟨c, g4, by omega, by rw [g4, tn_nI (by omega)]⟩
theorem c_giveTo {p : PP} {a : IF} {J : JF} {i s o n mo : Nat} {Q : PH → Prop} (hW : WF p a) (hi : i < gT p) (hs : s < gS p) (ho : o < gM p s) (hn : a (10, s, o) 4 = nI n) (h1 : n ≤ mo) (h2 : mo ≤ 10) (hQ : Q (S p (giA a i s o mo) J)) : w1_giveTo (14, i, 0) (10, s, o) (nI mo) (S p a J) Q := by
  obtain ⟨c, hc, hc4, tc⟩ := IS_c (hW.2.1 i hi)
  have t10 : tn (a (10, s, o) 4) = n := by rw [hn, tn_nI (by omega)]
  unfold giA at hQ
  rw [tc, t10] at hQ
  unfold w1_giveTo
  refine ⟨kq14 hi, _, rq145 hi, kq16 hi, kq10 hs ho, ?_⟩
  rw [forall_eq, hI_S, hn, hc, nI_sub h1]
  have e : (if nI (mo - n) < nI c then nI (mo - n) else nI c) = nI (min c (mo - n)) := by
    by_cases q : mo - n < c
    · rw [if_pos ((nI_ltI (by omega) (by omega)).mpr q), Nat.min_eq_right (by omega)]
    · rw [if_neg (fun z => q ((nI_ltI (by omega) (by omega)).mp z)), Nat.min_eq_left (by omega)]
  rw [e]
  exact ⟨min c (mo - n) + 1, c_giveL (K := fun _ τ1 => Q τ1) hi hs ho (by omega) (min c (mo - n)) 0 a c n (by omega) hW hc (by omega) hc4 hn (by omega) hQ⟩
theorem giA_ok {p : PP} {a : IF} {i s o n mo : Nat} (hW : WF p a) (hi : i < gT p) (hs : s < gS p) (ho : o < gM p s) (hn : a (10, s, o) 4 = nI n) (h1 : n ≤ mo) (h2 : mo ≤ 10) : WF p (giA a i s o mo) ∧ ∃ n', n' ≤ mo ∧ giA a i s o mo (10, s, o) 4 = nI n' := by
  obtain ⟨c, hc, hc4, tc⟩ := IS_c (hW.2.1 i hi)
  have t10 : tn (a (10, s, o) 4) = n := by rw [hn, tn_nI (by omega)]
  obtain ⟨g1, g2, -⟩ := gvN_c hi hs ho (min c (mo - n)) a c n hW hc (by omega) hc4 hn (by omega)
  unfold giA
  rw [tc, t10]
  exact ⟨g1, n + min c (mo - n), by omega, g2⟩
theorem giA_o {a : IF} {i s o mo : Nat} {n : Nm} {j : Nat} (h : ¬ ((n.1 = 10 ∨ n.1 = 11 ∨ n.1 = 12 ∨ n.1 = 13) ∧ n.2 = (s, o)) ∧ ¬ ((n.1 = 16 ∨ n.1 = 17 ∨ n.1 = 18) ∧ n.2 = (i, 0))) : giA a i s o mo n j = a n j := gvN_o h _ _
theorem flL_o {s o mo : Nat} {T : Int32} {n : Nm} {j : Nat} (h : ¬ ((n.1 = 10 ∨ n.1 = 11 ∨ n.1 = 12 ∨ n.1 = 13) ∧ n.2 = (s, o)) ∧ ¬ (n.1 = 16 ∨ n.1 = 17 ∨ n.1 = 18)) : ∀ (d k : Nat) (a : IF), flL s o mo T k d a n j = a n j := by
  intro d
  induction d with
  | zero => intro k a; rfl
  | succ d ih =>
    intro k a
    rw [flL, ih]
    split
    · exact giA_o ⟨h.1, fun q => h.2 q.1⟩
    · rfl
theorem flL_ok {p : PP} {s o mo : Nat} {T : Int32} (hs : s < gS p) (ho : o < gM p s) (h2 : mo ≤ 10) : ∀ (d k : Nat) (a : IF) (n : Nat), k + d = gT p → WF p a → a (10, s, o) 4 = nI n → n ≤ mo → WF p (flL s o mo T k d a) ∧ ∃ n', n' ≤ mo ∧ flL s o mo T k d a (10, s, o) 4 = nI n' := by
  intro d
  induction d with
  | zero => intro k a n h hW hn h1; exact ⟨hW, n, h1, hn⟩
  | succ d ih =>
    intro k a n h hW hn h1
    rw [flL]
    split
    · obtain ⟨g1, n', g2, g3⟩ := giA_ok hW (show k < gT p by omega) hs ho hn h1 h2
      exact ih (k + 1) _ n' (by omega) g1 g3 g2
    · exact ih (k + 1) _ n (by omega) hW hn h1
theorem c_fillL {p : PP} {J : JF} {s o mo : Nat} {T : Int32} {K : Int32 → PH → Prop} {Q : PH → Prop} (hs : s < gS p) (ho : o < gM p s) (h2 : mo ≤ 10) (hT : ∀ i, i < gT p → bq T i = true → gW p i = s) : ∀ (d n : Nat) (a : IF) (c : Nat), n + d = gT p → WF p a → a (6, s, 0) 4 = nI mo → a (10, s, o) 4 = nI c → c ≤ mo → (∀ y, K y (S p (flL s o mo T n d a) J)) → l4_fillMessage_7 (6, s, 0) T (10, s, o) K Q (cnt (gW p) s (gT p) - cnt (gW p) s n + 1) (nI (cnt (gW p) s n)) (S p a J) := by
  have hcl := cnt_le (gW p) s (gT p)
  intro d
  induction d with
  | zero =>
    intro n a c h hW hm hc h1 hK
    have h16 := hW.1.2.2.2.1
    have hic := (hW.2.2 s hs).2.2.2.2.1
    have : n = gT p := by omega
    subst this
    rw [Nat.sub_self]
    unfold l4_fillMessage_7
    refine ⟨kq6 hs, fun _ => hK _, fun q => absurd ?_ q⟩
    rw [hI_S, hic, nI_leI (by omega) (by omega)]; exact Nat.le_refl _
  | succ d ih =>
    intro n a c h hW hm hc h1 hK
    have h16 := hW.1.2.2.2.1
    have hic := (hW.2.2 s hs).2.2.2.2.1
    have hn : n < gT p := by omega
    have hK' := hK
    simp only [flL] at hK'
    by_cases e' : gW p n = s
    · have hc1 : cnt (gW p) s (n + 1) = cnt (gW p) s n + 1 := by rw [cnt, if_pos e']
      have hmo := cnt_mono (gW p) s (show n + 1 ≤ gT p by omega)
      have inum := (hW.2.1 n hn).1
      rw [show cnt (gW p) s (gT p) - cnt (gW p) s n + 1 = (cnt (gW p) s (gT p) - (cnt (gW p) s n + 1) + 1) + 1 by omega]
      unfold l4_fillMessage_7
      refine ⟨kq6 hs, fun q => ?_, fun _ => ⟨_, rq65 hs, kq8 hs, vinL 16 (lq8 hs) (by omega) (by decide), ?_, ?_⟩⟩
      · rw [hI_S, hic, nI_leI (by omega) (by omega)] at q; omega
      · rw [hR_S, nI_clamp (by omega), rq8 hs, itf_at _ _ hn e']; intro q; cases q
      · rw [hR_S, nI_clamp (by omega), rq8 hs, itf_at _ _ hn e']
        intro m2 q; cases q
        rw [hI_S, inum, nI_1, bq_tst0 _ (by omega)]
        refine ⟨kq14 hn, fun q => ?_, fun q => ?_⟩
        · rw [q] at hK'
          have g2 := ih (n + 1) a c (by omega) hW hm hc h1 hK'
          rw [hc1] at g2; exact g2
        · have q' : bq T n = true := by simpa using q
          rw [q'] at hK'
          rw [hm]
          refine c_giveTo hW hn hs ho hc h1 h2 ?_
          obtain ⟨g1, c', g2, g3⟩ := giA_ok hW hn hs ho hc h1 h2
          have g4 := ih (n + 1) (giA a n s o mo) c' (by omega) g1 (by rw [giA_o ⟨fun y => by simp only at y; omega, fun y => by simp only at y; omega⟩]; exact hm) g3 g2 hK'
          rw [hc1] at g4; exact g4
    · have q : bq T n = false := by
        cases z : bq T n with
        | false => rfl
        | true => exact absurd (hT n hn z) e'
      rw [q] at hK'
      have g2 := ih (n + 1) a c (by omega) hW hm hc h1 hK'
      rw [cnt, if_neg e'] at g2
      exact g2
