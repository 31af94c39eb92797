/-! open: the class's call. -/
def opF (p : PP) (I : IF) (O : Nat → Nat) (k4 : Nat) : Prop := ∃ x, x ≤ gS p ∧ (∀ b, O b = if b < x then gO p b else if b = x then gS p else gO p (b - 1)) ∧ (∀ j, x ≤ j → j < gS p → tn (I (6, gO p j, 0) 3) < k4) ∧ (x = 0 ∨ ¬ tn (I (6, gO p (x - 1), 0) 3) < k4)
def opI (I I' : IF) (s : Nat) (p1 p2 p3 p4 p5 : Int32) : Prop := (I' (6, s, 0) 7 = 1 ∧ I' (6, s, 0) 8 = 0 ∧ I' (6, s, 0) 9 = 0 ∧ I' (6, s, 0) 10 = 0 ∧ I' (6, s, 0) 11 = 0 ∧ I' (6, s, 0) 12 = 0 ∧ I' (6, s, 0) 13 = 0 ∧ I' (6, s, 0) 1 = p2 ∧ I' (6, s, 0) 2 = p3 ∧ I' (6, s, 0) 3 = p4 ∧ I' (6, s, 0) 4 = p5) ∧ (I' (7, s, 0) 0 = p1 ∧ I' (7, s, 0) 1 = p1) ∧ I' (0, 0, 0) 5 = nI (s + 1) ∧ ∀ n j, n ≠ (6, s, 0) → n ≠ (7, s, 0) → n ≠ (8, s, 0) → n ≠ (9, s, 0) → ¬ (n = (0, 0, 0) ∧ j = 5) → I' n j = I n j
theorem Kz6 {p : PP} {r s : Nat} (h : ¬ s < gS p) (hr : r = 6 ∨ r = 7 ∨ r = 8 ∨ r = 9) : Kf p (r, s, 0) = 0 := by
  rcases hr with rfl | rfl | rfl | rfl
  · exact if_neg (fun q => h q.1)
  · exact if_neg (fun q => h q.1)
  · exact if_neg (fun q => h q.1)
  · exact if_neg (fun q => h q.1)
set_option maxHeartbeats 16000000 in
theorem c_opn {p : PP} {I : IF} {J : JF} {p1 p2 p3 p4 p5 : Int32} (hW : WF p I) (hO : OK p) {Q : Int32 → PH → Prop} {X : String → PH → Prop} (h1 : ¬ (bn p1 1 20 ∧ bn p2 1 10 ∧ bn p3 1 30 ∧ bn p4 0 9 ∧ bn p5 1 10) → X xIA (S p I J)) (h2 : (bn p1 1 20 ∧ bn p2 1 10 ∧ bn p3 1 30 ∧ bn p4 0 9 ∧ bn p5 1 10) → gS p = 4 → X xIS (S p I J)) (h3 : (bn p1 1 20 ∧ bn p2 1 10 ∧ bn p3 1 30 ∧ bn p4 0 9 ∧ bn p5 1 10) → gS p < 4 → ∀ O I' J', opF p I O (tn p4) → opI I I' (gS p) p1 p2 p3 p4 p5 → Q (nI (gS p)) (S (wS p O) I' J')) : w6_open (0, 0, 0) p1 p2 p3 p4 p5 (S p I J) Q X := by
  have h5 := hW.1.1
  have h4 := hW.1.2.1
  unfold w6_open
  refine c_rng (lo := 1) (hi := 20) (by decide) (by decide) (fun k1 a1 b1 e1 => c_rng (lo := 1) (hi := 10) (by decide) (by decide) (fun k2 a2 b2 e2 => c_rng (lo := 1) (hi := 30) (by decide) (by decide) (fun k3 a3 b3 e3 => c_rng (lo := 0) (hi := 9) (by decide) (by decide) (fun k4 a4 b4 e4 => c_rng (lo := 1) (hi := 10) (by decide) (by decide) (fun k5 a5 b5 e5 => ⟨rfl, fun w => ?_, fun w => ?_⟩) (fun hn => h1 (fun g => bn_no hn g.2.2.2.2))) (fun hn => h1 (fun g => bn_no hn g.2.2.2.1))) (fun hn => h1 (fun g => bn_no hn g.2.2.1))) (fun hn => h1 (fun g => bn_no hn g.2.1))) (fun hn => h1 (fun g => bn_no hn g.1))
  · have hrg : bn p1 1 20 ∧ bn p2 1 10 ∧ bn p3 1 30 ∧ bn p4 0 9 ∧ bn p5 1 10 := ⟨⟨k1, a1, b1, e1⟩, ⟨k2, a2, b2, e2⟩, ⟨k3, a3, b3, e3⟩, ⟨k4, a4, b4, e4⟩, ⟨k5, a5, b5, e5⟩⟩
    rw [hI_S, h5] at w ⊢
    rw [show (4 : Int32) = nI 4 from rfl, nI_ltI (by omega) (by decide)] at w
    have h3' := h3 hrg w
    have z6 : Kf p (6, gS p, 0) = 0 := Kz6 (by omega) (by decide)
    have z7 : Kf p (7, gS p, 0) = 0 := Kz6 (by omega) (by decide)
    have z8 : Kf p (8, gS p, 0) = 0 := Kz6 (by omega) (by decide)
    have z9 : Kf p (9, gS p, 0) = 0 := Kz6 (by omega) (by decide)
    refine ⟨(6, gS p, 0), z6, ?_⟩
    rw [forall_eq]
    unfold w4_init
    refine ⟨(8, gS p, 0), by simp [hK_sN, hK_S, z8], by simp [hK_sN], ?_⟩
    rw [forall_eq]
    refine ⟨by simp [hK_sN], ?_⟩
    rw [forall_eq]
    refine ⟨(9, gS p, 0), by simp [hK_sN, hK_sR, hK_S, z9], ?_⟩
    rw [forall_eq, forall_eq, forall_eq, forall_eq, forall_eq, forall_eq, forall_eq, forall_eq, forall_eq]
    refine ⟨(7, gS p, 0), by simp [hK_sI, hK_sN, hK_sR, hK_S, z7], ?_⟩
    rw [forall_eq]
    unfold w5_init
    refine ⟨by simp [hK_sN], ?_⟩
    rw [forall_eq, forall_eq, forall_eq, forall_eq, forall_eq, forall_eq, forall_eq]
    refine ⟨(2, 0, 0), by simp [hR_sI, hR_sN, hR_sR, hR_S, rq01], by simp [hK_sI, hK_sN, hK_sR, hK_S, kq2], ?_, ?_⟩
    · exact vinL 4 (by simp [hL_sI, hL_sN, hL_sR, hL_S, lq2]) w (by decide)
    · rw [forall_eq, nI_clamp (by omega)]
      have no : ∀ j, j < gS p → gO p j ≠ gS p := fun j hj e => by have := hO j hj; omega
      refine c_tput (O := gO p) (pq := fun u => if u = gS p then k4 else tn (I (6, u, 0) 3)) w ?_ ?_ ?_ ?_ (fun j hj => ⟨?_, ?_⟩) ?_ (fun j hj => ?_) ?_ (fun x x1 x2 x3 => ?_)
      · simp [hK_sI, hK_sN, hK_sR, hK_S, kq0]
      · simp [hR_sI, hR_sN, hR_sR, hR_S, rq02]
      · simp [hK_sI, hK_sN, hK_sR, hK_S, kq2']
      · simp [hL_sI, hL_sN, hL_sR, hL_S, lq2']
      · simp [hR_sI, hR_sN, hR_sR, hR_S, rq21 hj]
      · simp [hK_sI, hK_sN, hK_sR, hK_S, no j hj, kq6 (hO j hj)]
      · simp [hK_sI, hK_sN, hK_sR, hK_S]
      · obtain ⟨g1, -, g3⟩ := bn_tn (hW.2.2 _ (hO j hj)).2.2.1 (by decide)
        simp only [no j hj, if_false]
        refine ⟨?_, by omega⟩
        rw [← g1]
        simp [hI_sI, hI_sN, hI_sR, hI_S, no j hj]
      · refine ⟨?_, by simp only [if_true]; omega⟩
        simp [hI_sI, hI_sN, hI_sR, hI_S, e4]
      · rw [forall_eq]
        have tk4 : tn p4 = k4 := by rw [e4]; exact tn_of (by omega)
        have fO : opF p I (fun b => if b < x then gO p b else if b = x then gS p else gO p (b - 1)) (tn p4) := by
          refine ⟨x, x1, fun b => rfl, fun j j1 j2 => ?_, ?_⟩
          · have := x2 j j1 j2
            simp only [no j j2, if_false, if_true] at this
            rw [tk4]; exact this
          · rcases x3 with x3 | x3
            · exact Or.inl x3
            · by_cases x0 : x = 0
              · exact Or.inl x0
              · right
                simp only [no (x - 1) (by omega), if_false, if_true] at x3
                rw [tk4]; exact x3
        have q1 := Kf_ws (p := p) (O := fun b => if b < x then gO p b else if b = x then gS p else gO p (b - 1))
        have q2 := Lf_ws (p := p) (O := fun b => if b < x then gO p b else if b = x then gS p else gO p (b - 1))
        have q3 := Rf_ws (p := p) (O := fun b => if b < x then gO p b else if b = x then gS p else gO p (b - 1)) x1 (fun b => rfl) (fun i hi e => by have := hW.1.2.2.2.2.2.1 i hi; omega)
        refine S_goal (Q := Q (nI (gS p))) (p := wS p (fun b => if b < x then gO p b else if b = x then gS p else gO p (b - 1))) (by rw [q1]; rfl) (by rw [q2]; rfl) (by rw [q3]; rfl) (h3' _ _ _ fO ⟨⟨?_, ?_, ?_, ?_, ?_, ?_, ?_, ?_, ?_, ?_, ?_⟩, ⟨?_, ?_⟩, ?_, fun n j n6 n7 n8 n9 n0 => ?_⟩)
        · simp [hI_sI, hI_sN, hI_sR, hI_mv, hI_S]
        · simp [hI_sI, hI_sN, hI_sR, hI_mv, hI_S]
        · simp [hI_sI, hI_sN, hI_sR, hI_mv, hI_S]
        · simp [hI_sI, hI_sN, hI_sR, hI_mv, hI_S]
        · simp [hI_sI, hI_sN, hI_sR, hI_mv, hI_S]
        · simp [hI_sI, hI_sN, hI_sR, hI_mv, hI_S]
        · simp [hI_sI, hI_sN, hI_sR, hI_mv, hI_S]
        · simp [hI_sI, hI_sN, hI_sR, hI_mv, hI_S]
        · simp [hI_sI, hI_sN, hI_sR, hI_mv, hI_S]
        · simp [hI_sI, hI_sN, hI_sR, hI_mv, hI_S]
        · simp [hI_sI, hI_sN, hI_sR, hI_mv, hI_S]
        · simp [hI_sI, hI_sN, hI_sR, hI_mv, hI_S]
        · simp [hI_sI, hI_sN, hI_sR, hI_mv, hI_S]
        · have : ∀ σ : PH, hI σ (0, 0, 0) 5 = nI (gS p) → hI σ (0, 0, 0) 5 + 1 = nI (gS p + 1) := fun σ e => by rw [e, nI_1]
          rw [hI_sI, if_pos ⟨rfl, rfl⟩]
          refine this _ ?_
          simp [hI_sI, hI_sN, hI_sR, hI_mv, hI_S, h5]
        · have n0' : ∀ σ : PH, ∀ v, hI (sI σ (0, 0, 0) 5 v) n j = hI σ n j := fun σ v => by rw [hI_sI, if_neg n0]
          rw [n0']
          simp [hI_sI, hI_sN, hI_sR, hI_mv, hI_S, n6, n7, n8, n9]
  · have hrg : bn p1 1 20 ∧ bn p2 1 10 ∧ bn p3 1 30 ∧ bn p4 0 9 ∧ bn p5 1 10 := ⟨⟨k1, a1, b1, e1⟩, ⟨k2, a2, b2, e2⟩, ⟨k3, a3, b3, e3⟩, ⟨k4, a4, b4, e4⟩, ⟨k5, a5, b5, e5⟩⟩
    rw [hI_S, h5, show (4 : Int32) = nI 4 from rfl, nI_ltI (by omega) (by decide)] at w
    exact h2 hrg (by omega)
