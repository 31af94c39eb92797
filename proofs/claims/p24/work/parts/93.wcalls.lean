/-! The class's calls, as the law makes them. -/
theorem bn_iff {k lo hi : Nat} (hk : k < 2 ^ 31) (hh : hi < 2 ^ 31) : bn (nI k) lo hi ↔ lo ≤ k ∧ k ≤ hi := by
  constructor
  · rintro ⟨j, h1, h2, e⟩
    have := (nI_eq hk (by omega)).mp e
    omega
  · rintro ⟨h1, h2⟩; exact bn_nI h1 h2
theorem bn_neg {lo hi : Nat} (hh : hi < 2 ^ 31) : ¬ bn (-1) lo hi := by
  rintro ⟨j, h1, h2, e⟩
  exact nI_m1 (q := j) (by omega) e.symm
section
variable {p : PP} {I : IF} {J : JF} {Q : Int32 → PH → Prop}
theorem w_latest {x : Int32} (hW : WF p I) (h1 : ∀ s, s < gS p → x = nI s → I (6, s, 0) 7 ≠ 0 → Q (I (6, s, 0) 10) (S p I J)) (h2 : (∀ s, s < gS p → x = nI s → I (6, s, 0) 7 = 0) → Q (-7100) (S p I J)) : wL_latest (0, 0, 0) x (S p I J) Q := by
  unfold wL_latest w6_latest
  exact ⟨rfl, rfl, c_openS hW (fun s hs e l => ⟨_, rfl, kq6 hs, h1 s hs e l⟩) (fun hn => ⟨fun _ => h2 hn, rfl⟩)⟩
theorem w_keepAlives {x : Int32} (hW : WF p I) (h1 : ∀ s, s < gS p → x = nI s → I (6, s, 0) 7 ≠ 0 → Q (I (6, s, 0) 11) (S p I J)) (h2 : (∀ s, s < gS p → x = nI s → I (6, s, 0) 7 = 0) → Q (-7100) (S p I J)) : wL_keepAlives (0, 0, 0) x (S p I J) Q := by
  unfold wL_keepAlives w6_keepAlives
  exact ⟨rfl, rfl, c_openS hW (fun s hs e l => ⟨_, rfl, kq6 hs, h1 s hs e l⟩) (fun hn => ⟨fun _ => h2 hn, rfl⟩)⟩
theorem w_waiting {x : Int32} (hW : WF p I) (h1 : ∀ i, i < gT p → x = nI i → I (6, gW p i, 0) 7 ≠ 0 → Q (I (16, i, 0) 4) (S p I J)) (h2 : (∀ i, i < gT p → x = nI i → I (6, gW p i, 0) 7 = 0) → Q (-7100) (S p I J)) : wL_waiting (0, 0, 0) x (S p I J) Q := by
  unfold wL_waiting w6_waiting
  exact ⟨rfl, rfl, c_liveI hW (fun s hs e l => ⟨_, rfl, kq14 hs, _, rq145 hs, kq16 hs, h1 s hs e l⟩) (fun hn => ⟨fun _ => h2 hn, rfl⟩)⟩
theorem w_queued {x : Int32} (hW : WF p I) (h1 : ∀ i, i < gT p → x = nI i → I (6, gW p i, 0) 7 ≠ 0 → Q (I (14, i, 0) 8) (S p I J)) (h2 : (∀ i, i < gT p → x = nI i → I (6, gW p i, 0) 7 = 0) → Q (-7100) (S p I J)) : wL_queued (0, 0, 0) x (S p I J) Q := by
  unfold wL_queued w6_queued
  exact ⟨rfl, rfl, c_liveI hW (fun s hs e l => ⟨_, rfl, kq14 hs, h1 s hs e l⟩) (fun hn => ⟨fun _ => h2 hn, rfl⟩)⟩
theorem w_tick (h : Q (I (0, 0, 0) 8) (S p I J)) : w6_tick (0, 0, 0) (S p I J) Q := by
  unfold w6_tick; exact ⟨rfl, h⟩
theorem w_requests (h : Q (I (0, 0, 0) 7) (S p I J)) : w6_requests (0, 0, 0) (S p I J) Q := by
  unfold w6_requests; exact ⟨rfl, h⟩
theorem w_qbh {i t : Nat} {X : String → PH → Prop} (hW : WF p I) (hi : i < gT p) (l : I (6, gW p i, 0) 7 ≠ 0) (hG : HG I t) (hC5 : hC I ≤ 512) (h5 : t ≤ 5000) (hnow : I (0, 0, 0) 8 = nI t) (hT : TI p I i t) (hH : HI p I i t) (h : Q (I (14, i, 0) 8) (S p I J)) : w6_queuedByHistory (0, 0, 0) (nI i) (S p I J) Q X := by
  have h16 := hW.1.2.2.2.1
  unfold w6_queuedByHistory
  refine ⟨rfl, c_liveI hW (fun s hs e l => ⟨_, rfl, _, rfl, rfl, ?_⟩) (fun hn => absurd (hn i hi rfl) l)⟩
  have : i = s := (nI_eq (by omega) (by omega)).mp e
  subst this
  rw [hI_S, hnow]
  exact c_count hW hs hG hC5 h5 l hT hH h
theorem w_isOpen {x : Int32} (hW : WF p I) (h1 : ∀ s, s < gS p → x = nI s → I (6, s, 0) 7 ≠ 0 → Q 1 (S p I J)) (h2 : ∀ k, k ≤ 3 → x = nI k → (∀ s, s < gS p → k = s → I (6, s, 0) 7 = 0) → Q 0 (S p I J)) (h3 : (∀ k, k ≤ 3 → x ≠ nI k) → Q (-7200) (S p I J)) : wL_isOpen (0, 0, 0) x (S p I J) Q := by
  have h4 := hW.1.2.1
  unfold wL_isOpen w6_isOpen
  refine ⟨rfl, c_rng (lo := 0) (hi := 3) (by decide) (by decide) (fun k _ k2 e => ⟨rfl, _, rfl, rfl, ?_, ?_⟩) (fun hn => ⟨fun _ => h3 (fun k hk => hn k (Nat.zero_le _) hk), rfl⟩)⟩
  · subst e; exact vinL 4 rfl (by omega) (by decide)
  · subst e
    rw [hR_S, nI_clamp (by omega)]
    by_cases g : k < gS p
    · refine ⟨fun e => (by rw [rq20 g] at e; cases e), fun m2 e => ?_⟩
      rw [rq20 g] at e; cases e
      refine ⟨kq6 g, fun z => ⟨fun _ => h2 k k2 rfl (fun s hs e => by subst e; exact z), fun w => absurd rfl w⟩, fun z => ⟨fun w => absurd w (by decide), fun _ => h1 k g rfl z⟩⟩
    · exact ⟨fun _ => ⟨fun _ => h2 k k2 rfl (fun s hs e => by omega), fun w => absurd rfl w⟩, fun m2 e => (by rw [rq20n g] at e; cases e)⟩
theorem w_size {x y : Int32} (hW : WF p I) (h1 : ∀ s q, s < gS p → x = nI s → I (6, s, 0) 7 ≠ 0 → q < tn (I (6, s, 0) 9) → I (10, s, gP p s q) 3 = y → Q (I (10, s, gP p s q) 4) (S p I J)) (h2 : ∀ s, s < gS p → x = nI s → I (6, s, 0) 7 ≠ 0 → (∀ q, q < tn (I (6, s, 0) 9) → I (10, s, gP p s q) 3 ≠ y) → Q (-1) (S p I J)) (h3 : (∀ s, s < gS p → x = nI s → I (6, s, 0) 7 = 0) → Q (-7100) (S p I J)) : wL_size (0, 0, 0) x y (S p I J) Q := by
  unfold wL_size w6_size
  refine ⟨rfl, rfl, c_openS hW (fun s hs e l => ⟨_, rfl, kq6 hs, ?_⟩) (fun hn => ⟨fun _ => h3 hn, rfl⟩)⟩
  refine c_find hW hs (fun q hq e2 => ⟨fun z => (by cases z), fun m2 z => ?_⟩) (fun hn => ⟨fun _ => h2 s hs e l hn, fun m2 z => (by cases z)⟩)
  cases z
  refine ⟨kq10 hs ((hW.2.2 s hs).2.2.2.2.2.2.2.1 q (by
    obtain ⟨-, -, w⟩ := bn_tn (hW.2.2 s hs).2.2.2.2.2.1 (by have := (hW.2.2 s hs).2.2.2.2.2.2.1; omega)
    omega)), h1 s q hs e l hq e2⟩
theorem w_valueAt {x y z : Int32} (hW : WF p I) (hU : ∀ s q r, s < gS p → q < tn (I (6, s, 0) 9) → r < tn (I (6, s, 0) 9) → I (10, s, gP p s q) 3 = I (10, s, gP p s r) 3 → q = r) (h1 : ∀ s q n, s < gS p → x = nI s → I (6, s, 0) 7 ≠ 0 → q < tn (I (6, s, 0) 9) → I (10, s, gP p s q) 3 = y → z = nI n → n < tn (I (10, s, gP p s q) 4) → Q (I (11, s, gP p s q) n) (S p I J)) (h2 : (∀ s, s < gS p → x = nI s → I (6, s, 0) 7 = 0) → Q (-7100) (S p I J)) (h3 : ∀ s, s < gS p → x = nI s → I (6, s, 0) 7 ≠ 0 → (∀ q, q < tn (I (6, s, 0) 9) → I (10, s, gP p s q) 3 = y → ∀ n, n < tn (I (10, s, gP p s q) 4) → z ≠ nI n) → Q (-7300) (S p I J)) : wL_valueAt (0, 0, 0) x y z (S p I J) Q := by
  unfold wL_valueAt w6_valueAt
  refine ⟨rfl, rfl, c_msg hW hU (fun s q n hs e l hq ho ey ez hn h10 => ⟨_, rfl, kq10 hs ho, _, rq100 hs ho, kq11 hs ho, by rw [ez]; exact vinL 10 (lq11 hs ho) h10 (by decide), ?_⟩) (fun hn => ⟨fun _ => h2 hn, fun w => absurd w nIN, Or.inl rfl⟩) (fun s hs e l hno => ⟨fun w => absurd w nNI, fun _ => h3 s hs e l hno, Or.inr rfl⟩)⟩
  have := h1 s q n hs e l hq ey ez hn
  rw [hI_S, ez, nI_clamp (by omega)]; exact this
theorem w_itemAt {x y z : Int32} (hW : WF p I) (hU : ∀ s q r, s < gS p → q < tn (I (6, s, 0) 9) → r < tn (I (6, s, 0) 9) → I (10, s, gP p s q) 3 = I (10, s, gP p s r) 3 → q = r) (h1 : ∀ s q n, s < gS p → x = nI s → I (6, s, 0) 7 ≠ 0 → q < tn (I (6, s, 0) 9) → I (10, s, gP p s q) 3 = y → z = nI n → n < tn (I (10, s, gP p s q) 4) → Q (I (12, s, gP p s q) n) (S p I J)) (h2 : (∀ s, s < gS p → x = nI s → I (6, s, 0) 7 = 0) → Q (-7100) (S p I J)) (h3 : ∀ s, s < gS p → x = nI s → I (6, s, 0) 7 ≠ 0 → (∀ q, q < tn (I (6, s, 0) 9) → I (10, s, gP p s q) 3 = y → ∀ n, n < tn (I (10, s, gP p s q) 4) → z ≠ nI n) → Q (-7300) (S p I J)) : wL_itemAt (0, 0, 0) x y z (S p I J) Q := by
  unfold wL_itemAt w6_itemAt
  refine ⟨rfl, rfl, c_msg hW hU (fun s q n hs e l hq ho ey ez hn h10 => ⟨_, rfl, kq10 hs ho, _, rq101 hs ho, kq12 hs ho, by rw [ez]; exact vinL 10 (lq12 hs ho) h10 (by decide), ?_⟩) (fun hn => ⟨fun _ => h2 hn, fun w => absurd w nIN, Or.inl rfl⟩) (fun s hs e l hno => ⟨fun w => absurd w nNI, fun _ => h3 s hs e l hno, Or.inr rfl⟩)⟩
  have := h1 s q n hs e l hq ey ez hn
  rw [hI_S, ez, nI_clamp (by omega)]; exact this
theorem w_isMarked {x y z : Int32} (hW : WF p I) (hU : ∀ s q r, s < gS p → q < tn (I (6, s, 0) 9) → r < tn (I (6, s, 0) 9) → I (10, s, gP p s q) 3 = I (10, s, gP p s r) 3 → q = r) (h1 : ∀ s q n, s < gS p → x = nI s → I (6, s, 0) 7 ≠ 0 → q < tn (I (6, s, 0) 9) → I (10, s, gP p s q) 3 = y → z = nI n → n < tn (I (10, s, gP p s q) 4) → Q (I (13, s, gP p s q) n) (S p I J)) (h2 : (∀ s, s < gS p → x = nI s → I (6, s, 0) 7 = 0) → Q (-7100) (S p I J)) (h3 : ∀ s, s < gS p → x = nI s → I (6, s, 0) 7 ≠ 0 → (∀ q, q < tn (I (6, s, 0) 9) → I (10, s, gP p s q) 3 = y → ∀ n, n < tn (I (10, s, gP p s q) 4) → z ≠ nI n) → Q (-7300) (S p I J)) : wL_isMarked (0, 0, 0) x y z (S p I J) Q := by
  unfold wL_isMarked w6_isMarked
  refine ⟨rfl, rfl, c_msg hW hU (fun s q n hs e l hq ho ey ez hn h10 => ?_) (fun hn => ⟨fun _ => h2 hn, fun w => absurd w nIN, Or.inl rfl⟩) (fun s hs e l hno => ⟨fun w => absurd w nNI, fun _ => h3 s hs e l hno, Or.inr rfl⟩)⟩
  have hz := (hW.2.2 s hs).2.2.2.2.2.2.2.2.2.2 _ ho n
  have g := h1 s q n hs e l hq ey ez hn
  refine ⟨_, rfl, kq10 hs ho, _, rq102 hs ho, kq13 hs ho, by rw [ez]; exact vinL 10 (lq13 hs ho) h10 (by decide), ?_, ?_, ?_⟩
  · rw [hI_S, ez, nI_clamp (by omega)]; exact hz
  · rw [hI_S, ez, nI_clamp (by omega)]
    intro w; rw [w] at g; exact g
  · rw [hI_S, ez, nI_clamp (by omega)]
    intro w
    rcases hz with e | e
    · exact absurd e w
    · rw [e] at g; exact g
theorem w_write {x y : Int32} {t : Nat} (hW : WF p I) (hG : HG I t) (hc : hC I < 512) (hnow : I (0, 0, 0) 8 = nI t) (h1 : ∀ k v, k < 10 → v ≤ 1000 → x = nI k → y = nI v → Q (I (1, 0, 0) k) (S p (wrA I k (hC I) (nI t) (nI v)) J)) (h2 : ¬ bn x 0 9 → Q (-7100) (S p I J)) (h3 : bn x 0 9 → ¬ bn y 0 1000 → Q (-7200) (S p I J)) : wL_write (0, 0, 0) x y (S p I J) Q := by
  unfold wL_write w6_write w6_checkNode
  refine ⟨rfl, fun q => ⟨fun _ => h2 ?_, fun w => absurd w (by decide), Or.inl rfl⟩, fun q => ⟨fun w => ?_, fun w => ⟨fun _ => h2 ?_, fun w => absurd w (by decide), Or.inl rfl⟩⟩⟩
  · rintro ⟨k, -, k2, e⟩
    rw [e, nI_lt0 (by omega)] at q; exact q
  · obtain ⟨k, hk, rfl⟩ := nI_of q
    rw [show (10 : Int32) = nI 10 from rfl, nI_ltI hk (by decide)] at w
    refine c_rng (lo := 0) (hi := 1000) (by decide) (by decide) (fun v _ v2 e => ?_) (fun hn => ⟨fun w => absurd w (by decide), fun _ => h3 (bn_nI (by omega) (by omega)) ?_, Or.inr rfl⟩)
    · subst e
      refine ⟨rfl, _, rfl, rfl, vinL 10 rfl w (by decide), ?_⟩
      rw [forall_eq, sI_S, nI_clamp hk]
      refine ⟨_, rfl, rfl, ?_⟩
      rw [hI_S, hI_S, up_ne (by simp), hnow]
      exact c_record (h := hC I) (by omega) (by rw [up_ne (by simp)]; exact hG.1) (h1 k v w v2 rfl rfl)
    · rintro ⟨v, v1, v2, e⟩; exact hn v v1 v2 e
  · rintro ⟨k, -, k2, e⟩
    rw [e, show (10 : Int32) = nI 10 from rfl, nI_ltI (by omega) (by decide)] at w; omega
theorem w_open {p1 p2 p3 p4 p5 : Int32} (hW : WF p I) (hO : OK p) (h1 : ¬ (bn p1 1 20 ∧ bn p2 1 10 ∧ bn p3 1 30 ∧ bn p4 0 9 ∧ bn p5 1 10) → Q (-7200) (S p I J)) (h2 : (bn p1 1 20 ∧ bn p2 1 10 ∧ bn p3 1 30 ∧ bn p4 0 9 ∧ bn p5 1 10) → gS p = 4 → Q (-7300) (S p I J)) (h3 : (bn p1 1 20 ∧ bn p2 1 10 ∧ bn p3 1 30 ∧ bn p4 0 9 ∧ bn p5 1 10) → gS p < 4 → ∀ O I' J', opF p I O (tn p4) → opI I I' (gS p) p1 p2 p3 p4 p5 → Q (nI (gS p)) (S (wS p O) I' J')) : wL_open (0, 0, 0) p1 p2 p3 p4 p5 (S p I J) Q := by
  unfold wL_open
  exact ⟨rfl, c_opn hW hO (fun g => ⟨fun _ => h1 g, fun w => absurd w nAS, Or.inl rfl⟩) (fun g w4 => ⟨fun w => absurd w nSA, fun _ => h2 g w4, Or.inr rfl⟩) (fun g w4 O I' J' fO fI => h3 g w4 O I' J' fO fI)⟩
theorem w_add {p1 p2 p3 p4 p5 p6 : Int32} (hW : WF p I) (hz : zb p5) (h1 : ¬ ((∃ s, s < gS p ∧ p1 = nI s ∧ I (6, s, 0) 7 ≠ 0) ∧ bn p2 0 9) → Q (-7100) (S p I J)) (h2 : ((∃ s, s < gS p ∧ p1 = nI s ∧ I (6, s, 0) 7 ≠ 0) ∧ bn p2 0 9) → ¬ (bn p3 1 20 ∧ bn p4 1 4 ∧ bn p6 0 1000) → Q (-7200) (S p I J)) (h3 : ((∃ s, s < gS p ∧ p1 = nI s ∧ I (6, s, 0) 7 ≠ 0) ∧ bn p2 0 9) → (bn p3 1 20 ∧ bn p4 1 4 ∧ bn p6 0 1000) → gT p = 16 → Q (-7300) (S p I J)) (h4 : ((∃ s, s < gS p ∧ p1 = nI s ∧ I (6, s, 0) 7 ≠ 0) ∧ bn p2 0 9) → (bn p3 1 20 ∧ bn p4 1 4 ∧ bn p6 0 1000) → gT p < 16 → ∀ s nd sz, s < gS p → p1 = nI s → I (6, s, 0) 7 ≠ 0 → nd < 10 → p2 = nI nd → 1 ≤ sz → sz ≤ 4 → p4 = nI sz → ∀ I2 J2, adI I I2 (gT p) s (cnt (gW p) s (gT p)) p2 p3 p4 p5 p6 → Q (nI (gT p)) (S (wT p s) (adC I I2 (gT p) nd sz p5) J2)) : wL_add (0, 0, 0) p1 p2 p3 p4 p5 p6 (S p I J) Q := by
  unfold wL_add
  exact ⟨rfl, c_add hW hz (fun g => ⟨fun _ => h1 g, fun w => absurd w nIA, fun w => absurd w (by decide), Or.inl rfl⟩) (fun g g2 => ⟨fun w => absurd w nAI, fun _ => h2 g g2, fun w => absurd w nAS, Or.inr (Or.inl rfl)⟩) (fun g g2 g3 => ⟨fun w => absurd w (by decide), fun w => absurd w nSA, fun _ => h3 g g2 g3, Or.inr (Or.inr rfl)⟩) (fun g g2 hi s nd sz hs e1 l hnd e2 s1 s4 e4 I2 J2 f => h4 g g2 hi s nd sz hs e1 l hnd e2 s1 s4 e4 I2 J2 f)⟩
theorem w_close {x : Int32} (hW : WF p I) (h1 : ∀ s, s < gS p → x = nI s → I (6, s, 0) 7 ≠ 0 → Q (nI (cnt (gW p) s (gT p))) (S p (up I (6, s, 0) 7 0) J)) (h2 : (∀ s, s < gS p → x = nI s → I (6, s, 0) 7 = 0) → Q (-7100) (S p I J)) : wL_close (0, 0, 0) x (S p I J) Q := by
  unfold wL_close w6_close
  refine ⟨rfl, rfl, c_openS hW (fun s hs e l => ⟨_, rfl, kq6 hs, ?_⟩) (fun hn => ⟨fun _ => h2 hn, rfl⟩)⟩
  have hic := (hW.2.2 s hs).2.2.2.2.1
  rw [forall_eq, sI_S, hI_S, up_nj (by decide), hic]
  exact h1 s hs e l
theorem w_setReporting {x y : Int32} (hW : WF p I) (hy : zb y) (h1 : ∀ i, i < gT p → x = nI i → I (6, gW p i, 0) 7 ≠ 0 → Q (if I (14, i, 0) 6 = y then 0 else 1) (S p (up I (14, i, 0) 6 y) J)) (h2 : (∀ i, i < gT p → x = nI i → I (6, gW p i, 0) 7 = 0) → Q (-7100) (S p I J)) : wL_setReporting (0, 0, 0) x y (S p I J) Q := by
  unfold wL_setReporting w6_setReporting
  refine ⟨rfl, rfl, c_liveI hW (fun i hi e l => ⟨_, rfl, kq14 hi, fun q => ⟨hy, ?_⟩, fun q => ⟨hy, ?_⟩⟩) (fun hn => ⟨fun _ => h2 hn, rfl⟩)⟩
  · have g := h1 i hi e l
    rw [hI_S] at q
    rw [if_pos q] at g
    rw [forall_eq, sI_S]
    exact ⟨fun _ => g, fun w => absurd rfl w⟩
  · have g := h1 i hi e l
    rw [hI_S] at q
    rw [if_neg q] at g
    rw [forall_eq, sI_S]
    exact ⟨fun w => absurd w (by decide), fun _ => g⟩
theorem w_link {x y z : Int32} (hW : WF p I) (hz : zb z) (h1 : ∀ i j I1 v T', i < gT p → j < gT p → x = nI i → y = nI j → I (6, gW p i, 0) 7 ≠ 0 → I (6, gW p j, 0) 7 ≠ 0 → i ≠ j → gW p i = gW p j → (∀ n k, ¬ (n = (14, i, 0) ∧ k = 7) → I1 n k = I n k) → I1 (14, i, 0) 7 = T' → lkC (I (14, i, 0) 7) z v T' j → Q v (S p I1 J)) (h2 : ∀ i j, i < gT p → j < gT p → x = nI i → y = nI j → I (6, gW p i, 0) 7 ≠ 0 → I (6, gW p j, 0) 7 ≠ 0 → (i = j ∨ gW p i ≠ gW p j) → Q (-7200) (S p I J)) (h3 : ((∀ i, i < gT p → x = nI i → I (6, gW p i, 0) 7 = 0) ∨ (∀ i, i < gT p → y = nI i → I (6, gW p i, 0) 7 = 0)) → Q (-7100) (S p I J)) : wL_link (0, 0, 0) x y z (S p I J) Q := by
  have h16 := hW.1.2.2.2.1
  have vz : ∀ {v : Int32} {σ : PH}, v = 0 ∨ v = 1 → Q v σ → zb v ∧ ((v = 0 → Q 0 σ) ∧ (¬ (v = 0) → Q 1 σ)) := fun h g => by
    rcases h with rfl | rfl
    · exact ⟨zb0, fun _ => g, fun w => absurd rfl w⟩
    · exact ⟨zb1, fun w => absurd w (by decide), fun _ => g⟩
  unfold wL_link w6_link
  refine ⟨rfl, rfl, c_liveI hW (fun i hi e li => c_liveI hW (fun j hj e2 lj => ⟨_, rfl, _, rfl, (by rw [hK_S, kq14 hi]; decide), (by rw [hK_S, kq14 hj]; decide), fun w => ⟨fun q => absurd q nAI, fun _ => ?_, Or.inr rfl⟩, fun w => ⟨kq14 hi, kq14 hj, _, rq141 hj, _, rq141 hi, (by rw [hK_S, kq6 (hW.1.2.2.2.2.2.1 i hi)]; decide), (by rw [hK_S, kq6 (hW.1.2.2.2.2.2.1 j hj)]; decide), fun ow => ?_, fun ow => ⟨fun q => absurd q nAI, fun _ => ?_, Or.inr rfl⟩⟩⟩) (fun hn => ⟨fun _ => h3 (Or.inr hn), fun q => absurd q nIA, Or.inl rfl⟩)) (fun hn => ⟨fun _ => h3 (Or.inl hn), fun q => absurd q nIA, Or.inl rfl⟩)⟩
  · have : i = j := by simpa using w
    exact h2 i j hi hj e e2 li lj (Or.inl this)
  · have ho : gW p i = gW p j := by simpa using ow
    have hij : i ≠ j := fun q => w (by rw [q])
    unfold w1_setTrigger
    rw [hI_S, (hW.2.1 j hj).1, bq_tst0 _ (by omega)]
    refine ⟨kq14 hi, fun b0 => ⟨fun z0 => ?_, fun z0 => ?_⟩, fun b1 => ⟨fun z0 => ?_, fun z0 => ?_⟩⟩
    · rw [forall_eq, sI_S]
      refine vz (Or.inr rfl) (h1 i j _ 1 _ hi hj e e2 li lj hij ho (fun n k q => up_ne q) (up_same _ _ _ _) (Or.inr (Or.inl ⟨b0, ?_, rfl, rfl⟩)))
      rcases zb_cases hz with q | q
      · exact absurd q.symm z0
      · exact q
    · exact vz (Or.inl rfl) (h1 i j I 0 _ hi hj e e2 li lj hij ho (fun n k q => rfl) rfl (Or.inl ⟨b0, z0.symm, rfl, rfl⟩))
    · rw [forall_eq, sI_S]
      refine vz (Or.inr rfl) (h1 i j _ 1 _ hi hj e e2 li lj hij ho (fun n k q => up_ne q) (up_same _ _ _ _) (Or.inr (Or.inr (Or.inr ⟨by simpa using b1, ?_, rfl, rfl⟩))))
      rcases zb_cases hz with q | q
      · exact q
      · exact absurd q.symm z0
    · exact vz (Or.inl rfl) (h1 i j I 0 _ hi hj e e2 li lj hij ho (fun n k q => rfl) rfl (Or.inr (Or.inr (Or.inl ⟨by simpa using b1, z0.symm, rfl, rfl⟩))))
  · have ho : gW p i ≠ gW p j := fun q => ow (by rw [q])
    exact h2 i j hi hj e e2 li lj (Or.inr ho)
theorem w_request {q0 : Nat} (hq : I (0, 0, 0) 7 = nI q0) (h10 : q0 ≤ 10) (h1 : q0 < 10 → Q (nI (q0 + 1)) (S p (up I (0, 0, 0) 7 (nI (q0 + 1))) J)) (h2 : q0 = 10 → Q (-7300) (S p I J)) : wL_request (0, 0, 0) (S p I J) Q := by
  unfold wL_request w6_request
  rw [hI_S, hq]
  refine ⟨rfl, rfl, fun w => ?_, fun w => ⟨fun _ => h2 ?_, rfl⟩⟩
  · rw [show (10 : Int32) = nI 10 from rfl, nI_ltI (by omega) (by decide)] at w
    rw [forall_eq, nI_1, sI_S, hI_S, up_same]
    exact h1 w
  · rw [show (10 : Int32) = nI 10 from rfl, nI_ltI (by omega) (by decide)] at w; omega
theorem w_ack {x y : Int32} (hW : WF p I) (h1 : ∀ s q, s < gS p → x = nI s → I (6, s, 0) 7 ≠ 0 → q < tn (I (6, s, 0) 9) → I (10, s, gP p s q) 3 = y → Q 1 (S (setM p s (gM p s) (fgP (gP p s) q (tn (I (6, s, 0) 9)))) (up I (6, s, 0) 9 (nI (tn (I (6, s, 0) 9) - 1))) J)) (h2 : ∀ s, s < gS p → x = nI s → I (6, s, 0) 7 ≠ 0 → (∀ q, q < tn (I (6, s, 0) 9) → I (10, s, gP p s q) 3 ≠ y) → Q 0 (S p I J)) (h3 : (∀ s, s < gS p → x = nI s → I (6, s, 0) 7 = 0) → Q (-7100) (S p I J)) : wL_acknowledge (0, 0, 0) x y (S p I J) Q := by
  unfold wL_acknowledge w6_acknowledge
  refine ⟨rfl, rfl, c_openS hW (fun s hs e l => ⟨_, rfl, kq6 hs, ?_⟩) (fun hn => ⟨fun _ => h3 hn, rfl⟩)⟩
  have hSS := hW.2.2 s hs
  obtain ⟨hk9, -, hkm⟩ := bn_tn hSS.2.2.2.2.2.1 (by have := hSS.2.2.2.2.2.2.1; omega)
  refine c_placeOf hW hs (fun q hq e2 => ⟨fun _ => ?_, fun w => absurd w (nI_m1 (by have := hSS.2.2.2.2.2.2.1; omega))⟩) (fun hn => ⟨fun w => absurd rfl w, fun _ => ⟨fun _ => h2 s hs e l hn, fun w => absurd rfl w⟩⟩)
  have hsh : ∀ {Q : PH → Prop}, w4_forget (6, s, 0) (nI q) (S (setM p s (gM p s) (gP p s)) I J) Q → w4_forget (6, s, 0) (nI q) (S p I J) Q := by
    intro Q g; rw [setM_id] at g; exact g
  exact hsh (c_forget hs hSS.2.2.2.2.2.2.1 hk9 hkm hq hSS.2.2.2.2.2.2.2.1 ⟨fun w => absurd w (by decide), fun _ => h1 s q hs e l hq e2⟩)
theorem w_pass {x : Int32} {t : Nat} (hW : WF p I) (hO : OK p) (hnow : I (0, 0, 0) 8 = nI t) (h5 : t ≤ 5000) (h1 : ∀ n p' a' c J', 1 ≤ n → n ≤ 50 → x = nI n → t + n ≤ 5000 → PS p I n p' a' c → Q c (S p' a' J')) (h2 : ¬ bn x 1 50 → Q (-7200) (S p I J)) (h3 : ∀ n, 1 ≤ n → n ≤ 50 → x = nI n → 5000 < t + n → Q (-7300) (S p I J)) : wL_pass (0, 0, 0) x (S p I J) Q := by
  unfold wL_pass w6_pass
  refine ⟨rfl, c_rng (lo := 1) (hi := 50) (by decide) (by decide) (fun n n1 n2 e => ⟨rfl, fun q => ?_, fun q => ⟨fun w => absurd w (by decide), fun _ => h3 n n1 n2 e ?_, Or.inr rfl⟩⟩) (fun hn => ⟨fun _ => h2 ?_, fun w => absurd w (by decide), Or.inl rfl⟩)⟩
  · subst e
    rw [hI_S, hnow, show (5000 : Int32) = nI 5000 from rfl, nI_sub h5, nI_leI (by omega) (by omega)] at q
    refine ⟨n + 1, by omega, ?_⟩
    exact c_passL (t0 := t) hW hO hnow (by omega) (fun p' a' c J' y hP => h1 n p' a' c J' n1 n2 rfl (by omega) hP) n 0 p I 0 J (by omega) ⟨rfl, rfl, rfl⟩
  · rw [e, hI_S, hnow, show (5000 : Int32) = nI 5000 from rfl, nI_sub h5, nI_leI (by omega) (by omega)] at q
    omega
  · rintro ⟨k, k1, k2, e⟩; exact hn k k1 k2 e
end
