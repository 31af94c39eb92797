/-! The law sends: item by item. -/
theorem bq_tz (T : Int32) {n : Nat} (hn : n < 32) : (T >>> (nI n &&& 31)) &&& 1 = 0 ↔ bq T n = false := by
  constructor
  · intro h
    cases e : bq T n with
    | false => rfl
    | true =>
      have := (bq_tst T hn).mpr e
      rw [this] at h; exact absurd h (by decide)
  · intro h
    refine bq_ext (fun i hi => ?_)
    rw [bq_and, bq_1 i hi, bq_0]
    by_cases e : i = 0
    · subst e; rw [bq_shr T hn, h]; rfl
    · simp [e]
/-- as Enc, with the message at c0 under way: n of its places told -/
def EncX (p : PP) (b I : IF) (c0 n : Nat) : Prop :=
  (∀ k, k < 3 → I (23, 0, 0) k = b (21, 2, 0) k) ∧ (∀ s j, s < 2 → j < 11 → I (23, 1, 0) (11 * s + j) = b (21, 4 + j, 0) s) ∧ (∀ i, i < gT p → EncI b I i) ∧ (∀ c, c < 10 → c ≠ c0 → EncM b I c) ∧ (I (23, 11, 0) 0 = b (20, 0, 0) 1 ∧ I (23, 11, 0) 1 = b (20, 0, 0) 3 ∧ I (23, 11, 0) 2 = b (20, 0, 0) 15 ∧ I (23, 11, 0) 3 = b (20, 0, 0) 35) ∧ n ≤ 6 ∧ ∀ q, q < n → EncC b I c0 q
/-- only the law's rows change -/
def FL (I I' : IF) : Prop := ∀ n j, n.1 ≠ 23 → I' n j = I n j
theorem FL.rf {I : IF} : FL I I := fun _ _ _ => rfl
theorem FL.tr {a b c : IF} (h : FL a b) (g : FL b c) : FL a c := fun n j q => (g n j q).trans (h n j q)
theorem FL_up {I : IF} {k j : Nat} {v : Int32} : FL I (up I (23, k, 0) j v) := fun n i q => up_ne (fun w => q (by rw [w.1]))
theorem EncX_gv {p : PP} {a b b' I I' : IF} {s at_ o K n d c i : Nat} (hW : WF p a) (hM : MXs p a b s at_ o K n) (hE : EncX p b I (5 * s + at_) n) (hs : s < 2) (hat : at_ < 5) (hi : i < gT p) (g10 : gT p ≤ 10) (hc : a (16, i, 0) 4 = nI c) (c4 : c ≤ 4) (hd : d ≤ c) (hn : n + d ≤ 6) (hG : GVr b b' i (5 * s + at_) n d c) (f8 : ∀ k, k + d < c → I' (23, 8, 0) (4 * i + k) = I (23, 8, 0) (4 * i + (k + d))) (f8o : ∀ j, ¬ (4 * i ≤ j ∧ j < 4 * i + 4) → I' (23, 8, 0) j = I (23, 8, 0) j) (f6 : I' (23, 6, 0) i = nI (c - d)) (f6o : ∀ j, j ≠ i → I' (23, 6, 0) j = I (23, 6, 0) j) (f10 : ∀ q, q < d → I' (23, 10, 0) (6 * (5 * s + at_) + (n + q)) = nI (i + 16 * (2 * tn (b (21, 28, 0) (4 * i + q)) + tn (b (21, 29, 0) (4 * i + q))))) (f10o : ∀ j, ¬ (6 * (5 * s + at_) + n ≤ j ∧ j < 6 * (5 * s + at_) + n + d) → I' (23, 10, 0) j = I (23, 10, 0) j) (fo : ∀ k j, k ≠ 6 → k ≠ 8 → k ≠ 10 → I' (23, k, 0) j = I (23, k, 0) j) : EncX p b' I' (5 * s + at_) (n + d) := by
  obtain ⟨h1, h2, h3, h4, h5, h6, h7⟩ := hE
  obtain ⟨v1, v2, v3, v4⟩ := hG
  obtain ⟨-, -, -, -, -, -, -, -, -, -, -, m12, m13, m14⟩ := hM.2.2.2.2.1 i hi
  obtain ⟨-, -, -, -, -, -, sz, c', j1, j2, j3, j4, j5, j6⟩ := hW.2.1 i hi
  have bl : ∀ k j, k ≠ 27 → k ≠ 28 → k ≠ 29 → k < 32 ∨ 34 < k → b' (21, k, 0) j = b (21, k, 0) j := fun k j a1 a2 a3 a4 => v1 _ j (fun w => n21 a1 w.1) (fun w => by rcases w.1 with w | w; exact n21 a2 w; exact n21 a3 w) (fun w => by rcases w.1 with w | w | w <;> exact n21 (by omega) w)
  have b20 : ∀ j, b' (20, 0, 0) j = b (20, 0, 0) j := fun j => v1 _ j (by simp) (by simp) (by simp)
  have b27 : ∀ j, j ≠ i → b' (21, 27, 0) j = b (21, 27, 0) j := fun j g => v1 _ j (fun w => g w.2) (by simp) (by simp)
  have b28 : ∀ k j, k = 28 ∨ k = 29 → ¬ (4 * i ≤ j ∧ j < 4 * i + 4) → b' (21, k, 0) j = b (21, k, 0) j := fun k j g w => v1 _ j (fun z => n21 (by omega) z.1) (fun z => w z.2) (fun z => by rcases z.1 with z | z | z <;> exact n21 (by omega) z)
  have bc : ∀ k j, 32 ≤ k → k ≤ 34 → ¬ (10 * (5 * s + at_) + n ≤ j ∧ j < 10 * (5 * s + at_) + n + d) → b' (21, k, 0) j = b (21, k, 0) j := fun k j g1 g2 w => v1 _ j (fun z => n21 (by omega) z.1) (fun z => by rcases z.1 with z | z <;> exact n21 (by omega) z) (fun z => w z.2)
  refine ⟨fun k hk => by rw [fo 0 _ (by decide) (by decide) (by decide), bl 2 _ (by decide) (by decide) (by decide) (by decide)]; exact h1 k hk, fun u k hu hk => by rw [fo 1 _ (by decide) (by decide) (by decide), bl _ _ (by omega) (by omega) (by omega) (by omega)]; exact h2 u k hu hk, fun k hk => ?_, fun c hc9 hcc => ?_, ?_, hn, fun q hq => ?_⟩
  · by_cases e : k = i
    · subst e
      obtain ⟨g1, g2, g3, g4, g5, g6, g7, g8, g9⟩ := h3 k hk
      have t27 : tn (b' (21, 27, 0) k) = c - d := by rw [v2, tn_nI (by omega)]
      have t27' : tn (b (21, 27, 0) k) = c := by rw [m12, hc, tn_nI (by omega)]
      rw [t27'] at g9
      unfold EncI tkN
      rw [t27, bl 16 _ (by decide) (by decide) (by decide) (by decide), bl 17 _ (by decide) (by decide) (by decide) (by decide), bl 18 _ (by decide) (by decide) (by decide) (by decide), bl 19 _ (by decide) (by decide) (by decide) (by decide), bl 20 _ (by decide) (by decide) (by decide) (by decide), bl 21 _ (by decide) (by decide) (by decide) (by decide), bl 22 _ (by decide) (by decide) (by decide) (by decide), bl 23 _ (by decide) (by decide) (by decide) (by decide), bl 24 _ (by decide) (by decide) (by decide) (by decide), bl 25 _ (by decide) (by decide) (by decide) (by decide), bl 26 _ (by decide) (by decide) (by decide) (by decide), fo 2 _ (by decide) (by decide) (by decide), fo 3 _ (by decide) (by decide) (by decide), fo 4 _ (by decide) (by decide) (by decide), fo 5 _ (by decide) (by decide) (by decide), fo 7 _ (by decide) (by decide) (by decide), f6, v2]
      refine ⟨g1, g2, g3, g4, g5, rfl, g7, by omega, fun q hq => ?_⟩
      obtain ⟨w1, w2⟩ := v3 q (by omega)
      rw [w1, w2, f8 q (by omega)]
      exact g9 (q + d) (by omega)
    · refine (h3 k hk).cg (fun m a1 a2 => ?_) (fun m q a1 a2 => b28 m _ a1 (by omega)) (fun m a1 a2 => ?_) (fun q hq => f8o _ (by omega))
      · by_cases w : m = 27
        · subst w; exact b27 k e
        · exact bl m _ w (by omega) (by omega) (by omega)
      · by_cases w : m = 6
        · subst w; exact f6o k e
        · exact fo m _ w (by omega) (by omega)
  · refine (h4 c hc9 hcc).cg (fun k g => bl k _ (by omega) (by omega) (by omega) (by omega)) (fun k q a1 a2 a3 => bc k _ a1 a2 (by omega)) (fo 9 _ (by decide) (by decide) (by decide)) (fun q hq => f10o _ (by omega))
  · rw [fo 11 _ (by decide) (by decide) (by decide), fo 11 _ (by decide) (by decide) (by decide), fo 11 _ (by decide) (by decide) (by decide), fo 11 _ (by decide) (by decide) (by decide), b20, b20, b20, b20]; exact h5
  · by_cases e : q < n
    · obtain ⟨i', v, f, w1, w2, w3, w4, w5, w6, w7⟩ := h7 q e
      exact ⟨i', v, f, by rw [bc 33 _ (by decide) (by decide) (by omega)]; exact w1, w2, by rw [bc 32 _ (by decide) (by decide) (by omega)]; exact w3, w4, by rw [bc 34 _ (by decide) (by decide) (by omega)]; exact w5, w6, by rw [f10o _ (by omega)]; exact w7⟩
    · obtain ⟨w1, w2, w3⟩ := v4 (q - n) (by omega)
      obtain ⟨-, -, -, -, -, -, -, -, g9⟩ := h3 i hi
      have t27' : tn (b (21, 27, 0) i) = c := by rw [m12, hc, tn_nI (by omega)]
      rw [t27'] at g9
      obtain ⟨y1, y2, y3⟩ := g9 (q - n) (by omega)
      have z9 : zb (b (21, 29, 0) (4 * i + (q - n))) := by rw [m14 _ (by omega)]; exact j6 _
      obtain ⟨z1, z2⟩ := tn_zb z9
      have e2 : n + (q - n) = q := by omega
      have f := f10 (q - n) (by omega)
      rw [e2] at w1 w2 w3 f
      exact ⟨i, _, _, w1, by omega, by rw [w2]; exact y1, y2, by rw [w3]; exact z2, z1, f⟩
set_option maxHeartbeats 1000000 in
theorem x_itemsL {p P : PP} {J : JF} {s at_ o K mo : Nat} {T : Int32} (hs : s < gS p) (g2 : gS p ≤ 2) (ho : o < gM p s) (hat : at_ < 5) (g10 : gT p ≤ 10) (hmo : mo ≤ 6) (hK : K ≤ gM p s) (hP : ∀ q, q < K → gP p s q ≠ o) {F : Int32 → Int32 → PH → Prop} {Q : Int32 → PH → Prop} : ∀ (d k : Nat) (a b I : IF) (n : Nat), k + d = gT p → WF p a → MXs p a b s at_ o K n → EncX p b I (5 * s + at_) n → n ≤ mo → a (6, s, 0) 4 = nI mo → (∀ b' I' n' z, n' ≤ mo → MXs p (flL s o mo T k d a) b' s at_ o K n' → EncX p b' I' (5 * s + at_) n' → FR b b' → FL I I' → F (nI n') z (S P I' J)) → lL_publish_295 (nI (11 * s)) (23, 1, 0) (23, 6, 0) (23, 8, 0) (23, 9, 0) (23, 10, 0) (23, 11, 0) T (nI (5 * s + at_)) F Q (d + 1) (nI n) (nI k) (S P I J) := by
  intro d
  induction d with
  | zero =>
    intro k a b I n h hW hM hE hn hm hF
    have : k = gT p := by omega
    subst this
    have e2 : I (23, 11, 0) 2 = nI (gT p) := by rw [hE.2.2.2.2.1.2.2.1, hM.1.2.2.2.1, hW.1.2.2.1]
    unfold lL_publish_295
    refine ⟨rfl, vinL (i := 2) 4 rfl (by decide) (by decide), fun _ => hF b I n _ hn hM hE FR.rf FL.rf, fun q => absurd ?_ q⟩
    rw [hI_S, show Int32.toNatClampNeg 2 = 2 from rfl, e2, nI_leI (by omega) (by omega)]; exact Nat.le_refl _
  | succ d ih =>
    intro k a b I n h hW hM hE hn hm hF
    have hk : k < gT p := by omega
    have e2 : I (23, 11, 0) 2 = nI (gT p) := by rw [hE.2.2.2.2.1.2.2.1, hM.1.2.2.2.1, hW.1.2.2.1]
    obtain ⟨c, hc, c4, tc⟩ := IS_c (hW.2.1 k hk)
    have hF' := hF
    simp only [flL] at hF'
    obtain ⟨-, -, -, -, -, q6, -, -, q9⟩ := hE.2.2.1 k hk
    have m12 := (hM.2.2.2.2.1 k hk).2.2.2.2.2.2.2.2.2.2.2.1
    have r6 : I (23, 6, 0) k = nI c := by rw [q6, m12, hc]
    have t27 : tn (b (21, 27, 0) k) = c := by rw [m12, hc, tn_nI (by omega)]
    rw [t27] at q9
    have r1 : I (23, 1, 0) (11 * s + 6) = nI mo := by rw [hE.2.1 s 6 (by omega) (by decide), hM.2.2.1.2.2.2.2.2.1, hm]
    have ck : (nI k).toNatClampNeg = k := nI_clamp (by omega)
    have e6 : nI (11 * s) + 6 = nI (11 * s + 6) := nI_add _ 6
    have hn0 := hM.2.2.2.1.2.2.2.1
    unfold lL_publish_295
    rw [e6, hI_S, show Int32.toNatClampNeg 2 = 2 from rfl, e2, ck, nI_clamp (show 11 * s + 6 < 2 ^ 31 by omega), r6, r1, nI_sub hn, nI_1, bq_tz T (by omega)]
    refine ⟨rfl, vinL (i := 2) 4 rfl (by decide) (by decide), fun q => ?_, fun _ => ⟨fun q => ⟨rfl, vinL 10 rfl (by omega) (by decide), rfl, vinL 22 rfl (by omega) (by decide), ?_⟩, fun q => ?_⟩⟩
    · rw [nI_leI (by omega) (by omega)] at q; omega
    · have qT : bq T k = true := by simpa using q
      rw [qT] at hF'
      refine jV_i (fun x => x = nI (min c (mo - n))) (fun x hx => ?_) (fun K2 hK2 => ⟨fun w => hK2 _ ?_, fun w => hK2 _ ?_⟩)
      · rw [hx]
        obtain ⟨b', w1, w2, w3⟩ := MXs_gvN hs ho hat hk hK hP (min c (mo - n)) a b n c hW hM hc (by omega) c4 (by omega)
        obtain ⟨u1, u2, u3⟩ := gvN_c hk hs ho (min c (mo - n)) a c n hW hc (by omega) c4 hn0 (by omega)
        refine ⟨min c (mo - n) + 1, ?_⟩
        refine x_copyL (I := I) (s := s) (w := fun q => 2 * tn (b (21, 28, 0) (4 * k + q)) + tn (b (21, 29, 0) (4 * k + q))) (by omega) (by omega) (by omega) (by omega) (fun q hq => (q9 q (by omega)).2.2) (fun I1 f1 f2 => ?_) (min c (mo - n)) 0 I (by omega) (fun _ _ _ => rfl) (fun q hq => by omega)
        have f1' : ∀ k j, k ≠ 10 → I1 (23, k, 0) j = I (23, k, 0) j := fun k j g => f1 _ j (fun z => n23 g z.1)
        refine ⟨c - min c (mo - n) + 1, ?_⟩
        refine x_moveL (I := I1) (s := s) (c := c) (by omega) c4 (by omega) (by rw [f1' 6 _ (by decide)]; exact r6) (fun I2 f3 f4 => ?_) (c - min c (mo - n)) (min c (mo - n)) I1 (by omega) (Nat.le_refl _) (fun _ _ _ => rfl) (fun k hk => by omega)
        have f3' : ∀ k j, k ≠ 8 → I2 (23, k, 0) j = I1 (23, k, 0) j := fun k j g => f3 _ j (fun z => n23 g z.1)
        refine ⟨rfl, vinL 10 rfl (by omega) (by decide), ?_⟩
        rw [forall_eq, hI_S, f3' 6 _ (by decide), f1' 6 _ (by decide), r6, nI_sub (show min c (mo - n) ≤ c by omega), sI_S, nI_add]
        have hFL : FL I (up I2 (23, 6, 0) k (nI (c - min c (mo - n)))) := fun N j g => by
          rw [up_ne (fun z => g (by rw [z.1])), f3 _ j (fun z => g (by rw [z.1])), f1 _ j (fun z => g (by rw [z.1]))]
        have hE' : EncX p b' (up I2 (23, 6, 0) k (nI (c - min c (mo - n)))) (5 * s + at_) (n + min c (mo - n)) := by
          refine EncX_gv hW hM hE (by omega) hat hk g10 hc c4 (by omega) (by omega) w3 (fun q hq => ?_) (fun j hj => ?_) (up_same _ _ _ _) (fun j hj => ?_) (fun q hq => ?_) (fun j hj => ?_) (fun m j a1 a2 a3 => ?_)
          · rw [up_ne (fun z => n23 (by decide) z.1), f4 q hq, f1' 8 _ (by decide)]
          · rw [up_ne (fun z => n23 (by decide) z.1), f3 _ j (fun z => hj z.2), f1' 8 _ (by decide)]
          · rw [up_nj hj, f3' 6 _ (by decide), f1' 6 _ (by decide)]
          · rw [up_ne (fun z => n23 (by decide) z.1), f3' 10 _ (by decide)]; exact f2 q hq
          · rw [up_ne (fun z => n23 (by decide) z.1), f3' 10 _ (by decide)]; exact f1 _ j (fun z => hj ⟨z.2.1, z.2.2⟩)
          · rw [up_ne (fun z => n23 a1 z.1), f3' m _ a2, f1' m _ a3]
        refine ih (k + 1) (giA a k s o mo) b' _ (n + min c (mo - n)) (by omega) (giA_ok hW hk hs ho hn0 hn (by omega)).1 ?_ hE' (by omega) (by rw [giA_o ⟨fun y => by simp only at y; omega, fun y => by simp only at y; omega⟩]; exact hm) (fun b2 I3 n' z k1 k2 k3 k4 k5 => hF' b2 I3 n' z k1 ?_ k3 (w2.tr k4) (hFL.tr k5))
        · unfold giA; rw [tc, hn0, tn_nI (by omega)]; exact w1
        · simpa using k2
      · rw [nI_leI (by omega) (by omega)] at w
        congr 1; omega
      · rw [nI_leI (by omega) (by omega)] at w
        congr 1; omega
    · rw [q] at hF'
      exact ih (k + 1) a b I n (by omega) hW hM hE hn hm (fun b2 I3 n' z k1 k2 k3 k4 k5 => hF' b2 I3 n' z k1 (by simpa using k2) k3 k4 k5)
