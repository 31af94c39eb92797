/-! The law's ticks: the turns. -/
/-- the row of lost ones, while a subscription is open, is below its life -/
def Lst (a : IF) (s : Nat) : Prop := ∃ lr lf, a (6, s, 0) 13 = nI lr ∧ a (6, s, 0) 2 = nI lf ∧ 1 ≤ lf ∧ lf ≤ 30 ∧ lr ≤ lf ∧ (a (6, s, 0) 7 ≠ 0 → lr < lf)
/-- what p24's runs keep to besides -/
def XT (p : PP) (a : IF) (t : Nat) : Prop := gS p ≤ 2 ∧ gT p ≤ 10 ∧ (∀ i, i < gT p → tn (a (14, i, 0) 2) ≤ 2) ∧ (∀ s, s < gS p → tn (a (6, s, 0) 4) ≤ 6 ∧ SN p a s t ∧ Lst a s) ∧ Trg p a
theorem Lst.cg {a a' : IF} {s : Nat} (h : ∀ j, j = 2 ∨ j = 7 ∨ j = 13 → a' (6, s, 0) j = a (6, s, 0) j) (g : Lst a s) : Lst a' s := by
  unfold Lst
  rw [h 2 (by omega), h 7 (by omega), h 13 (by omega)]; exact g
theorem Pub_Lst {p p' : PP} {a a' : IF} {s : Nat} {r : Int32} (h : Pub p a s p' a' r) (hl : a (6, s, 0) 7 ≠ 0) (hS : Lst a s) : Lst a' s := by
  obtain ⟨lr, lf, l1, l2, l3, l4, l5, l6⟩ := hS
  have l6 := l6 hl
  obtain ⟨T, hT, h⟩ := h
  rcases h with ⟨-, -, rfl, rfl, rfl⟩ | ⟨-, ⟨-, rfl, rfl, rfl⟩ | ⟨e, rfl, -, rfl, rfl⟩ | ⟨e, rfl, e2, a1, o, K, hN, rfl, -⟩⟩
  · exact ⟨lr, lf, by rw [idl, up_nj (by decide)]; exact l1, by rw [idl, up_nj (by decide)]; exact l2, l3, l4, l5, fun _ => l6⟩
  · have i13 : idl a s T (6, s, 0) 13 = nI lr := by rw [idl, up_nj (by decide)]; exact l1
    have i2 : idl a s T (6, s, 0) 2 = nI lf := by rw [idl, up_nj (by decide)]; exact l2
    unfold losA
    rw [i13, i2, nI_1]
    by_cases g : nI (lr + 1) < nI lf
    · rw [if_pos g]
      rw [nI_ltI (by omega) (by omega)] at g
      exact ⟨lr + 1, lf, up_same _ _ _ _, by rw [up_nj (by decide)]; exact i2, l3, l4, by omega, fun _ => g⟩
    · rw [if_neg g]
      refine ⟨lr + 1, lf, by rw [up_nj (by decide), up_same], by rw [up_nj (by decide), up_nj (by decide)]; exact i2, l3, l4, by omega, fun z => absurd (up_same _ _ _ _) z⟩
  · refine ⟨0, lf, ?_, ?_, l3, l4, by omega, fun _ => by omega⟩
    · rw [z23, up_same]; rfl
    · rw [z23, up_nj (by decide), up_nj (by decide), up_nj (by decide), up_ne (by simp), idl, up_nj (by decide)]; exact l2
  · obtain ⟨-, -, -, -, -, -, -, -, -, -, -, -, n13⟩ := hN
    refine ⟨0, lf, ?_, ?_, l3, l4, by omega, fun _ => by omega⟩
    · rw [z23, up_same]; rfl
    · rw [z23, up_nj (by decide), up_nj (by decide), flL_o ⟨fun q => by simp only at q; omega, fun q => by simp only at q; omega⟩, n13 _ _ (by simp) (by simp), up_ne (by simp), idl, up_nj (by decide)]; exact l2
theorem PT_Lst {p p' : PP} {a a' : IF} {s v : Nat} {r : Int32} (h : PT p a s p' a' r) (hS : Lst a v) : Lst a' v := by
  by_cases e : v = s
  · subst e
    rcases h with ⟨-, rfl, rfl, rfl⟩ | ⟨-, -, rfl, rfl, rfl⟩ | ⟨hl, -, h⟩
    · exact hS
    · exact hS.cg (fun j _ => up_ne (by simp))
    · exact Pub_Lst h (by rw [up_ne (by simp), up_ne (by simp)]; exact hl) (hS.cg (fun j _ => by rw [up_ne (by simp), up_ne (by simp)]))
  · obtain ⟨f1, -, -⟩ := PT_fr h
    exact hS.cg (fun j _ => f1 _ _ (by simp) (fun w => e (by have := w.1; simp only [Prod.mk.injEq] at this; exact this.2.1)) (by simp) (by simp) (by simp))
/-- a subscription whose turn it isn't -/
theorem PT_SNo {p p' : PP} {a a' : IF} {s v B : Nat} {r : Int32} (h : PT p a s p' a' r) (e : v ≠ s) (hS : SN p a v B) : SN p' a' v B := by
  obtain ⟨f1, -, f3⟩ := PT_fr h
  refine SN.cg (f3 v e).1 ?_ ?_ (fun o => ?_) hS
  · exact f1 _ _ (by simp) (fun w => e (by have := w.1; simp only [Prod.mk.injEq] at this; exact this.2.1)) (by simp) (by simp) (by simp)
  · exact f1 _ _ (by simp) (fun w => e (by have := w.1; simp only [Prod.mk.injEq] at this; exact this.2.1)) (by simp) (by simp) (by simp)
  · exact f1 _ _ (by simp) (by simp) (by simp) (fun w => e w.2) (by simp)
theorem PT_Trg {p p' : PP} {a a' : IF} {s : Nat} {r : Int32} (hp : SP p p') (h : PT p a s p' a' r) (hS : Trg p a) : Trg p' a' := by
  obtain ⟨f1, -, -⟩ := PT_fr h
  unfold Trg
  rw [hp.2.1, hp.2.2.2]
  intro i hi j hj hb
  rw [f1 (14, i, 0) 7 (by simp) (by simp) (by simp) (by simp) (by simp)] at hb
  exact hS i hi j hj hb
set_option maxHeartbeats 1000000 in
/-- the law's visit of a subscription -/
theorem x_turn {p p' P : PP} {a a' b I : IF} {J : JF} {s B t f k : Nat} {r x1 c : Int32} {K : Int32 → Int32 → PH → Prop} {Q : Int32 → PH → Prop} (hB : B + 1 < 8192) (hW : WF p a) (hM : MX p a b) (hE : Enc p b I) (g2 : gS p ≤ 2) (g10 : gT p ≤ 10) (hTr : Trg p a) (hmo6 : tn (a (6, s, 0) 4) ≤ 6) (hL : Lst a s) (hs : s < gS p) (hSN : SN p a s B) (ht : t + 1 ≤ 5000) (hnow : b (20, 0, 0) 1 = nI (t + 1)) (hTS : TS a b s t) (hk : k < gS p) (hx : (k = 0 → x1 = nI (11 * s)) ∧ (k ≠ 0 → 11 - x1 = nI (11 * s))) (hP : PT p a s p' a' r) (hQ : ∀ b' I', MX p' a' b' → Enc p' b' I' → FR b b' → FL I I' → lL_tick_110 (23, 1, 0) (23, 2, 0) (23, 6, 0) (23, 7, 0) (23, 8, 0) (23, 9, 0) (23, 10, 0) (23, 11, 0) x1 K Q f (c + r) (nI (k + 1)) (S P I' J)) : lL_tick_110 (23, 1, 0) (23, 2, 0) (23, 6, 0) (23, 7, 0) (23, 8, 0) (23, 9, 0) (23, 10, 0) (23, 11, 0) x1 K Q (f + 1) c (nI k) (S P I J) := by
  have h4 := hW.1.2.1
  have hs2 : s < 2 := by omega
  obtain ⟨m1, m2, m3, m4, m5, m6, m7, m8, m9, m10⟩ := (hM.2.1 s hs).1
  have e1 : I (23, 11, 0) 1 = nI (gS p) := by rw [hE.2.2.2.2.2.1, hM.1.2.2.1, hW.1.1]
  have e0 : I (23, 11, 0) 0 = nI (t + 1) := by rw [hE.2.2.2.2.1, hnow]
  have r0 : I (23, 1, 0) (11 * s) = a (6, s, 0) 7 := by
    have := hE.2.1 s 0 hs2 (by decide)
    rw [show 11 * s + 0 = 11 * s from rfl, show 4 + 0 = 4 from rfl] at this
    rw [this]; exact m1
  have r1 : I (23, 1, 0) (11 * s + 1) = b (21, 5, 0) s := hE.2.1 s 1 hs2 (by decide)
  have r2 : I (23, 1, 0) (11 * s + 2) = a (7, s, 0) 0 := by rw [hE.2.1 s 2 hs2 (by decide)]; exact m2
  unfold lL_tick_110
  rw [hI_S, show Int32.toNatClampNeg 1 = 1 from rfl, show Int32.toNatClampNeg 0 = 0 from rfl, e1, e0, nI_1]
  refine ⟨rfl, vinL (i := 1) 4 rfl (by decide) (by decide), fun q => ?_, fun _ => ?_⟩
  · rw [nI_leI (by omega) (by omega)] at q; omega
  refine jV_i (fun x => x = nI (11 * s)) (fun x hx' => ?_) (fun K2 hK2 => ⟨fun w => hK2 _ (hx.2 (fun z => w (by rw [z]; rfl))), fun w => hK2 _ (hx.1 ?_)⟩)
  · subst hx'
    have a1 : nI (11 * s) + 1 = nI (11 * s + 1) := nI_add _ 1
    have a2 : nI (11 * s) + 2 = nI (11 * s + 2) := nI_add _ 2
    rw [a1, a2, nI_clamp (show 11 * s < 2 ^ 31 by omega), nI_clamp (show 11 * s + 1 < 2 ^ 31 by omega), nI_clamp (show 11 * s + 2 < 2 ^ 31 by omega), r0, r1, r2]
    refine ⟨rfl, vinL 22 rfl (by omega) (by decide), fun w => ?_, fun w => ⟨vinL (i := 0) 4 rfl (by decide) (by decide), vinL 22 rfl (by omega) (by decide), vinL 22 rfl (by omega) (by decide), ?_⟩⟩
    · have e : a (6, s, 0) 7 = 0 := by
        rcases (hW.2.2 s hs).1 with e | e
        · exact e
        · exact absurd e w
      rcases hP with ⟨-, rfl, rfl, rfl⟩ | ⟨w, -⟩ | ⟨w, -⟩
      · have g := hQ b I hM hE FR.rf FL.rf
        rw [Int32.add_zero] at g; exact g
      · exact absurd e w
      · exact absurd e w
    · have e : ¬ a (6, s, 0) 7 = 0 := by rw [w]; decide
      have hT := hTS.resolve_left e
      obtain ⟨s1, s2, s3⟩ := hT.step ht
      have tick : ∀ v, MX p (up a (7, s, 0) 1 v) b := fun v => MX.sub hM (fun n j _ _ g => up_ne g) (fun _ _ _ _ => rfl) (by rw [up_ne (by simp)]; exact hM.1.2.1) hs (by
        have g := (hM.2.1 s hs).1
        unfold MS at *
        simp only [up_ne (n := (7, s, 0)) (a := (6, s, 0)) (by simp), up_nj (I := a) (n := (7, s, 0)) (a := (7, s, 0)) (j := 1) (b := 0) (by decide)]
        exact g)
      refine ⟨s3, fun w => ?_, fun w => ?_⟩
      · rcases hP with ⟨y, -⟩ | ⟨-, y, rfl, rfl, rfl⟩ | ⟨-, y, -⟩
        · exact absurd y e
        · have g := hQ b I (tick _) hE FR.rf FL.rf
          rw [Int32.add_zero] at g; exact g
        · exact absurd (s1.mp y) w
      · rcases hP with ⟨y, -⟩ | ⟨-, y, -⟩ | ⟨-, y, h⟩
        · exact absurd y e
        · exact absurd (s1.mpr w) y
        · have tick2 : MX p (up (up a (7, s, 0) 1 (a (7, s, 0) 1 - 1)) (7, s, 0) 1 (a (7, s, 0) 0)) b := MX.sub hM (fun n j _ _ g => by rw [up_ne g, up_ne g]) (fun _ _ _ _ => rfl) (by rw [up_ne (by simp), up_ne (by simp)]; exact hM.1.2.1) hs (by
            have g := (hM.2.1 s hs).1
            unfold MS at *
            simp only [up_ne (n := (7, s, 0)) (a := (6, s, 0)) (by simp)]
            rw [up_nj (by decide), up_nj (by decide)]
            exact g)
          have u6 : ∀ j, up (up a (7, s, 0) 1 (a (7, s, 0) 1 - 1)) (7, s, 0) 1 (a (7, s, 0) 0) (6, s, 0) j = a (6, s, 0) j := fun j => by rw [up_ne (by simp), up_ne (by simp)]
          obtain ⟨lr, lf, l1, l2, l3, l4, l5, l6⟩ := hL
          refine x_publishes (B := B) (lr := lr) (lf := lf) hB (WF_upt (WF_upt hW (by decide)) (by decide)) tick2 hE g2 g10 ?_ (by rw [u6]; exact hmo6) hs (SN.cg rfl (u6 _) (u6 _) (fun o => by rw [up_ne (by simp), up_ne (by simp)]) hSN) (by rw [u6]; exact e) (by rw [u6]; exact l1) (by rw [u6]; exact l2) l4 (l6 e) h (fun b' I' k1 k2 k3 k4 => hQ b' I' k1 k2 k3 k4)
          intro i hi j hj hb
          rw [up_ne (by simp), up_ne (by simp)] at hb
          exact hTr i hi j hj hb
  · have := (nI_e0 (show k < 2 ^ 31 by omega)).mp w
    exact this
/-- who is first -/
def fS (p : PP) (a : IF) : Nat := if gS p = 2 ∧ pr a 0 < pr a 1 then 1 else 0
theorem OQ_two {p : PP} {a : IF} (h : OQ p a) (g2 : gS p ≤ 2) : (0 < gS p → gO p 0 = fS p a) ∧ (1 < gS p → gO p 1 = 1 - fS p a) := by
  obtain ⟨pos, o1, o2, o3⟩ := h
  unfold fS
  refine ⟨fun h0 => ?_, fun h1 => ?_⟩
  · by_cases e : gS p = 2 ∧ pr a 0 < pr a 1
    · rw [if_pos e]
      have p1 := (o3 1 0 (by omega) (by omega)).mpr (Or.inl e.2)
      obtain ⟨a1, a2⟩ := o1 1 (by omega)
      obtain ⟨b1, b2⟩ := o1 0 (by omega)
      have : pos 1 = 0 := by omega
      rw [this] at a2; exact a2
    · rw [if_neg e]
      by_cases w : gS p = 1
      · have := (o2 0 h0).1; omega
      · have p1 := (o3 0 1 (by omega) (by omega)).mpr (by omega)
        obtain ⟨a1, a2⟩ := o1 1 (by omega)
        obtain ⟨b1, b2⟩ := o1 0 (by omega)
        have : pos 0 = 0 := by omega
        rw [this] at b2; exact b2
  · by_cases e : gS p = 2 ∧ pr a 0 < pr a 1
    · rw [if_pos e]
      have p1 := (o3 1 0 (by omega) (by omega)).mpr (Or.inl e.2)
      obtain ⟨a1, a2⟩ := o1 1 (by omega)
      obtain ⟨b1, b2⟩ := o1 0 (by omega)
      have : pos 0 = 1 := by omega
      rw [this] at b2; exact b2
    · rw [if_neg e]
      have p1 := (o3 0 1 (by omega) (by omega)).mpr (by omega)
      obtain ⟨a1, a2⟩ := o1 1 (by omega)
      obtain ⟨b1, b2⟩ := o1 0 (by omega)
      have : pos 1 = 1 := by omega
      rw [this] at a2; exact a2
