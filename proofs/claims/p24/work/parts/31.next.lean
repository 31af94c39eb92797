/-! The class's rotation of messages. -/
def setM (p : PP) (s m : Nat) (π : Nat → Nat) : PP := (gS p, gT p, fun x => if x = s then m else gM p x, gO p, gW p, fun x => if x = s then π else gP p x)
theorem gM_s {p : PP} {s m : Nat} {π : Nat → Nat} : gM (setM p s m π) s = m := if_pos rfl
theorem gP_s {p : PP} {s m q : Nat} {π : Nat → Nat} : gP (setM p s m π) s q = π q := by show (if s = s then π else gP p s) q = π q; rw [if_pos rfl]
theorem gM_n {p : PP} {s m u : Nat} {π : Nat → Nat} (h : u ≠ s) : gM (setM p s m π) u = gM p u := if_neg h
theorem gP_n {p : PP} {s m u : Nat} {π : Nat → Nat} (h : u ≠ s) : gP (setM p s m π) u = gP p u := by show (if u = s then π else gP p u) = gP p u; rw [if_neg h]
theorem setM_id {p : PP} {s : Nat} : setM p s (gM p s) (gP p s) = p := by
  obtain ⟨a, b, c, d, e, f⟩ := p
  show (a, b, (fun x => if x = s then c s else c x), d, e, fun x => if x = s then f s else f x) = (a, b, c, d, e, f)
  have h1 : (fun x => if x = s then c s else c x) = c := by funext x; split; (next h => rw [h]); rfl
  have h2 : (fun x => if x = s then f s else f x) = f := by funext x; split; (next h => rw [h]); rfl
  rw [h1, h2]
theorem Kf_cg {p q : PP} (h1 : gS p = gS q) (h2 : gT p = gT q) (h3 : gM p = gM q) : Kf p = Kf q := by funext n; unfold Kf; rw [h1, h2, h3]
theorem Lf_cg {p q : PP} (h1 : gS p = gS q) (h2 : gT p = gT q) (h3 : gM p = gM q) : Lf p = Lf q := by funext n; unfold Lf; rw [h1, h2, h3]
theorem Rf_9 {p : PP} {s m : Nat} {π π' : Nat → Nat} {r k z j : Nat} (h : r ≠ 9) : Rf (setM p s m π) (r, k, z) j = Rf (setM p s m π') (r, k, z) j := by
  unfold Rf
  split <;> first | rfl | exact absurd (by assumption) h
theorem rq9' {p : PP} {s m j : Nat} {π : Nat → Nat} (hs : s < gS p) (hj : j < m) : Rf (setM p s m π) (9, s, 0) j = some (10, s, π j) := by
  rw [rq9 (p := setM p s m π) hs (by rw [gM_s]; exact hj), gP_s]
theorem rq9n' {p : PP} {s m j : Nat} {π : Nat → Nat} (hj : ¬ j < m) : Rf (setM p s m π) (9, s, 0) j = none := rq9n (p := setM p s m π) (by rw [gM_s]; exact hj)
theorem kq10' {p : PP} {s m o : Nat} {π : Nat → Nat} (hs : s < gS p) (ho : o < m) : Kf (setM p s m π) (10, s, o) = 3 := kq10 (p := setM p s m π) hs (by rw [gM_s]; exact ho)
theorem sR_9 {p : PP} {s m j o : Nat} {π : Nat → Nat} {I : IF} {J : JF} (hs : s < gS p) (hj : j < m) : sR (S (setM p s m π) I J) (9, s, 0) j (some (10, s, o)) = S (setM p s m (fun x => if x = j then o else π x)) I J := by
  have e : (fun (a : Nm) (b : Nat) => if a = (9, s, 0) ∧ b = j then some ((10, s, o) : Nm) else Rf (setM p s m π) a b) = Rf (setM p s m (fun x => if x = j then o else π x)) := by
    funext a b
    obtain ⟨r, k, z⟩ := a
    by_cases hr : r = 9
    · subst hr
      by_cases hk : k = s ∧ z = 0
      · obtain ⟨rfl, rfl⟩ := hk
        by_cases hb : b = j
        · subst hb
          rw [if_pos ⟨rfl, rfl⟩, rq9' hs hj, if_pos rfl]
        · rw [if_neg (fun q => hb q.2)]
          by_cases hm : b < m
          · rw [rq9' hs hm, rq9' hs hm, if_neg hb]
          · rw [rq9n' hm, rq9n' hm]
      · rw [if_neg (fun q => hk (by have := q.1; simp only [Prod.mk.injEq] at this; exact this.2))]
        by_cases hz : z = 0
        · have hks : k ≠ s := fun q => hk ⟨q, hz⟩
          show (if k < gS p ∧ z = 0 ∧ b < gM (setM p s m π) k then some ((10, k, gP (setM p s m π) k b) : Nm) else none) = (if k < gS p ∧ z = 0 ∧ b < gM (setM p s m _) k then some ((10, k, gP (setM p s m _) k b) : Nm) else none)
          rw [gM_n hks, gM_n hks, gP_n hks, gP_n hks]
        · show (if k < gS p ∧ z = 0 ∧ b < gM (setM p s m π) k then some ((10, k, gP (setM p s m π) k b) : Nm) else none) = (if k < gS p ∧ z = 0 ∧ b < gM (setM p s m _) k then some ((10, k, gP (setM p s m _) k b) : Nm) else none)
          rw [if_neg (fun q => hz q.2.1), if_neg (fun q => hz q.2.1)]
    · rw [if_neg (fun q => hr (by have := q.1; simp only [Prod.mk.injEq] at this; exact this.1))]
      exact Rf_9 hr
  show (Kf _, Lf _, I, (fun (a : Nm) (b : Nat) => if a = (9, s, 0) ∧ b = j then some ((10, s, o) : Nm) else Rf (setM p s m π) a b), J) = (Kf _, Lf _, I, Rf _, J)
  rw [e, Kf_cg (p := setM p s m π) (q := setM p s m (fun x => if x = j then o else π x)) rfl rfl rfl, Lf_cg (p := setM p s m π) (q := setM p s m (fun x => if x = j then o else π x)) rfl rfl rfl]
def shP (π : Nat → Nat) (pl x : Nat) : Nat → Nat := fun q => if pl ≤ q ∧ q + 1 < x then π (q + 1) else π q
def fgP (π : Nat → Nat) (pl K : Nat) : Nat → Nat := fun q => if q = K - 1 then π pl else shP π pl K q
theorem shP_step {π : Nat → Nat} {pl x : Nat} (h : pl < x) : (fun q => if q = x - 1 then shP π pl x x else shP π pl x q) = shP π pl (x + 1) := by
  funext q
  unfold shP
  by_cases e : q = x - 1
  · rw [if_pos e, if_neg (by omega), if_pos (by omega)]; congr 1; omega
  · rw [if_neg e]
    by_cases g : pl ≤ q ∧ q + 1 < x
    · rw [if_pos g, if_pos (by omega)]
    · rw [if_neg g, if_neg (by omega)]
theorem shP_lt {π : Nat → Nat} {pl x m q : Nat} (h : ∀ q, q < m → π q < m) (hx : x ≤ m) (hq : q < m) : shP π pl x q < m := by
  unfold shP; split
  · exact h _ (by omega)
  · exact h _ hq
theorem c_forgetL {p : PP} {J : JF} {a : IF} {s m pl K : Nat} {π : Nat → Nat} {n2 : Nm} {x1 : Int32} {F : Int32 → PH → Prop} {Q : PH → Prop} (hs : s < gS p) (hm : m ≤ 5) (hK : a (6, s, 0) 9 = nI K) (hKm : K ≤ m) (hr : ∀ q, q < m → π q < m) (hF : F (nI K) (S (setM p s m (shP π pl K)) a J)) : ∀ (d x : Nat), pl < x → x + d = K → l4_forget_24 (6, s, 0) x1 n2 F Q (d + 1) (nI x) (S (setM p s m (shP π pl x)) a J) := by
  intro d
  induction d with
  | zero =>
    intro x h1 h2
    have : x = K := by omega
    subst this
    unfold l4_forget_24
    refine ⟨kq6 hs, fun _ => hF, fun q => absurd ?_ q⟩
    rw [hI_S, hK, nI_leI (by omega) (by omega)]; exact Nat.le_refl _
  | succ d ih =>
    intro x h1 h2
    have hx : Rf (setM p s m (shP π pl x)) (9, s, 0) x = some (10, s, shP π pl x x) := rq9' hs (by omega)
    unfold l4_forget_24
    refine ⟨kq6 hs, fun q => ?_, fun _ => ⟨_, rq66 hs, kq9 hs, vinL 5 (lq9 hs) (by omega) (by decide), ?_, ?_, ?_⟩⟩
    · rw [hI_S, hK, nI_leI (by omega) (by omega)] at q; omega
    · rw [nI_sub1 (by omega)]; exact vinL 5 (lq9 hs) (by omega) (by decide)
    · rw [hR_S, nI_clamp (by omega), hx]
      intro mm e; cases e
      show Kf (setM p s m (shP π pl x)) (10, s, shP π pl x x) = 3
      exact kq10' hs (shP_lt (x := x) (q := x) hr (by omega) (by omega))
    · rw [forall_eq, hR_S, nI_sub1 (by omega), nI_clamp (by omega), nI_clamp (by omega), hx, sR_9 hs (by omega), shP_step h1, nI_1]
      exact ih (x + 1) (by omega) (by omega)
theorem shP_1 {π : Nat → Nat} {pl : Nat} : shP π pl (pl + 1) = π := by funext q; unfold shP; rw [if_neg (by omega)]
theorem c_forget {p : PP} {J : JF} {a : IF} {s m pl K : Nat} {π : Nat → Nat} {Q : PH → Prop} (hs : s < gS p) (hm : m ≤ 5) (hK : a (6, s, 0) 9 = nI K) (hKm : K ≤ m) (hpl : pl < K) (hr : ∀ q, q < m → π q < m) (h : Q (S (setM p s m (fgP π pl K)) (up a (6, s, 0) 9 (nI (K - 1))) J)) : w4_forget (6, s, 0) (nI pl) (S (setM p s m π) a J) Q := by
  unfold w4_forget
  refine ⟨fun q => ?_, fun _ => ⟨kq6 hs, fun _ => ?_, fun q => absurd ?_ q⟩⟩
  · rw [nI_lt0 (by omega)] at q; exact q.elim
  · have hx : Rf (setM p s m π) (9, s, 0) pl = some (10, s, π pl) := rq9' hs (by omega)
    refine ⟨_, rq66 hs, kq9 hs, vinL 5 (lq9 hs) (by omega) (by decide), (10, s, π pl), ?_, ?_⟩
    · rw [hR_S, nI_clamp (by omega), hx]
    · refine ⟨K - (pl + 1) + 1, ?_⟩
      rw [nI_1]
      have key := fun F (hF : F (nI K) (S (setM p s m (shP π pl K)) a J)) => c_forgetL (J := J) (x1 := nI pl) (n2 := (10, s, π pl)) (Q := Q) (F := F) hs hm hK hKm hr hF (K - (pl + 1)) (pl + 1) (by omega) (by omega)
      rw [shP_1] at key
      refine key _ ?_
      refine ⟨kq6 hs, ?_⟩
      rw [forall_eq, hI_S, hK, nI_sub1 (by omega), sI_S, hI_S, up_same]
      refine ⟨_, rq66 hs, kq9 hs, vinL 5 (lq9 hs) (by omega) (by decide), (show Kf (setM p s m (shP π pl K)) (10, s, π pl) = 3 from kq10' hs (hr pl (by omega))), ?_⟩
      rw [forall_eq, nI_clamp (by omega), sR_9 hs (by omega)]
      exact h
  · rw [hI_S, hK, nI_ltI (by omega) (by omega)]; exact hpl
