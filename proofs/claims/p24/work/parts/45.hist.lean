/-! What was written, and what an item queued by it. -/
abbrev smp (e ad f t : Nat) : Prop := (f - ad) / e < (t - ad) / e
abbrev awy (x y bd : Nat) : Prop := bd < (if x ≤ y then y - x else x - y)
def vbf (hn hv : Nat → Nat) (nd : Nat) : Nat → Nat
  | 0 => 0
  | w + 1 => if hn w = nd then hv w else vbf hn hv nd w
/-- how many, the last one, the value, from when -/
abbrev HQ : Type := Nat × Nat × Nat × Nat
def hsp (e ad bd tk vl : Nat) (r : HQ) : HQ := if smp e ad r.2.2.2 tk ∧ awy r.2.2.1 r.2.1 bd then (r.1 + 1, r.2.2.1, vl, tk) else (r.1, r.2.1, vl, tk)
/-- after n writes from w on -/
def hst (ht hn hv : Nat → Nat) (nd e ad bd w : Nat) : Nat → HQ
  | 0 => (1, vbf hn hv nd w, vbf hn hv nd w, ad)
  | n + 1 => if hn (w + n) = nd then hsp e ad bd (ht (w + n)) (hv (w + n)) (hst ht hn hv nd e ad bd w n) else hst ht hn hv nd e ad bd w n
theorem hsp_v {e ad bd tk vl : Nat} {r : HQ} : (hsp e ad bd tk vl r).2.2.1 = vl := by unfold hsp; split <;> rfl
theorem hsp_f {e ad bd tk vl : Nat} {r : HQ} : (hsp e ad bd tk vl r).2.2.2 = tk := by unfold hsp; split <;> rfl
theorem hst_v {ht hn hv : Nat → Nat} {nd e ad bd w : Nat} : ∀ n, (hst ht hn hv nd e ad bd w n).2.2.1 = vbf hn hv nd (w + n) := by
  intro n
  induction n with
  | zero => rfl
  | succ n ih =>
    rw [hst, ← Nat.add_assoc, vbf]
    split
    · exact hsp_v
    · exact ih
theorem hst_f {ht hn hv : Nat → Nat} {nd e ad bd w t : Nat} (ha : ad ≤ t) : ∀ n, (∀ k, w ≤ k → k < w + n → ad ≤ ht k ∧ ht k ≤ t) → ad ≤ (hst ht hn hv nd e ad bd w n).2.2.2 ∧ (hst ht hn hv nd e ad bd w n).2.2.2 ≤ t := by
  intro n
  induction n with
  | zero => intro _; exact ⟨Nat.le_refl _, ha⟩
  | succ n ih =>
    intro h
    rw [hst]
    split
    · rw [hsp_f]; exact h _ (by omega) (by omega)
    · exact ih (fun k h1 h2 => h k h1 (by omega))
theorem vbf_cg {hn hv hn' hv' : Nat → Nat} {nd : Nat} : ∀ w, (∀ k, k < w → hn' k = hn k ∧ hv' k = hv k) → vbf hn' hv' nd w = vbf hn hv nd w := by
  intro w
  induction w with
  | zero => intro _; rfl
  | succ w ih =>
    intro h
    rw [vbf, vbf, (h w (by omega)).1, (h w (by omega)).2, ih (fun k hk => h k (by omega))]
theorem hst_cg {ht hn hv ht' hn' hv' : Nat → Nat} {nd e ad bd w : Nat} : ∀ n, (∀ k, k < w + n → ht' k = ht k ∧ hn' k = hn k ∧ hv' k = hv k) → hst ht' hn' hv' nd e ad bd w n = hst ht hn hv nd e ad bd w n := by
  intro n
  induction n with
  | zero => intro h; rw [hst, hst, vbf_cg w (fun k hk => (h k (by omega)).2)]
  | succ n ih =>
    intro h
    obtain ⟨h1, h2, h3⟩ := h (w + n) (by omega)
    rw [hst, hst, h1, h2, h3, ih (fun k hk => h k (by omega))]
/-- what it comes to at the time t -/
def FIN (e ad bd t : Nat) (r : HQ) (q ls : Nat) : Prop := (smp e ad r.2.2.2 t ∧ awy r.2.2.1 r.2.1 bd → q = r.1 + 1 ∧ ls = r.2.2.1) ∧ (¬ (smp e ad r.2.2.2 t ∧ awy r.2.2.1 r.2.1 bd) → q = r.1 ∧ ls = r.2.1)
theorem awy_self (x bd : Nat) : ¬ awy x x bd := by show ¬ bd < (if x ≤ x then x - x else x - x); rw [if_pos (Nat.le_refl _), Nat.sub_self]; omega
theorem div_step {e x : Nat} (he : 1 ≤ e) : (x + 1) / e = x / e + (if (x + 1) % e = 0 then 1 else 0) := by
  have h1 := Nat.div_add_mod x e
  have h2 := Nat.mod_lt x (show 0 < e by omega)
  by_cases g : x % e + 1 = e
  · have : x + 1 = e * (x / e + 1) := by rw [Nat.mul_add]; omega
    rw [this, Nat.mul_div_cancel_left _ (by omega), Nat.mul_mod_right, if_pos rfl]
  · have e1 : (x + 1) / e = x / e := by
      have : x + 1 = e * (x / e) + (x % e + 1) := by omega
      rw [this, Nat.mul_add_div (by omega), Nat.div_eq_of_lt (show x % e + 1 < e by omega), Nat.add_zero]
    have e2 : (x + 1) % e = x % e + 1 := by
      have := Nat.div_add_mod (x + 1) e
      rw [e1] at this; omega
    rw [e1, e2, if_neg (by omega)]; rfl
theorem FIN_tick {e ad bd t q ls : Nat} {r : HQ} (he : 1 ≤ e) (h1 : ad ≤ r.2.2.2) (h2 : r.2.2.2 ≤ t) (h : FIN e ad bd t r q ls) : ((t + 1 - ad) % e ≠ 0 → FIN e ad bd (t + 1) r q ls) ∧ ((t + 1 - ad) % e = 0 → (awy r.2.2.1 ls bd → FIN e ad bd (t + 1) r (q + 1) r.2.2.1) ∧ (¬ awy r.2.2.1 ls bd → FIN e ad bd (t + 1) r q ls)) := by
  have hd : (t + 1 - ad) / e = (t - ad) / e + (if (t + 1 - ad) % e = 0 then 1 else 0) := by
    rw [show t + 1 - ad = (t - ad) + 1 by omega]; exact div_step he
  have hm : (r.2.2.2 - ad) / e ≤ (t - ad) / e := Nat.div_le_div_right (by omega)
  obtain ⟨f1, f2⟩ := h
  refine ⟨fun g => ?_, fun g => ?_⟩
  · rw [if_neg g, Nat.add_zero] at hd
    unfold FIN smp
    rw [hd]; exact ⟨f1, f2⟩
  · rw [if_pos g] at hd
    have s1 : smp e ad r.2.2.2 (t + 1) := by show _ < _; rw [hd]; omega
    by_cases a : awy r.2.2.1 r.2.1 bd
    · by_cases b : smp e ad r.2.2.2 t
      · obtain ⟨q1, q2⟩ := f1 ⟨b, a⟩
        refine ⟨fun w => ?_, fun w => ?_⟩
        · rw [q2] at w; exact absurd w (awy_self _ _)
        · exact ⟨fun _ => ⟨q1, q2⟩, fun z => absurd ⟨s1, a⟩ z⟩
      · obtain ⟨q1, q2⟩ := f2 (fun z => b z.1)
        refine ⟨fun w => ⟨fun _ => ⟨by omega, rfl⟩, fun z => absurd ⟨s1, a⟩ z⟩, fun w => ?_⟩
        rw [q2] at w; exact absurd a w
    · obtain ⟨q1, q2⟩ := f2 (fun z => a z.2)
      refine ⟨fun w => ?_, fun w => ⟨fun z => absurd z.2 a, fun _ => ⟨q1, q2⟩⟩⟩
      rw [q2] at w; exact absurd w a
theorem FIN_write {e ad bd t vl q ls : Nat} {r : HQ} (h : FIN e ad bd t r q ls) : FIN e ad bd t (hsp e ad bd t vl r) q ls := by
  obtain ⟨f1, f2⟩ := h
  have hs : ¬ smp e ad (hsp e ad bd t vl r).2.2.2 t := by rw [hsp_f]; exact Nat.lt_irrefl _
  refine ⟨fun z => absurd z.1 hs, fun _ => ?_⟩
  unfold hsp
  by_cases g : smp e ad r.2.2.2 t ∧ awy r.2.2.1 r.2.1 bd
  · rw [if_pos g]; exact f1 g
  · rw [if_neg g]; exact f2 g
theorem far_awy {x y bd : Nat} (hx : x ≤ 1000) (hy : y ≤ 1000) (hb : bd ≤ 1000) : far (nI x) (nI y) (nI bd) ↔ awy x y bd := by
  rw [far_iff (bn_nI (Nat.zero_le _) hx) (bn_nI (Nat.zero_le _) hy)]
  unfold farM
  show _ ↔ bd < (if x ≤ y then y - x else x - y)
  by_cases h : x ≤ y
  · rw [if_pos ((nI_leI (by omega) (by omega)).mpr h), if_pos h, nI_sub h, nI_leI (by omega) (by omega)]; omega
  · rw [if_neg (fun z => h ((nI_leI (by omega) (by omega)).mp z)), if_neg h, nI_sub (by omega), nI_leI (by omega) (by omega)]; omega
/-- the history as numbers -/
def hC (a : IF) : Nat := tn (a (4, 0, 0) 3)
def hTk (a : IF) (k : Nat) : Nat := tn (a (5, 0, 0) k)
def hNd (a : IF) (k : Nat) : Nat := tn (a (5, 1, 0) k)
def hVl (a : IF) (k : Nat) : Nat := tn (a (5, 2, 0) k)
def HG (a : IF) (t : Nat) : Prop := a (4, 0, 0) 3 = nI (hC a) ∧ (∀ k, k < hC a → a (5, 0, 0) k = nI (hTk a k) ∧ hTk a k ≤ t ∧ a (5, 1, 0) k = nI (hNd a k) ∧ a (5, 2, 0) k = nI (hVl a k) ∧ hVl a k ≤ 1000 ∧ hNd a k < 10) ∧ ∀ nd, nd < 10 → a (1, 0, 0) nd = nI (vbf (hNd a) (hVl a) nd (hC a))
def hR_ (a : IF) (i : Nat) : HQ := hst (hTk a) (hNd a) (hVl a) (tn (a (14, i, 0) 2)) (tn (a (15, i, 0) 0)) (tn (a (14, i, 0) 10)) (tn (a (14, i, 0) 3)) (tn (a (14, i, 0) 11)) (hC a - tn (a (14, i, 0) 11))
def HI (p : PP) (a : IF) (i t : Nat) : Prop := a (6, gW p i, 0) 7 = 0 ∨ (a (14, i, 0) 11 = nI (tn (a (14, i, 0) 11)) ∧ tn (a (14, i, 0) 11) ≤ hC a ∧ tn (a (14, i, 0) 10) ≤ t ∧ (∀ k, tn (a (14, i, 0) 11) ≤ k → k < hC a → tn (a (14, i, 0) 10) ≤ hTk a k) ∧ FIN (tn (a (15, i, 0) 0)) (tn (a (14, i, 0) 10)) (tn (a (14, i, 0) 3)) t (hR_ a i) (tn (a (14, i, 0) 8)) (tn (a (14, i, 0) 9)))
