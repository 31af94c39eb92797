/-! THE PURE LAYER. Names: role, number, number. Roles below 20 are the class's, 20 and 21 the model's, 22 the law's long cell.
0 the server, 1 its nodes, 2 its subscriptions and their turn, 3 its items, 4 its history, 5 the history's rows, 6 a subscription, 7 its timer, 8 its items, 9 its messages, 10 a message, 11 to 13 its rows, 14 an item, 15 its timer, 16 its queue, 17 and 18 the queue's rows; 20 the model, 21 its rows by the field's place. -/
abbrev IF : Type := Nm → Nat → Int32
abbrev JF : Type := Nm → Nat → Int64
/-- how many subscriptions, items, messages made of each subscription; the turn; the items' owners; a subscription's messages in their order -/
abbrev PP : Type := Nat × Nat × (Nat → Nat) × (Nat → Nat) × (Nat → Nat) × (Nat → Nat → Nat)
def gS (p : PP) : Nat := p.1
def gT (p : PP) : Nat := p.2.1
def gM (p : PP) : Nat → Nat := p.2.2.1
def gO (p : PP) : Nat → Nat := p.2.2.2.1
def gW (p : PP) : Nat → Nat := p.2.2.2.2.1
def gP (p : PP) : Nat → Nat → Nat := p.2.2.2.2.2
def up (I : IF) (n : Nm) (j : Nat) (v : Int32) : IF := fun a b => if a = n ∧ b = j then v else I a b
def upJ (I : JF) (n : Nm) (j : Nat) (v : Int64) : JF := fun a b => if a = n ∧ b = j then v else I a b
def cl (I : IF) (n : Nm) : IF := fun a b => if a = n then 0 else I a b
def clJ (I : JF) (n : Nm) : JF := fun a b => if a = n then 0 else I a b
/-- the law's own rows: nodes, subscriptions, items' facts, added, last, count, waiting, triggers, queues, messages, their contents, the four numbers -/
def lwL (k : Nat) : Nat := if k = 0 then 3 else if k = 1 then 22 else if k = 8 then 40 else if k = 10 then 60 else if k = 11 then 4 else if k < 12 then 10 else 0
/-- how many of the first n items are s's -/
def cnt (own : Nat → Nat) (s : Nat) : Nat → Nat
  | 0 => 0
  | n + 1 => if own n = s then cnt own s n + 1 else cnt own s n
/-- which of the first n items is s's j-th -/
def itf (own : Nat → Nat) (s : Nat) : Nat → Nat → Option Nat
  | 0, _ => none
  | n + 1, j => if own n = s ∧ j = cnt own s n then some n else itf own s n j
def nm3 (r k j : Nat) : Nm := (r, k, j)
def Kf (p : PP) (n : Nm) : Nat := match n.1 with
  | 0 => if n.2.1 = 0 ∧ n.2.2 = 0 then 7 else 0
  | 1 => if n.2.1 = 0 ∧ n.2.2 = 0 then 9 else 0
  | 2 => if n.2.1 < 2 ∧ n.2.2 = 0 then 13 else 0
  | 3 => if n.2.1 = 0 ∧ n.2.2 = 0 then 11 else 0
  | 4 => if n.2.1 = 0 ∧ n.2.2 = 0 then 1 else 0
  | 5 => if n.2.1 < 3 ∧ n.2.2 = 0 then 9 else 0
  | 6 => if n.2.1 < gS p ∧ n.2.2 = 0 then 5 else 0
  | 7 => if n.2.1 < gS p ∧ n.2.2 = 0 then 6 else 0
  | 8 => if n.2.1 < gS p ∧ n.2.2 = 0 then 11 else 0
  | 9 => if n.2.1 < gS p ∧ n.2.2 = 0 then 12 else 0
  | 10 => if n.2.1 < gS p ∧ n.2.2 < gM p n.2.1 then 3 else 0
  | 11 => if n.2.1 < gS p ∧ n.2.2 < gM p n.2.1 then 9 else 0
  | 12 => if n.2.1 < gS p ∧ n.2.2 < gM p n.2.1 then 9 else 0
  | 13 => if n.2.1 < gS p ∧ n.2.2 < gM p n.2.1 then 10 else 0
  | 14 => if n.2.1 < gT p ∧ n.2.2 = 0 then 2 else 0
  | 15 => if n.2.1 < gT p ∧ n.2.2 = 0 then 6 else 0
  | 16 => if n.2.1 < gT p ∧ n.2.2 = 0 then 4 else 0
  | 17 => if n.2.1 < gT p ∧ n.2.2 = 0 then 9 else 0
  | 18 => if n.2.1 < gT p ∧ n.2.2 = 0 then 10 else 0
  | 23 => if n.2.1 < 12 ∧ n.2.2 = 0 then 9 else 0
  | _ => 0
def Lf (p : PP) (n : Nm) : Nat := match n.1 with
  | 1 => if n.2.1 = 0 ∧ n.2.2 = 0 then 10 else 0
  | 2 => if n.2.1 < 2 ∧ n.2.2 = 0 then 4 else 0
  | 3 => if n.2.1 = 0 ∧ n.2.2 = 0 then 16 else 0
  | 5 => if n.2.1 < 3 ∧ n.2.2 = 0 then 512 else 0
  | 8 => if n.2.1 < gS p ∧ n.2.2 = 0 then 16 else 0
  | 9 => if n.2.1 < gS p ∧ n.2.2 = 0 then 5 else 0
  | 11 => if n.2.1 < gS p ∧ n.2.2 < gM p n.2.1 then 10 else 0
  | 12 => if n.2.1 < gS p ∧ n.2.2 < gM p n.2.1 then 10 else 0
  | 13 => if n.2.1 < gS p ∧ n.2.2 < gM p n.2.1 then 10 else 0
  | 17 => if n.2.1 < gT p ∧ n.2.2 = 0 then 4 else 0
  | 18 => if n.2.1 < gT p ∧ n.2.2 = 0 then 4 else 0
  | 23 => if n.2.2 = 0 then lwL n.2.1 else 0
  | _ => 0
def Rf (p : PP) (n : Nm) (j : Nat) : Option Nm := match n.1 with
  | 0 => if n.2.1 = 0 ∧ n.2.2 = 0 then (if j = 0 then some (1, 0, 0) else if j = 1 then some (2, 0, 0) else if j = 2 then some (2, 1, 0) else if j = 3 then some (3, 0, 0) else if j = 4 then some (4, 0, 0) else none) else none
  | 2 => if n.2.2 = 0 ∧ j < gS p then (if n.2.1 = 0 then some (6, j, 0) else if n.2.1 = 1 then some (6, gO p j, 0) else none) else none
  | 3 => if n.2.1 = 0 ∧ n.2.2 = 0 ∧ j < gT p then some (14, j, 0) else none
  | 4 => if n.2.1 = 0 ∧ n.2.2 = 0 ∧ j < 3 then some (5, j, 0) else none
  | 6 => if n.2.1 < gS p ∧ n.2.2 = 0 then (if j = 0 then some (7, n.2.1, 0) else if j = 5 then some (8, n.2.1, 0) else if j = 6 then some (9, n.2.1, 0) else none) else none
  | 8 => if n.2.1 < gS p ∧ n.2.2 = 0 then (itf (gW p) n.2.1 (gT p) j).map (fun i => (14, i, 0)) else none
  | 9 => if n.2.1 < gS p ∧ n.2.2 = 0 ∧ j < gM p n.2.1 then some (10, n.2.1, gP p n.2.1 j) else none
  | 10 => if n.2.1 < gS p ∧ n.2.2 < gM p n.2.1 then (if j = 0 then some (11, n.2) else if j = 1 then some (12, n.2) else if j = 2 then some (13, n.2) else none) else none
  | 14 => if n.2.1 < gT p ∧ n.2.2 = 0 then (if j = 1 then some (6, gW p n.2.1, 0) else if j = 4 then some (15, n.2.1, 0) else if j = 5 then some (16, n.2.1, 0) else none) else none
  | 16 => if n.2.1 < gT p ∧ n.2.2 = 0 then (if j = 2 then some (17, n.2.1, 0) else if j = 3 then some (18, n.2.1, 0) else none) else none
  | _ => none
def S (p : PP) (I : IF) (J : JF) : PH := (Kf p, Lf p, I, Rf p, J)
theorem hK_S (p : PP) (I : IF) (J : JF) : hK (S p I J) = Kf p := rfl
theorem hL_S (p : PP) (I : IF) (J : JF) : hL (S p I J) = Lf p := rfl
theorem hI_S (p : PP) (I : IF) (J : JF) : hI (S p I J) = I := rfl
theorem hR_S (p : PP) (I : IF) (J : JF) : hR (S p I J) = Rf p := rfl
theorem hJ_S (p : PP) (I : IF) (J : JF) : hJ (S p I J) = J := rfl
theorem sI_S (p : PP) (I : IF) (J : JF) (n : Nm) (j : Nat) (v : Int32) : sI (S p I J) n j v = S p (up I n j v) J := rfl
theorem sJ_S (p : PP) (I : IF) (J : JF) (n : Nm) (j : Nat) (v : Int64) : sJ (S p I J) n j v = S p I (upJ J n j v) := rfl
theorem S_of {p : PP} {σ : PH} (h1 : hK σ = Kf p) (h2 : hL σ = Lf p) (h3 : hR σ = Rf p) : σ = S p (hI σ) (hJ σ) := by
  obtain ⟨a, b, c, d, e⟩ := σ
  simp only [hK, hL, hR, S, hI, hJ] at *
  subst h1; subst h2; subst h3; rfl
section
variable {p : PP}
theorem kq0 : Kf p (0, 0, 0) = 7 := rfl
theorem kq1 : Kf p (1, 0, 0) = 9 := rfl
theorem kq2 : Kf p (2, 0, 0) = 13 := rfl
theorem kq2' : Kf p (2, 1, 0) = 13 := rfl
theorem kq3 : Kf p (3, 0, 0) = 11 := rfl
theorem kq4 : Kf p (4, 0, 0) = 1 := rfl
theorem kq5 {k : Nat} (h : k < 3) : Kf p (5, k, 0) = 9 := if_pos ⟨h, rfl⟩
theorem kq6 {s : Nat} (h : s < gS p) : Kf p (6, s, 0) = 5 := if_pos ⟨h, rfl⟩
theorem kq7 {s : Nat} (h : s < gS p) : Kf p (7, s, 0) = 6 := if_pos ⟨h, rfl⟩
theorem kq8 {s : Nat} (h : s < gS p) : Kf p (8, s, 0) = 11 := if_pos ⟨h, rfl⟩
theorem kq9 {s : Nat} (h : s < gS p) : Kf p (9, s, 0) = 12 := if_pos ⟨h, rfl⟩
theorem kq10 {s o : Nat} (h : s < gS p) (g : o < gM p s) : Kf p (10, s, o) = 3 := if_pos ⟨h, g⟩
theorem kq11 {s o : Nat} (h : s < gS p) (g : o < gM p s) : Kf p (11, s, o) = 9 := if_pos ⟨h, g⟩
theorem kq12 {s o : Nat} (h : s < gS p) (g : o < gM p s) : Kf p (12, s, o) = 9 := if_pos ⟨h, g⟩
theorem kq13 {s o : Nat} (h : s < gS p) (g : o < gM p s) : Kf p (13, s, o) = 10 := if_pos ⟨h, g⟩
theorem kq14 {i : Nat} (h : i < gT p) : Kf p (14, i, 0) = 2 := if_pos ⟨h, rfl⟩
theorem kq15 {i : Nat} (h : i < gT p) : Kf p (15, i, 0) = 6 := if_pos ⟨h, rfl⟩
theorem kq16 {i : Nat} (h : i < gT p) : Kf p (16, i, 0) = 4 := if_pos ⟨h, rfl⟩
theorem kq17 {i : Nat} (h : i < gT p) : Kf p (17, i, 0) = 9 := if_pos ⟨h, rfl⟩
theorem kq18 {i : Nat} (h : i < gT p) : Kf p (18, i, 0) = 10 := if_pos ⟨h, rfl⟩
theorem lq1 : Lf p (1, 0, 0) = 10 := rfl
theorem lq2 : Lf p (2, 0, 0) = 4 := rfl
theorem lq2' : Lf p (2, 1, 0) = 4 := rfl
theorem lq3 : Lf p (3, 0, 0) = 16 := rfl
theorem lq5 {k : Nat} (h : k < 3) : Lf p (5, k, 0) = 512 := if_pos ⟨h, rfl⟩
theorem lq8 {s : Nat} (h : s < gS p) : Lf p (8, s, 0) = 16 := if_pos ⟨h, rfl⟩
theorem lq9 {s : Nat} (h : s < gS p) : Lf p (9, s, 0) = 5 := if_pos ⟨h, rfl⟩
theorem lq11 {s o : Nat} (h : s < gS p) (g : o < gM p s) : Lf p (11, s, o) = 10 := if_pos ⟨h, g⟩
theorem lq12 {s o : Nat} (h : s < gS p) (g : o < gM p s) : Lf p (12, s, o) = 10 := if_pos ⟨h, g⟩
theorem lq13 {s o : Nat} (h : s < gS p) (g : o < gM p s) : Lf p (13, s, o) = 10 := if_pos ⟨h, g⟩
theorem lq17 {i : Nat} (h : i < gT p) : Lf p (17, i, 0) = 4 := if_pos ⟨h, rfl⟩
theorem lq18 {i : Nat} (h : i < gT p) : Lf p (18, i, 0) = 4 := if_pos ⟨h, rfl⟩
theorem rq00 : Rf p (0, 0, 0) 0 = some (1, 0, 0) := rfl
theorem rq01 : Rf p (0, 0, 0) 1 = some (2, 0, 0) := rfl
theorem rq02 : Rf p (0, 0, 0) 2 = some (2, 1, 0) := rfl
theorem rq03 : Rf p (0, 0, 0) 3 = some (3, 0, 0) := rfl
theorem rq04 : Rf p (0, 0, 0) 4 = some (4, 0, 0) := rfl
theorem rq20 {j : Nat} (h : j < gS p) : Rf p (2, 0, 0) j = some (6, j, 0) := if_pos ⟨rfl, h⟩
theorem rq20n {j : Nat} (h : ¬ j < gS p) : Rf p (2, 0, 0) j = none := if_neg (fun q => h q.2)
theorem rq21 {j : Nat} (h : j < gS p) : Rf p (2, 1, 0) j = some (6, gO p j, 0) := if_pos ⟨rfl, h⟩
theorem rq3 {j : Nat} (h : j < gT p) : Rf p (3, 0, 0) j = some (14, j, 0) := if_pos ⟨rfl, rfl, h⟩
theorem rq3n {j : Nat} (h : ¬ j < gT p) : Rf p (3, 0, 0) j = none := if_neg (fun q => h q.2.2)
theorem rq4 {j : Nat} (h : j < 3) : Rf p (4, 0, 0) j = some (5, j, 0) := if_pos ⟨rfl, rfl, h⟩
theorem rq60 {s : Nat} (h : s < gS p) : Rf p (6, s, 0) 0 = some (7, s, 0) := if_pos ⟨h, rfl⟩
theorem rq65 {s : Nat} (h : s < gS p) : Rf p (6, s, 0) 5 = some (8, s, 0) := if_pos ⟨h, rfl⟩
theorem rq66 {s : Nat} (h : s < gS p) : Rf p (6, s, 0) 6 = some (9, s, 0) := if_pos ⟨h, rfl⟩
theorem rq8 {s j : Nat} (h : s < gS p) : Rf p (8, s, 0) j = (itf (gW p) s (gT p) j).map (fun i => (14, i, 0)) := if_pos ⟨h, rfl⟩
theorem rq9 {s j : Nat} (h : s < gS p) (g : j < gM p s) : Rf p (9, s, 0) j = some (10, s, gP p s j) := if_pos ⟨h, rfl, g⟩
theorem rq9n {s j : Nat} (g : ¬ j < gM p s) : Rf p (9, s, 0) j = none := if_neg (fun q => g q.2.2)
theorem rq100 {s o : Nat} (h : s < gS p) (g : o < gM p s) : Rf p (10, s, o) 0 = some (11, s, o) := if_pos ⟨h, g⟩
theorem rq101 {s o : Nat} (h : s < gS p) (g : o < gM p s) : Rf p (10, s, o) 1 = some (12, s, o) := if_pos ⟨h, g⟩
theorem rq102 {s o : Nat} (h : s < gS p) (g : o < gM p s) : Rf p (10, s, o) 2 = some (13, s, o) := if_pos ⟨h, g⟩
theorem rq141 {i : Nat} (h : i < gT p) : Rf p (14, i, 0) 1 = some (6, gW p i, 0) := if_pos ⟨h, rfl⟩
theorem rq144 {i : Nat} (h : i < gT p) : Rf p (14, i, 0) 4 = some (15, i, 0) := if_pos ⟨h, rfl⟩
theorem rq145 {i : Nat} (h : i < gT p) : Rf p (14, i, 0) 5 = some (16, i, 0) := if_pos ⟨h, rfl⟩
theorem rq162 {i : Nat} (h : i < gT p) : Rf p (16, i, 0) 2 = some (17, i, 0) := if_pos ⟨h, rfl⟩
theorem rq163 {i : Nat} (h : i < gT p) : Rf p (16, i, 0) 3 = some (18, i, 0) := if_pos ⟨h, rfl⟩
end
theorem cnt_le (own : Nat → Nat) (s n : Nat) : cnt own s n ≤ n := by
  induction n with
  | zero => exact Nat.le_refl _
  | succ n ih => unfold cnt; split <;> omega
theorem cnt_mono (own : Nat → Nat) (s : Nat) {a b : Nat} (h : a ≤ b) : cnt own s a ≤ cnt own s b := by
  induction b with
  | zero => have : a = 0 := by omega
            subst this; exact Nat.le_refl _
  | succ b ih =>
    by_cases e : a = b + 1
    · subst e; exact Nat.le_refl _
    · have := ih (by omega)
      have g : cnt own s b ≤ cnt own s (b + 1) := by rw [cnt]; split <;> omega
      omega
theorem itf_at (own : Nat → Nat) (s : Nat) {i n : Nat} (h : i < n) (ho : own i = s) : itf own s n (cnt own s i) = some i := by
  induction n with
  | zero => omega
  | succ n ih =>
    by_cases e : i = n
    · subst e; rw [itf, if_pos ⟨ho, rfl⟩]
    · have hi : i < n := by omega
      have hlt : cnt own s i < cnt own s n := by
        have := cnt_mono own s (show i + 1 ≤ n by omega)
        rw [cnt, if_pos ho] at this; omega
      rw [itf, if_neg (fun q => by omega)]
      exact ih hi
theorem up_same (I : IF) (n : Nm) (j : Nat) (v : Int32) : up I n j v n j = v := if_pos ⟨rfl, rfl⟩
theorem up_ne {I : IF} {n a : Nm} {j b : Nat} {v : Int32} (h : ¬ (a = n ∧ b = j)) : up I n j v a b = I a b := if_neg h
theorem up_nj {I : IF} {n a : Nm} {j b : Nat} {v : Int32} (h : b ≠ j) : up I n j v a b = I a b := if_neg (fun q => h q.2)
theorem zb_cases {x : Int32} (h : zb x) : x = 0 ∨ x = 1 := h
theorem nI_mul (a b : Nat) : nI a * nI b = nI (a * b) := (Int32.ofNat_mul a b).symm
theorem nIx4 (a : Nat) : 4 * nI a = nI (4 * a) := (nI_mul 4 a)
theorem nIx5 (a : Nat) : 5 * nI a = nI (5 * a) := (nI_mul 5 a)
theorem nIx10 (a : Nat) : 10 * nI a = nI (10 * a) := (nI_mul 10 a)
theorem nI_sub1 {a : Nat} (h : 1 ≤ a) : nI a - 1 = nI (a - 1) := by
  obtain ⟨b, rfl⟩ : ∃ b, a = b + 1 := ⟨a - 1, by omega⟩
  rw [nI_pred]; rfl
theorem nI_sub {a b : Nat} (h : b ≤ a) : nI a - nI b = nI (a - b) := by
  obtain ⟨c, rfl⟩ : ∃ c, a = c + b := ⟨a - b, by omega⟩
  rw [← nI_add, Int32.add_sub_cancel, Nat.add_sub_cancel]
theorem nI_le0 {a : Nat} (h : a < 2 ^ 31) : nI a ≤ 0 ↔ a = 0 := by
  rw [show (0 : Int32) = nI 0 from rfl, nI_leI h (by decide)]; omega
theorem nI_e0 {a : Nat} (h : a < 2 ^ 31) : nI a = 0 ↔ a = 0 := by
  rw [show (0 : Int32) = nI 0 from rfl, nI_eq h (by decide)]
theorem nI_lt0 {a : Nat} (h : a < 2 ^ 31) : nI a < 0 ↔ False := by
  rw [show (0 : Int32) = nI 0 from rfl, nI_ltI h (by decide)]; simp
theorem nI_0lt {a : Nat} (h : a < 2 ^ 31) : 0 < nI a ↔ 0 < a := by
  rw [show (0 : Int32) = nI 0 from rfl, nI_ltI (by decide) h]
theorem nI_0le {a : Nat} (h : a < 2 ^ 31) : 0 ≤ nI a ↔ True := by
  rw [show (0 : Int32) = nI 0 from rfl, nI_leI (by decide) h]; simp
theorem vin_nI {n N : Nat} (hN : N < 2 ^ 31) (hn : n < 2 ^ 31) : vp_in (nI n) N ↔ n < N := by
  rw [vp_in_iff, nI_toInt hn]; omega
theorem vinL {σ : PH} {n : Nm} {i : Nat} (N : Nat) (e : hL σ n = N) (h : i < N) (hN : N < 2 ^ 31) : vp_in (nI i) (hL σ n) := by rw [e, vin_nI hN (by omega)]; exact h
