/-! What the law's own rows say, told by ghost rows (the names 20 and 21, that no heap holds). -/
def tkN (b : IF) (i : Nat) : Nat := tn (b (21, 16, 0) i) + 2 * tn (b (21, 17, 0) i) + 32 * tn (b (21, 19, 0) i) + 1024 * tn (b (21, 20, 0) i) + 8192 * tn (b (21, 21, 0) i) + 16384 * tn (b (21, 23, 0) i) + 32768 * tn (b (21, 22, 0) i)
/-- an item -/
def EncI (b I : IF) (i : Nat) : Prop :=
  (b (21, 21, 0) i = nI (tn (b (21, 21, 0) i)) ∧ tn (b (21, 21, 0) i) ≤ 1) ∧ I (23, 2, 0) i = nI (tkN b i) ∧ I (23, 3, 0) i = b (21, 18, 0) i ∧ I (23, 4, 0) i = b (21, 25, 0) i ∧ I (23, 5, 0) i = b (21, 26, 0) i ∧ I (23, 6, 0) i = b (21, 27, 0) i ∧ I (23, 7, 0) i = b (21, 24, 0) i ∧ tn (b (21, 27, 0) i) ≤ 4 ∧ ∀ k, k < tn (b (21, 27, 0) i) → b (21, 28, 0) (4 * i + k) = nI (tn (b (21, 28, 0) (4 * i + k))) ∧ tn (b (21, 28, 0) (4 * i + k)) ≤ 1000 ∧ I (23, 8, 0) (4 * i + k) = nI (2 * tn (b (21, 28, 0) (4 * i + k)) + tn (b (21, 29, 0) (4 * i + k)))
/-- what a message tells at a place -/
def EncC (b I : IF) (c q : Nat) : Prop := ∃ i v f, b (21, 33, 0) (10 * c + q) = nI i ∧ i < 10 ∧ b (21, 32, 0) (10 * c + q) = nI v ∧ v ≤ 1000 ∧ b (21, 34, 0) (10 * c + q) = nI f ∧ f ≤ 1 ∧ I (23, 10, 0) (6 * c + q) = nI (i + 16 * (2 * v + f))
/-- a message -/
def EncM (b I : IF) (c : Nat) : Prop := (b (21, 30, 0) c = 0 ∧ I (23, 9, 0) c = 0) ∨ ∃ x n, b (21, 30, 0) c = nI x ∧ 1 ≤ x ∧ x < 8192 ∧ b (21, 31, 0) c = nI n ∧ n ≤ 6 ∧ I (23, 9, 0) c = nI (x + 8192 * n) ∧ ∀ q, q < n → EncC b I c q
def Enc (p : PP) (b I : IF) : Prop :=
  (∀ k, k < 3 → I (23, 0, 0) k = b (21, 2, 0) k) ∧ (∀ s j, s < 2 → j < 11 → I (23, 1, 0) (11 * s + j) = b (21, 4 + j, 0) s) ∧ (∀ i, i < gT p → EncI b I i) ∧ (∀ c, c < 10 → EncM b I c) ∧ I (23, 11, 0) 0 = b (20, 0, 0) 1 ∧ I (23, 11, 0) 1 = b (20, 0, 0) 3 ∧ I (23, 11, 0) 2 = b (20, 0, 0) 15 ∧ I (23, 11, 0) 3 = b (20, 0, 0) 35
theorem EncI.cg {b b' I I' : IF} {i : Nat} (h1 : ∀ k, 16 ≤ k → k ≤ 27 → b' (21, k, 0) i = b (21, k, 0) i) (h2 : ∀ k q, k = 28 ∨ k = 29 → q < 4 → b' (21, k, 0) (4 * i + q) = b (21, k, 0) (4 * i + q)) (h3 : ∀ k, 2 ≤ k → k ≤ 7 → I' (23, k, 0) i = I (23, k, 0) i) (h4 : ∀ q, q < 4 → I' (23, 8, 0) (4 * i + q) = I (23, 8, 0) (4 * i + q)) (h : EncI b I i) : EncI b' I' i := by
  obtain ⟨g1, g2, g3, g4, g5, g6, g7, g8, g9⟩ := h
  have e := fun k a c => h1 k a c
  unfold EncI tkN
  rw [e 16 (by decide) (by decide), e 17 (by decide) (by decide), e 18 (by decide) (by decide), e 19 (by decide) (by decide), e 20 (by decide) (by decide), e 21 (by decide) (by decide), e 22 (by decide) (by decide), e 23 (by decide) (by decide), e 24 (by decide) (by decide), e 25 (by decide) (by decide), e 26 (by decide) (by decide), e 27 (by decide) (by decide), h3 2 (by decide) (by decide), h3 3 (by decide) (by decide), h3 4 (by decide) (by decide), h3 5 (by decide) (by decide), h3 6 (by decide) (by decide), h3 7 (by decide) (by decide)]
  refine ⟨g1, g2, g3, g4, g5, g6, g7, g8, fun k hk => ?_⟩
  rw [h2 28 k (Or.inl rfl) (by omega), h2 29 k (Or.inr rfl) (by omega), h4 k (by omega)]
  exact g9 k hk
theorem EncM.cg {b b' I I' : IF} {c : Nat} (h1 : ∀ k, k = 30 ∨ k = 31 → b' (21, k, 0) c = b (21, k, 0) c) (h2 : ∀ k q, 32 ≤ k → k ≤ 34 → q < 6 → b' (21, k, 0) (10 * c + q) = b (21, k, 0) (10 * c + q)) (h3 : I' (23, 9, 0) c = I (23, 9, 0) c) (h4 : ∀ q, q < 6 → I' (23, 10, 0) (6 * c + q) = I (23, 10, 0) (6 * c + q)) (h : EncM b I c) : EncM b' I' c := by
  unfold EncM
  rw [h1 30 (Or.inl rfl), h1 31 (Or.inr rfl), h3]
  rcases h with h | ⟨x, n, g1, g2, g3, g4, g5, g6, g7⟩
  · exact Or.inl h
  · refine Or.inr ⟨x, n, g1, g2, g3, g4, g5, g6, fun q hq => ?_⟩
    obtain ⟨i, v, f, w1, w2, w3, w4, w5, w6, w7⟩ := g7 q hq
    exact ⟨i, v, f, by rw [h2 33 q (by decide) (by decide) (by omega)]; exact w1, w2, by rw [h2 32 q (by decide) (by decide) (by omega)]; exact w3, w4, by rw [h2 34 q (by decide) (by decide) (by omega)]; exact w5, w6, by rw [h4 q (by omega)]; exact w7⟩
theorem n23 {k k' : Nat} (h : k ≠ k') : ((23, k, 0) : Nm) ≠ (23, k', 0) := nm_ne (Or.inr h)
/-- only the law's rows count -/
theorem Enc.law {p : PP} {b I I' : IF} (h : Enc p b I) (g : ∀ n j, n.1 = 23 → I' n j = I n j) : Enc p b I' := by
  have e : ∀ k j, I' (23, k, 0) j = I (23, k, 0) j := fun k j => g _ j rfl
  obtain ⟨h1, h2, h3, h4, h5, h6, h7, h8⟩ := h
  refine ⟨fun k hk => by rw [e]; exact h1 k hk, fun s j hs hj => by rw [e]; exact h2 s j hs hj, fun i hi => (h3 i hi).cg (fun _ _ _ => rfl) (fun _ _ _ _ => rfl) (fun k _ _ => e k _) (fun q _ => e 8 _), fun c hc => (h4 c hc).cg (fun _ _ => rfl) (fun _ _ _ _ _ => rfl) (e 9 _) (fun q _ => e 10 _), by rw [e]; exact h5, by rw [e]; exact h6, by rw [e]; exact h7, by rw [e]; exact h8⟩
/-- and of the ghost's, the rows alone -/
theorem Enc.gh {p p' : PP} {b b' I : IF} (h : Enc p b I) (hp : gT p' = gT p) (g : ∀ n j, 20 ≤ n.1 → ¬ (n = (20, 0, 0) ∧ j = 0) → b' n j = b n j) : Enc p' b' I := by
  have e : ∀ k j, b' (21, k, 0) j = b (21, k, 0) j := fun k j => g _ j (show 20 ≤ 21 by decide) (by simp)
  have e0 : ∀ j, j ≠ 0 → b' (20, 0, 0) j = b (20, 0, 0) j := fun j hj => g _ j (show 20 ≤ 20 by decide) (fun q => hj q.2)
  obtain ⟨h1, h2, h3, h4, h5, h6, h7, h8⟩ := h
  refine ⟨fun k hk => by rw [e]; exact h1 k hk, fun s j hs hj => by rw [e]; exact h2 s j hs hj, fun i hi => (h3 i (by omega)).cg (fun k _ _ => e k _) (fun k q _ _ => e k _) (fun _ _ _ => rfl) (fun _ _ => rfl), fun c hc => (h4 c hc).cg (fun k _ => e k _) (fun k q _ _ _ => e k _) rfl (fun _ _ => rfl), by rw [e0 1 (by decide)]; exact h5, by rw [e0 3 (by decide)]; exact h6, by rw [e0 15 (by decide)]; exact h7, by rw [e0 35 (by decide)]; exact h8⟩
/-- a subscription's number set on both sides -/
theorem Enc.sub {p : PP} {b I : IF} (h : Enc p b I) {s j : Nat} (hs : s < 2) (hj : j < 11) (v : Int32) : Enc p (up b (21, 4 + j, 0) s v) (up I (23, 1, 0) (11 * s + j) v) := by
  have eb : ∀ k i, k < 4 ∨ 14 < k → up b (21, 4 + j, 0) s v (21, k, 0) i = b (21, k, 0) i := fun k i g => up_ne (fun q => by have := q.1; simp only [Prod.mk.injEq] at this; omega)
  have eI : ∀ k i, k ≠ 1 → up I (23, 1, 0) (11 * s + j) v (23, k, 0) i = I (23, k, 0) i := fun k i g => up_ne (fun q => n23 g q.1)
  have e0 : ∀ i, up b (21, 4 + j, 0) s v (20, 0, 0) i = b (20, 0, 0) i := fun i => up_ne (by simp)
  obtain ⟨h1, h2, h3, h4, h5, h6, h7, h8⟩ := h
  refine ⟨fun k hk => by rw [eI 0 k (by decide), eb 2 k (by omega)]; exact h1 k hk, fun u k hu hk => ?_, fun i hi => (h3 i hi).cg (fun k _ _ => eb k _ (by omega)) (fun k q _ _ => eb k _ (by omega)) (fun k _ _ => eI k _ (by omega)) (fun q _ => eI 8 _ (by decide)), fun c hc => (h4 c hc).cg (fun k _ => eb k _ (by omega)) (fun k q _ _ _ => eb k _ (by omega)) (eI 9 _ (by decide)) (fun q _ => eI 10 _ (by decide)), by rw [eI 11 _ (by decide), e0]; exact h5, by rw [eI 11 _ (by decide), e0]; exact h6, by rw [eI 11 _ (by decide), e0]; exact h7, by rw [eI 11 _ (by decide), e0]; exact h8⟩
  by_cases g : u = s ∧ k = j
  · obtain ⟨rfl, rfl⟩ := g
    rw [up_same, up_same]
  · rw [up_ne (fun q => by have := q.2; omega), up_ne (fun q => by have := q.1; simp only [Prod.mk.injEq] at this; have := q.2; omega)]
    exact h2 u k hu hk
/-- one of the four numbers -/
theorem Enc.num {p : PP} {b I : IF} (h : Enc p b I) {k f : Nat} (hk : (k = 0 ∧ f = 1) ∨ (k = 1 ∧ f = 3) ∨ (k = 2 ∧ f = 15) ∨ (k = 3 ∧ f = 35)) (v : Int32) : Enc p (up b (20, 0, 0) f v) (up I (23, 11, 0) k v) := by
  have eb : ∀ k i, up b (20, 0, 0) f v (21, k, 0) i = b (21, k, 0) i := fun k i => up_ne (by simp)
  have eI : ∀ m i, m ≠ 11 → up I (23, 11, 0) k v (23, m, 0) i = I (23, m, 0) i := fun m i g => up_ne (fun q => n23 g q.1)
  obtain ⟨h1, h2, h3, h4, h5, h6, h7, h8⟩ := h
  refine ⟨fun k hk => by rw [eI 0 k (by decide), eb]; exact h1 k hk, fun u k hu hk => by rw [eI 1 _ (by decide), eb]; exact h2 u k hu hk, fun i hi => (h3 i hi).cg (fun k _ _ => eb k _) (fun k q _ _ => eb k _) (fun k _ _ => eI k _ (by omega)) (fun q _ => eI 8 _ (by decide)), fun c hc => (h4 c hc).cg (fun k _ => eb k _) (fun k q _ _ _ => eb k _) (eI 9 _ (by decide)) (fun q _ => eI 10 _ (by decide)), ?_⟩
  rcases hk with ⟨rfl, rfl⟩ | ⟨rfl, rfl⟩ | ⟨rfl, rfl⟩ | ⟨rfl, rfl⟩
  · rw [up_same, up_same, up_nj (by decide), up_nj (by decide), up_nj (by decide), up_nj (by decide), up_nj (by decide), up_nj (by decide)]; exact ⟨rfl, h6, h7, h8⟩
  · rw [up_nj (by decide), up_nj (by decide), up_same, up_same, up_nj (by decide), up_nj (by decide), up_nj (by decide), up_nj (by decide)]; exact ⟨h5, rfl, h7, h8⟩
  · rw [up_nj (by decide), up_nj (by decide), up_nj (by decide), up_nj (by decide), up_same, up_same, up_nj (by decide), up_nj (by decide)]; exact ⟨h5, h6, rfl, h8⟩
  · rw [up_nj (by decide), up_nj (by decide), up_nj (by decide), up_nj (by decide), up_nj (by decide), up_nj (by decide), up_same, up_same]; exact ⟨h5, h6, h7, rfl⟩
theorem Enc.node {p : PP} {b I : IF} (h : Enc p b I) {k : Nat} (hk : k < 3) (v : Int32) : Enc p (up b (21, 2, 0) k v) (up I (23, 0, 0) k v) := by
  have eb : ∀ m i, m ≠ 2 → up b (21, 2, 0) k v (21, m, 0) i = b (21, m, 0) i := fun m i g => up_ne (fun q => by have := q.1; simp only [Prod.mk.injEq] at this; omega)
  have eI : ∀ m i, m ≠ 0 → up I (23, 0, 0) k v (23, m, 0) i = I (23, m, 0) i := fun m i g => up_ne (fun q => n23 g q.1)
  have e0 : ∀ i, up b (21, 2, 0) k v (20, 0, 0) i = b (20, 0, 0) i := fun i => up_ne (by simp)
  obtain ⟨h1, h2, h3, h4, h5, h6, h7, h8⟩ := h
  refine ⟨fun m hm => ?_, fun u k hu hk => by rw [eI 1 _ (by decide), eb _ _ (by omega)]; exact h2 u k hu hk, fun i hi => (h3 i hi).cg (fun k _ _ => eb k _ (by omega)) (fun k q _ _ => eb k _ (by omega)) (fun k _ _ => eI k _ (by omega)) (fun q _ => eI 8 _ (by decide)), fun c hc => (h4 c hc).cg (fun k _ => eb k _ (by omega)) (fun k q _ _ _ => eb k _ (by omega)) (eI 9 _ (by decide)) (fun q _ => eI 10 _ (by decide)), by rw [eI 11 _ (by decide), e0]; exact h5, by rw [eI 11 _ (by decide), e0]; exact h6, by rw [eI 11 _ (by decide), e0]; exact h7, by rw [eI 11 _ (by decide), e0]; exact h8⟩
  by_cases g : m = k
  · subst g; rw [up_same, up_same]
  · rw [up_nj g, up_nj g]; exact h1 m hm
/-- one item anew: the others and all else stand -/
theorem Enc.item {p p' : PP} {b b' I I' : IF} {i : Nat} (h : Enc p b I) (hp : gT p' = gT p ∨ (gT p' = gT p + 1 ∧ i = gT p)) (hb : ∀ k j, k < 16 ∨ 29 < k → b' (21, k, 0) j = b (21, k, 0) j) (hb1 : ∀ k j, 16 ≤ k → k ≤ 27 → j ≠ i → b' (21, k, 0) j = b (21, k, 0) j) (hb2 : ∀ k j, k = 28 ∨ k = 29 → ¬ (4 * i ≤ j ∧ j < 4 * i + 4) → b' (21, k, 0) j = b (21, k, 0) j) (hI : ∀ k j, k < 2 ∨ k = 9 ∨ k = 10 → I' (23, k, 0) j = I (23, k, 0) j) (hI1 : ∀ k j, 2 ≤ k → k ≤ 7 → j ≠ i → I' (23, k, 0) j = I (23, k, 0) j) (hI2 : ∀ j, ¬ (4 * i ≤ j ∧ j < 4 * i + 4) → I' (23, 8, 0) j = I (23, 8, 0) j) (hn : I' (23, 11, 0) 0 = b' (20, 0, 0) 1 ∧ I' (23, 11, 0) 1 = b' (20, 0, 0) 3 ∧ I' (23, 11, 0) 2 = b' (20, 0, 0) 15 ∧ I' (23, 11, 0) 3 = b' (20, 0, 0) 35) (hi : EncI b' I' i) : Enc p' b' I' := by
  obtain ⟨h1, h2, h3, h4, -⟩ := h
  refine ⟨fun k hk => by rw [hI 0 _ (by omega), hb 2 _ (by omega)]; exact h1 k hk, fun u k hu hk => by rw [hI 1 _ (by omega), hb _ _ (by omega)]; exact h2 u k hu hk, fun k hk => ?_, fun c hc => (h4 c hc).cg (fun k _ => hb k _ (by omega)) (fun k q _ _ _ => hb k _ (by omega)) (hI 9 _ (by omega)) (fun q _ => hI 10 _ (by omega)), hn⟩
  by_cases g : k = i
  · subst g; exact hi
  · exact (h3 k (by omega)).cg (fun m a c => hb1 m _ a c g) (fun m q a c => hb2 m _ a (by omega)) (fun m a c => hI1 m _ a c g) (fun q hq => hI2 _ (by omega))
