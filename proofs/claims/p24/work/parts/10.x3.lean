/-! Where ways meet: what is owed behind the meeting, and what before it. -/
def jV (R : Int32 → Prop) (F : (Int32 → Prop) → Prop) : Prop := F R
def jP (R : Prop) (F : Prop → Prop) : Prop := F R
def jS (R : PH → Prop) (F : (PH → Prop) → Prop) : Prop := F R
def jW (R : Int32 → PH → Prop) (F : (Int32 → PH → Prop) → Prop) : Prop := F R
section
variable {G : xG} {X : xX} {Q : State → Prop} {nL : Nat} {ρ : Nm → Nat} {σ : PH} {k n pc pcJ : Nat} {L : List (Nat × Value)} {st stJ : List Value}
theorem xJ.jV {R : Int32 → Prop} {F : (Int32 → Prop) → Prop} (h : jV R F) (kk : ∀ x, R x → xJ G X Q nL ρ σ k n pcJ L (.int x :: stJ)) (g : ∀ K : Int32 → Prop, (∀ x, K x → xJ G X Q nL ρ σ k n pcJ L (.int x :: stJ)) → F K → xJ G X Q nL ρ σ k n pc L st) : xJ G X Q nL ρ σ k n pc L st := g R kk h
theorem xJ.jP {R : Prop} {F : Prop → Prop} (h : jP R F) (kk : R → xJ G X Q nL ρ σ k n pcJ L stJ) (g : ∀ K : Prop, (K → xJ G X Q nL ρ σ k n pcJ L stJ) → F K → xJ G X Q nL ρ σ k n pc L st) : xJ G X Q nL ρ σ k n pc L st := g R kk h
theorem xJ.jS {R : PH → Prop} {F : (PH → Prop) → Prop} (h : jS R F) (kk : ∀ σ', R σ' → xJ G X Q nL ρ σ' k n pcJ L stJ) (g : ∀ K : PH → Prop, (∀ σ', K σ' → xJ G X Q nL ρ σ' k n pcJ L stJ) → F K → xJ G X Q nL ρ σ k n pc L st) : xJ G X Q nL ρ σ k n pc L st := g R kk h
theorem xJ.jW {R : Int32 → PH → Prop} {F : (Int32 → PH → Prop) → Prop} (h : jW R F) (kk : ∀ x σ', R x σ' → xJ G X Q nL ρ σ' k n pcJ L (.int x :: stJ)) (g : ∀ K : Int32 → PH → Prop, (∀ x σ', K x σ' → xJ G X Q nL ρ σ' k n pcJ L (.int x :: stJ)) → F K → xJ G X Q nL ρ σ k n pc L st) : xJ G X Q nL ρ σ k n pc L st := g R kk h
end
/-- a meeting: what is known there, and that each way brings it -/
theorem jV_i {R : Int32 → Prop} {F : (Int32 → Prop) → Prop} (P : Int32 → Prop) (h1 : ∀ x, P x → R x) (h2 : ∀ K : Int32 → Prop, (∀ x, P x → K x) → F K) : jV R F := h2 R h1
theorem jP_i {R : Prop} {F : Prop → Prop} (P : Prop) (h1 : P → R) (h2 : ∀ K : Prop, (P → K) → F K) : jP R F := h2 R h1
theorem jS_i {R : PH → Prop} {F : (PH → Prop) → Prop} (P : PH → Prop) (h1 : ∀ σ, P σ → R σ) (h2 : ∀ K : PH → Prop, (∀ σ, P σ → K σ) → F K) : jS R F := h2 R h1
theorem jW_i {R : Int32 → PH → Prop} {F : (Int32 → PH → Prop) → Prop} (P : Int32 → PH → Prop) (h1 : ∀ x σ, P x σ → R x σ) (h2 : ∀ K : Int32 → PH → Prop, (∀ x σ, P x σ → K x σ) → F K) : jW R F := h2 R h1
