/-! The small calls. -/
section
variable {N : Nat} {p : PP} {I : IF} {J : JF} {R : Int32 → Int32 → PH → Prop}
/-- one state out of the class's and the model's halves -/
theorem LI.join {M : Nat} {p : PP} {I' b : IF} {t : Nat} (h1 : IV p I' b t) (hca : CA I' b) (h2 : HG I' t) (h3 : ∀ i, i < gT p → HI p I' i t) (h4 : hC I' ≤ M) : LI M p b :=
  ⟨t, h1.cg hca (h1.2.1.ca hca) (fun _ => rfl), h2.ca hca, fun i hi => (h3 i hi).ca hca, by rw [hC_cg (fun j => hca _ j (show 4 < 20 by decide))]; exact h4⟩
end
