theorem OQ.ok {p : PP} {a : IF} (h : OQ p a) : OK p := by
  obtain ⟨pos, -, o2, -⟩ := h
  exact fun t ht => (o2 t ht).1