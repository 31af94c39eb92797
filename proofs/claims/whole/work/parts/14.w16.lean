/-! PlantServerModel.keptAt -/
theorem dX7_keptAt_0 : decode cX7_keptAt 0 = .ok (.iconst (-1), 1) := by decide +kernel
theorem dX7_keptAt_1 : decode cX7_keptAt 1 = .ok (.istore_n 3, 1) := by decide +kernel
theorem dX7_keptAt_2 : decode cX7_keptAt 2 = .ok (.iconst 5, 1) := by decide +kernel
theorem dX7_keptAt_3 : decode cX7_keptAt 3 = .ok (.iload_n 1, 1) := by decide +kernel
theorem dX7_keptAt_4 : decode cX7_keptAt 4 = .ok (.imul, 1) := by decide +kernel
theorem dX7_keptAt_5 : decode cX7_keptAt 5 = .ok (.istore 4, 2) := by decide +kernel
theorem dX7_keptAt_7 : decode cX7_keptAt 7 = .ok (.iload 4, 2) := by decide +kernel
theorem dX7_keptAt_9 : decode cX7_keptAt 9 = .ok (.iconst 5, 1) := by decide +kernel
theorem dX7_keptAt_10 : decode cX7_keptAt 10 = .ok (.iload_n 1, 1) := by decide +kernel
theorem dX7_keptAt_11 : decode cX7_keptAt 11 = .ok (.imul, 1) := by decide +kernel
theorem dX7_keptAt_12 : decode cX7_keptAt 12 = .ok (.iconst 5, 1) := by decide +kernel
theorem dX7_keptAt_13 : decode cX7_keptAt 13 = .ok (.iadd, 1) := by decide +kernel
theorem dX7_keptAt_14 : decode cX7_keptAt 14 = .ok (.if_icmp .ge 31, 3) := by decide +kernel
theorem dX7_keptAt_17 : decode cX7_keptAt 17 = .ok (.iload_n 2, 1) := by decide +kernel
theorem dX7_keptAt_18 : decode cX7_keptAt 18 = .ok (.ifCond .le 19, 3) := by decide +kernel
theorem dX7_keptAt_21 : decode cX7_keptAt 21 = .ok (.aload_n 0, 1) := by decide +kernel
theorem dX7_keptAt_22 : decode cX7_keptAt 22 = .ok (.getfield 89, 3) := by decide +kernel
theorem dX7_keptAt_25 : decode cX7_keptAt 25 = .ok (.iload 4, 2) := by decide +kernel
theorem dX7_keptAt_27 : decode cX7_keptAt 27 = .ok (.iaload, 1) := by decide +kernel
theorem dX7_keptAt_28 : decode cX7_keptAt 28 = .ok (.iload_n 2, 1) := by decide +kernel
theorem dX7_keptAt_29 : decode cX7_keptAt 29 = .ok (.if_icmp .ne 8, 3) := by decide +kernel
theorem dX7_keptAt_32 : decode cX7_keptAt 32 = .ok (.iload 4, 2) := by decide +kernel
theorem dX7_keptAt_34 : decode cX7_keptAt 34 = .ok (.goto 4, 3) := by decide +kernel
theorem dX7_keptAt_37 : decode cX7_keptAt 37 = .ok (.iload_n 3, 1) := by decide +kernel
theorem dX7_keptAt_38 : decode cX7_keptAt 38 = .ok (.istore_n 3, 1) := by decide +kernel
theorem dX7_keptAt_39 : decode cX7_keptAt 39 = .ok (.iinc 4 1, 3) := by decide +kernel
theorem dX7_keptAt_42 : decode cX7_keptAt 42 = .ok (.goto (-35), 3) := by decide +kernel
theorem dX7_keptAt_45 : decode cX7_keptAt 45 = .ok (.iload_n 3, 1) := by decide +kernel
theorem dX7_keptAt_46 : decode cX7_keptAt 46 = .ok (.ireturn, 1) := by decide +kernel
abbrev rm7_keptAt : Room := { frames := 0, cells := 0, slots := 0, locals := 0 }
theorem hd7_keptAt : yX7_keptAt.cls ≠ "java/lang/invoke/MethodHandle" ∧ yX7_keptAt.cls ≠ "java/lang/invoke/VarHandle" ∧ (parseMethodDescriptor yX7_keptAt.desc).map (fun d => d.parameters.length) = some 2 := by decide +kernel
set_option maxHeartbeats 4000000 in
set_option maxRecDepth 20000 in
theorem ml7_keptAt_7 {G : xG} {X : xX} (hC : xC G X "PlantServerModel" cX7_keptAt 5 rm7_keptAt) (hr : xRt X (some .int)) (htab : xTab X []) (this : Nm) (p1 : Int32) (p2 : Int32) {ρ : Nm → Nat} (h0 : xR0 X ρ) (k n : Nat) (hk1 : k ≤ 0) (hk2 : n ≤ 0) (K : Int32 → Int32 → PH → Prop) (Q : Int32 → PH → Prop) (Xp : String → PH → Prop) : ∀ (f7 : Nat) (x7_3 : Int32) (x7_4 : Int32) (τ7 : PH), l7_keptAt_7 this p1 p2 K Q f7 x7_3 x7_4 τ7 → (∀ (x7_3 : Int32) (x7_4 : Int32) (τ7 : PH), K x7_3 x7_4 τ7 → xJ G X (xT X (eI ρ Q) Xp G rm7_keptAt) 5 ρ τ7 k n 45 [(0, .ref (ρ this)), (1, .int p1), (2, .int p2), (3, .int x7_3), (4, .int x7_4)] []) → xJ G X (xT X (eI ρ Q) Xp G rm7_keptAt) 5 ρ τ7 k n 7 [(0, .ref (ρ this)), (1, .int p1), (2, .int p2), (3, .int x7_3), (4, .int x7_4)] [] := by
  intro f7
  induction f7 with
  | zero => intro x7_3 x7_4 τ7 h hKK; unfold l7_keptAt_7 at h; exact h.elim
  | succ f7 ih =>
    intro x7_3 x7_4 τ7 h hKK
    unfold l7_keptAt_7 at h
    refine x_iload hC 4 rfl dX7_keptAt_7 ?_
    refine x_iconst (v := 5) hC dX7_keptAt_9 (by decide) ?_
    refine x_iload_n hC 1 rfl dX7_keptAt_10 ?_
    refine x_imul hC dX7_keptAt_11 ?_
    refine x_iconst (v := 5) hC dX7_keptAt_12 (by decide) ?_
    refine x_iadd hC dX7_keptAt_13 ?_
    refine x_icmp_ge (tgt := 45) hC dX7_keptAt_14 (by decide) (fun c1 => ?_) (fun c1 => ?_)
    · have h := h.1 c1
      exact hKK _ _ _ h
    · have h := h.2 c1
      refine x_iload_n hC 2 rfl dX7_keptAt_17 ?_
      refine x_if_le (tgt := 37) hC dX7_keptAt_18 (by decide) (fun c2 => ?_) (fun c2 => ?_)
      · have h := h.1 c2
        refine x_iload_n hC 3 rfl dX7_keptAt_37 ?_
        refine x_istore_n (L' := [(3, .int x7_3), (0, .ref (ρ this)), (1, .int p1), (2, .int p2), (4, .int x7_4)]) hC dX7_keptAt_38 (by decide) (by first | rfl | simp (decide := true) [rv_cat, cat_ref, cat_int]) ?_
        refine x_iinc (v' := x7_4 + 1) (L' := [(4, .int (x7_4 + 1)), (3, .int x7_3), (0, .ref (ρ this)), (1, .int p1), (2, .int p2)]) hC 4 rfl dX7_keptAt_39 rfl (by decide) (by first | rfl | simp (decide := true) [rv_cat, cat_ref, cat_int]) ?_
        refine x_goto (tgt := 7) hC dX7_keptAt_42 (by decide) ?_
        refine xJ.sub (L' := [(0, .ref (ρ this)), (1, .int p1), (2, .int p2), (3, .int x7_3), (4, .int (x7_4 + 1))]) [2, 3, 4, 1, 0] rfl ?_
        exact ih _ _ _ h hKK
      · have h := h.2 c2
        refine x_aload_n hC 0 rfl dX7_keptAt_21 ?_
        obtain ⟨k1, h⟩ := h
        refine x_getR (n0 := this) hC (ci := 7) (T := TX7) (N := 36) (C := RX7) 30 k1 rfl rfl (by decide) rfl q719 dX7_keptAt_22 ?_
        refine x_iload hC 4 rfl dX7_keptAt_25 ?_
        obtain ⟨m1, hm1, h⟩ := h
        rw [show rv ρ (hR τ7 this 30) = Value.ref (ρ m1) from by rw [hm1]; rfl]
        obtain ⟨k2, h⟩ := h
        obtain ⟨v1, h⟩ := h
        refine x_iald (a := m1) hC k2 v1 dX7_keptAt_27 ?_
        refine x_iload_n hC 2 rfl dX7_keptAt_28 ?_
        refine x_icmp_ne (tgt := 37) hC dX7_keptAt_29 (by decide) (fun c3 => ?_) (fun c3 => ?_)
        · have h := h.1 c3
          refine x_iload_n hC 3 rfl dX7_keptAt_37 ?_
          refine x_istore_n (L' := [(3, .int x7_3), (0, .ref (ρ this)), (1, .int p1), (2, .int p2), (4, .int x7_4)]) hC dX7_keptAt_38 (by decide) (by first | rfl | simp (decide := true) [rv_cat, cat_ref, cat_int]) ?_
          refine x_iinc (v' := x7_4 + 1) (L' := [(4, .int (x7_4 + 1)), (3, .int x7_3), (0, .ref (ρ this)), (1, .int p1), (2, .int p2)]) hC 4 rfl dX7_keptAt_39 rfl (by decide) (by first | rfl | simp (decide := true) [rv_cat, cat_ref, cat_int]) ?_
          refine x_goto (tgt := 7) hC dX7_keptAt_42 (by decide) ?_
          refine xJ.sub (L' := [(0, .ref (ρ this)), (1, .int p1), (2, .int p2), (3, .int x7_3), (4, .int (x7_4 + 1))]) [2, 3, 4, 1, 0] rfl ?_
          exact ih _ _ _ h hKK
        · have h := h.2 c3
          refine x_iload hC 4 rfl dX7_keptAt_32 ?_
          refine x_goto (tgt := 38) hC dX7_keptAt_34 (by decide) ?_
          refine x_istore_n (L' := [(3, .int x7_4), (0, .ref (ρ this)), (1, .int p1), (2, .int p2), (4, .int x7_4)]) hC dX7_keptAt_38 (by decide) (by first | rfl | simp (decide := true) [rv_cat, cat_ref, cat_int]) ?_
          refine x_iinc (v' := x7_4 + 1) (L' := [(4, .int (x7_4 + 1)), (3, .int x7_4), (0, .ref (ρ this)), (1, .int p1), (2, .int p2)]) hC 4 rfl dX7_keptAt_39 rfl (by decide) (by first | rfl | simp (decide := true) [rv_cat, cat_ref, cat_int]) ?_
          refine x_goto (tgt := 7) hC dX7_keptAt_42 (by decide) ?_
          refine xJ.sub (L' := [(0, .ref (ρ this)), (1, .int p1), (2, .int p2), (3, .int x7_4), (4, .int (x7_4 + 1))]) [2, 3, 4, 1, 0] rfl ?_
          exact ih _ _ _ h hKK
set_option maxHeartbeats 4000000 in
set_option maxRecDepth 20000 in
theorem m7_keptAt (l : Launch) (hl : l.stackTraces = false) (G : xG) (ρ : Nm → Nat) (this : Nm) (p1 : Int32) (p2 : Int32) (σ : PH) (Q : Int32 → PH → Prop) (h : w7_keptAt this p1 p2 σ Q) : xMet l yX7_keptAt (.code yX7_keptAt cX7_keptAt 5 (some .int)) rm7_keptAt G ρ σ [.ref (ρ this), .int p1, .int p2] (eI ρ Q) xNo := by
  refine xMet.of hl (by decide +kernel) (Nat.le_of_ble_eq_true rfl) (fun X hC hr hn htab h0 => ?_)
  have hC : xC G X "PlantServerModel" cX7_keptAt 5 rm7_keptAt := hC
  unfold w7_keptAt at h
  refine xJ.loc (L' := [(0, .ref (ρ this)), (1, .int p1), (2, .int p2)]) rfl ?_
  refine x_iconst (v := (-1)) hC dX7_keptAt_0 (by decide) ?_
  refine x_istore_n (L' := [(3, .int (-1)), (0, .ref (ρ this)), (1, .int p1), (2, .int p2)]) hC dX7_keptAt_1 (by decide) (by first | rfl | simp (decide := true) [rv_cat, cat_ref, cat_int]) ?_
  refine x_iconst (v := 5) hC dX7_keptAt_2 (by decide) ?_
  refine x_iload_n hC 2 rfl dX7_keptAt_3 ?_
  refine x_imul hC dX7_keptAt_4 ?_
  refine x_istore (L' := [(4, .int (5 * p1)), (3, .int (-1)), (0, .ref (ρ this)), (1, .int p1), (2, .int p2)]) hC dX7_keptAt_5 (by decide) (by first | rfl | simp (decide := true) [rv_cat, cat_ref, cat_int]) ?_
  refine xJ.sub (L' := [(0, .ref (ρ this)), (1, .int p1), (2, .int p2), (3, .int (-1)), (4, .int (5 * p1))]) [2, 3, 4, 1, 0] rfl ?_
  obtain ⟨f7, h⟩ := h
  refine ml7_keptAt_7 hC hr htab this p1 p2 h0 (0) (0) (by decide) (by decide) _ Q _ f7 _ _ _ h (fun y1 y2 τ1 h => ?_)
  refine x_iload_n hC 3 rfl dX7_keptAt_45 ?_
  exact x_iret hC hr dX7_keptAt_46 (by decide) (by decide) ⟨rfl, _, rfl, h⟩
/-! PlantServerModel.acknowledge -/
theorem dX7_acknowledge_0 : decode cX7_acknowledge 0 = .ok (.aload_n 0, 1) := by decide +kernel
theorem dX7_acknowledge_1 : decode cX7_acknowledge 1 = .ok (.iload_n 1, 1) := by decide +kernel
theorem dX7_acknowledge_2 : decode cX7_acknowledge 2 = .ok (.invokevirtual 170, 3) := by decide +kernel
theorem dX7_acknowledge_5 : decode cX7_acknowledge 5 = .ok (.ifCond .ne 5, 3) := by decide +kernel
theorem dX7_acknowledge_8 : decode cX7_acknowledge 8 = .ok (.iconst 0, 1) := by decide +kernel
theorem dX7_acknowledge_9 : decode cX7_acknowledge 9 = .ok (.ireturn, 1) := by decide +kernel
theorem dX7_acknowledge_10 : decode cX7_acknowledge 10 = .ok (.aload_n 0, 1) := by decide +kernel
theorem dX7_acknowledge_11 : decode cX7_acknowledge 11 = .ok (.iload_n 1, 1) := by decide +kernel
theorem dX7_acknowledge_12 : decode cX7_acknowledge 12 = .ok (.iload_n 2, 1) := by decide +kernel
theorem dX7_acknowledge_13 : decode cX7_acknowledge 13 = .ok (.invokevirtual 173, 3) := by decide +kernel
theorem dX7_acknowledge_16 : decode cX7_acknowledge 16 = .ok (.istore_n 3, 1) := by decide +kernel
theorem dX7_acknowledge_17 : decode cX7_acknowledge 17 = .ok (.iload_n 3, 1) := by decide +kernel
theorem dX7_acknowledge_18 : decode cX7_acknowledge 18 = .ok (.iconst (-1), 1) := by decide +kernel
theorem dX7_acknowledge_19 : decode cX7_acknowledge 19 = .ok (.if_icmp .eq 10, 3) := by decide +kernel
theorem dX7_acknowledge_22 : decode cX7_acknowledge 22 = .ok (.aload_n 0, 1) := by decide +kernel
theorem dX7_acknowledge_23 : decode cX7_acknowledge 23 = .ok (.getfield 89, 3) := by decide +kernel
theorem dX7_acknowledge_26 : decode cX7_acknowledge 26 = .ok (.iload_n 3, 1) := by decide +kernel
theorem dX7_acknowledge_27 : decode cX7_acknowledge 27 = .ok (.iconst 0, 1) := by decide +kernel
theorem dX7_acknowledge_28 : decode cX7_acknowledge 28 = .ok (.iastore, 1) := by decide +kernel
theorem dX7_acknowledge_29 : decode cX7_acknowledge 29 = .ok (.iload_n 3, 1) := by decide +kernel
theorem dX7_acknowledge_30 : decode cX7_acknowledge 30 = .ok (.iconst (-1), 1) := by decide +kernel
theorem dX7_acknowledge_31 : decode cX7_acknowledge 31 = .ok (.if_icmp .eq 7, 3) := by decide +kernel
theorem dX7_acknowledge_34 : decode cX7_acknowledge 34 = .ok (.iconst 1, 1) := by decide +kernel
theorem dX7_acknowledge_35 : decode cX7_acknowledge 35 = .ok (.goto 4, 3) := by decide +kernel
theorem dX7_acknowledge_38 : decode cX7_acknowledge 38 = .ok (.iconst 0, 1) := by decide +kernel
theorem dX7_acknowledge_39 : decode cX7_acknowledge 39 = .ok (.ireturn, 1) := by decide +kernel
abbrev rm7_acknowledge : Room := { frames := 3, cells := 0, slots := 0, locals := 64 }
theorem hd7_acknowledge : yX7_acknowledge.cls ≠ "java/lang/invoke/MethodHandle" ∧ yX7_acknowledge.cls ≠ "java/lang/invoke/VarHandle" ∧ (parseMethodDescriptor yX7_acknowledge.desc).map (fun d => d.parameters.length) = some 2 := by decide +kernel
set_option maxHeartbeats 4000000 in
set_option maxRecDepth 20000 in
theorem m7_acknowledge (l : Launch) (hl : l.stackTraces = false) (G : xG) (ρ : Nm → Nat) (this : Nm) (p1 : Int32) (p2 : Int32) (σ : PH) (Q : Int32 → PH → Prop) (h : w7_acknowledge this p1 p2 σ Q) : xMet l yX7_acknowledge (.code yX7_acknowledge cX7_acknowledge 4 (some .boolean)) rm7_acknowledge G ρ σ [.ref (ρ this), .int p1, .int p2] (eI ρ Q) xNo := by
  refine xMet.of hl (by decide +kernel) (Nat.le_of_ble_eq_true rfl) (fun X hC hr hn htab h0 => ?_)
  have hC : xC G X "PlantServerModel" cX7_acknowledge 4 rm7_acknowledge := hC
  unfold w7_acknowledge at h
  refine xJ.loc (L' := [(0, .ref (ρ this)), (1, .int p1), (2, .int p2)]) rfl ?_
  refine x_aload_n hC 0 rfl dX7_acknowledge_0 ?_
  refine x_iload_n hC 1 rfl dX7_acknowledge_1 ?_
  obtain ⟨k1, h⟩ := h
  refine x_callV (n0 := this) (as := [.int p1]) (rest := []) hC (ci := 7) (r := (RX7, TX7, 36)) k1 rfl (fun l hl => m7_asks l hl G ρ this p1 σ _ h) q900 q902 s26 q3 q903 ⟨rfl, hd7_asks⟩ (by decide) ⟨(by decide), (by decide)⟩ (by first | exact Nat.le_of_ble_eq_true rfl | (simp [rv_cat]; done) | (simp (decide := true) [rv_cat, cat_ref, cat_int]; done)) rfl dX7_acknowledge_2 (fun E σ9 hx => False.elim hx) (fun v1 σ1 ρ1 hp1 hag1 => ?_)
  obtain ⟨e9, r1, e8, h⟩ := hp1
  rw [e8, e9]
  refine xJ.nrm (k' := 0) (n' := 0) (pc' := 5) (st' := [.int r1]) rfl rfl rfl rfl ?_
  refine x_if_ne (tgt := 10) hC dX7_acknowledge_5 (by decide) (fun c1 => ?_) (fun c1 => ?_)
  · have h := h.1 c1
    refine x_aload_n hC 0 rfl dX7_acknowledge_10 ?_
    refine x_iload_n hC 1 rfl dX7_acknowledge_11 ?_
    refine x_iload_n hC 2 rfl dX7_acknowledge_12 ?_
    have k2 : hK σ1 this = 8 := (hag1 this (by rw [k1]; decide)).1.trans k1
    refine x_callV (n0 := this) (as := [.int p1, .int p2]) (rest := []) hC (ci := 7) (r := (RX7, TX7, 36)) k2 rfl (fun l hl => m7_keptAt l hl G ρ this p1 p2 σ1 _ h) q904 q906 s27 q3 q907 ⟨rfl, hd7_keptAt⟩ (by decide) ⟨(by decide), (by decide)⟩ (by first | exact Nat.le_of_ble_eq_true rfl | (simp [rv_cat]; done) | (simp (decide := true) [rv_cat, cat_ref, cat_int]; done)) rfl dX7_acknowledge_13 (fun E σ9 hx => False.elim hx) (fun v2 σ2 ρ2 hp2 hag2 => ?_)
    obtain ⟨e9, r2, e8, h⟩ := hp2
    rw [e8, e9]
    refine xJ.nrm (k' := 0) (n' := 0) (pc' := 16) (st' := [.int r2]) rfl rfl rfl rfl ?_
    refine x_istore_n (L' := [(3, .int r2), (0, .ref (ρ this)), (1, .int p1), (2, .int p2)]) hC dX7_acknowledge_16 (by decide) (by first | rfl | simp (decide := true) [rv_cat, cat_ref, cat_int]) ?_
    refine x_iload_n hC 0 rfl dX7_acknowledge_17 ?_
    refine x_iconst (v := (-1)) hC dX7_acknowledge_18 (by decide) ?_
    refine x_icmp_eq (tgt := 29) hC dX7_acknowledge_19 (by decide) (fun c2 => ?_) (fun c2 => ?_)
    · have h := h.1 c2
      refine x_iload_n hC 0 rfl dX7_acknowledge_29 ?_
      refine x_iconst (v := (-1)) hC dX7_acknowledge_30 (by decide) ?_
      refine x_icmp_eq (tgt := 38) hC dX7_acknowledge_31 (by decide) (fun c3 => ?_) (fun c3 => ?_)
      · have h := h.1 c3
        refine x_iconst (v := 0) hC dX7_acknowledge_38 (by decide) ?_
        exact x_zret hC hr zb0 dX7_acknowledge_39 (by decide) (by decide) ⟨rfl, _, rfl, h⟩
      · have h := h.2 c3
        refine x_iconst (v := 1) hC dX7_acknowledge_34 (by decide) ?_
        refine x_goto (tgt := 39) hC dX7_acknowledge_35 (by decide) ?_
        exact x_zret hC hr zb1 dX7_acknowledge_39 (by decide) (by decide) ⟨rfl, _, rfl, h⟩
    · have h := h.2 c2
      refine x_aload_n hC 1 rfl dX7_acknowledge_22 ?_
      have k3 : hK σ2 this = 8 := (hag2 this (by rw [k2]; decide)).1.trans k2
      refine x_getR (n0 := this) hC (ci := 7) (T := TX7) (N := 36) (C := RX7) 30 k3 rfl rfl (by decide) rfl q719 dX7_acknowledge_23 ?_
      refine x_iload_n hC 0 rfl dX7_acknowledge_26 ?_
      refine x_iconst (v := 0) hC dX7_acknowledge_27 (by decide) ?_
      obtain ⟨m1, hm1, h⟩ := h
      rw [show rv ρ (hR σ2 this 30) = Value.ref (ρ m1) from by rw [hm1]; rfl]
      obtain ⟨k4, h⟩ := h
      obtain ⟨v3, h⟩ := h
      refine x_iast (a := m1) hC k4 v3 dX7_acknowledge_28 ?_
      refine xJ.nmH (fun σ3 e1 => ?_)
      have h := h σ3 e1
      have r3 : hR σ3 = hR σ2 ∧ hL σ3 = hL σ2 := by rw [e1]; exact ⟨rfl, rfl⟩
      refine x_iload_n hC 0 rfl dX7_acknowledge_29 ?_
      refine x_iconst (v := (-1)) hC dX7_acknowledge_30 (by decide) ?_
      refine x_icmp_eq (tgt := 38) hC dX7_acknowledge_31 (by decide) (fun c4 => ?_) (fun c4 => ?_)
      · have h := h.1 c4
        refine x_iconst (v := 0) hC dX7_acknowledge_38 (by decide) ?_
        exact x_zret hC hr zb0 dX7_acknowledge_39 (by decide) (by decide) ⟨rfl, _, rfl, h⟩
      · have h := h.2 c4
        refine x_iconst (v := 1) hC dX7_acknowledge_34 (by decide) ?_
        refine x_goto (tgt := 39) hC dX7_acknowledge_35 (by decide) ?_
        exact x_zret hC hr zb1 dX7_acknowledge_39 (by decide) (by decide) ⟨rfl, _, rfl, h⟩
  · have h := h.2 c1
    refine x_iconst (v := 0) hC dX7_acknowledge_8 (by decide) ?_
    exact x_zret hC hr zb0 dX7_acknowledge_9 (by decide) (by decide) ⟨rfl, _, rfl, h⟩
/-! PlantServer$Subscription.find -/
theorem dX4_find_0 : decode cX4_find 0 = .ok (.aload_n 0, 1) := by decide +kernel
theorem dX4_find_1 : decode cX4_find 1 = .ok (.iload_n 1, 1) := by decide +kernel
theorem dX4_find_2 : decode cX4_find 2 = .ok (.invokevirtual 89, 3) := by decide +kernel
theorem dX4_find_5 : decode cX4_find 5 = .ok (.istore_n 2, 1) := by decide +kernel
theorem dX4_find_6 : decode cX4_find 6 = .ok (.iload_n 2, 1) := by decide +kernel
theorem dX4_find_7 : decode cX4_find 7 = .ok (.iconst (-1), 1) := by decide +kernel
theorem dX4_find_8 : decode cX4_find 8 = .ok (.if_icmp .ne 7, 3) := by decide +kernel
theorem dX4_find_11 : decode cX4_find 11 = .ok (.aconst_null, 1) := by decide +kernel
theorem dX4_find_12 : decode cX4_find 12 = .ok (.goto 9, 3) := by decide +kernel
theorem dX4_find_15 : decode cX4_find 15 = .ok (.aload_n 0, 1) := by decide +kernel
theorem dX4_find_16 : decode cX4_find 16 = .ok (.getfield 19, 3) := by decide +kernel
theorem dX4_find_19 : decode cX4_find 19 = .ok (.iload_n 2, 1) := by decide +kernel
theorem dX4_find_20 : decode cX4_find 20 = .ok (.aaload, 1) := by decide +kernel
theorem dX4_find_21 : decode cX4_find 21 = .ok (.areturn, 1) := by decide +kernel
abbrev rm4_find : Room := { frames := 1, cells := 0, slots := 0, locals := 23 }
theorem hd4_find : yX4_find.cls ≠ "java/lang/invoke/MethodHandle" ∧ yX4_find.cls ≠ "java/lang/invoke/VarHandle" ∧ (parseMethodDescriptor yX4_find.desc).map (fun d => d.parameters.length) = some 1 := by decide +kernel
set_option maxHeartbeats 4000000 in
set_option maxRecDepth 20000 in
theorem m4_find (l : Launch) (hl : l.stackTraces = false) (G : xG) (ρ : Nm → Nat) (this : Nm) (p1 : Int32) (σ : PH) (Q : Option Nm → PH → Prop) (h : w4_find this p1 σ Q) : xMet l yX4_find (.code yX4_find cX4_find 3 (some (.object "PlantServer$Message"))) rm4_find G ρ σ [.ref (ρ this), .int p1] (eR ρ Q) xNo := by
  refine xMet.of hl (by decide +kernel) (Nat.le_of_ble_eq_true rfl) (fun X hC hr hn htab h0 => ?_)
  have hC : xC G X "PlantServer$Subscription" cX4_find 3 rm4_find := hC
  unfold w4_find at h
  refine xJ.loc (L' := [(0, .ref (ρ this)), (1, .int p1)]) rfl ?_
  refine x_aload_n hC 0 rfl dX4_find_0 ?_
  refine x_iload_n hC 1 rfl dX4_find_1 ?_
  obtain ⟨k1, h⟩ := h
  refine x_callV (n0 := this) (as := [.int p1]) (rest := []) hC (ci := 4) (r := (RX4, TX4, 14)) k1 rfl (fun l hl => m4_placeOf l hl G ρ this p1 σ _ h) q584 q569 q570 q10 q571 ⟨rfl, hd4_placeOf⟩ (by decide) ⟨(by decide), (by decide)⟩ (by first | exact Nat.le_of_ble_eq_true rfl | (simp [rv_cat]; done) | (simp (decide := true) [rv_cat, cat_ref, cat_int]; done)) rfl dX4_find_2 (fun E σ9 hx => False.elim hx) (fun v1 σ1 ρ1 hp1 hag1 => ?_)
  obtain ⟨e9, r1, e8, h⟩ := hp1
  rw [e8, e9]
  refine xJ.nrm (k' := 0) (n' := 0) (pc' := 5) (st' := [.int r1]) rfl rfl rfl rfl ?_
  refine x_istore_n (L' := [(2, .int r1), (0, .ref (ρ this)), (1, .int p1)]) hC dX4_find_5 (by decide) (by first | rfl | simp (decide := true) [rv_cat, cat_ref, cat_int]) ?_
  refine x_iload_n hC 0 rfl dX4_find_6 ?_
  refine x_iconst (v := (-1)) hC dX4_find_7 (by decide) ?_
  refine x_icmp_ne (tgt := 15) hC dX4_find_8 (by decide) (fun c1 => ?_) (fun c1 => ?_)
  · have h := h.1 c1
    refine x_aload_n hC 1 rfl dX4_find_15 ?_
    have k2 : hK σ1 this = 5 := (hag1 this (by rw [k1]; decide)).1.trans k1
    refine x_getR (n0 := this) hC (ci := 4) (T := TX4) (N := 14) (C := RX4) 6 k2 rfl rfl (by decide) rfl q244 dX4_find_16 ?_
    refine x_iload_n hC 0 rfl dX4_find_19 ?_
    obtain ⟨m1, hm1, h⟩ := h
    rw [show rv ρ (hR σ1 this 6) = Value.ref (ρ m1) from by rw [hm1]; rfl]
    obtain ⟨k3, h⟩ := h
    obtain ⟨v2, h⟩ := h
    refine x_aald12 (a := m1) hC k3 v2 dX4_find_20 ?_
    refine xJ.stk (st' := [rv ρ (hR σ1 m1 (Int32.toNatClampNeg r1))]) rfl ?_
    exact x_aret (o := hR σ1 m1 (Int32.toNatClampNeg r1)) hC hr dX4_find_21 (by decide) (by decide) ⟨rfl, _, rfl, h⟩
  · have h := h.2 c1
    refine x_null hC dX4_find_11 ?_
    refine x_goto (tgt := 21) hC dX4_find_12 (by decide) ?_
    refine xJ.stk (st' := [rv ρ none]) rfl ?_
    exact x_aret (o := none) hC hr dX4_find_21 (by decide) (by decide) ⟨rfl, _, rfl, h⟩
/-! PlantServer.size -/
theorem dX6_size_0 : decode cX6_size 0 = .ok (.aload_n 0, 1) := by decide +kernel
theorem dX6_size_1 : decode cX6_size 1 = .ok (.iload_n 1, 1) := by decide +kernel
theorem dX6_size_2 : decode cX6_size 2 = .ok (.invokevirtual 73, 3) := by decide +kernel
theorem dX6_size_5 : decode cX6_size 5 = .ok (.iload_n 2, 1) := by decide +kernel
theorem dX6_size_6 : decode cX6_size 6 = .ok (.invokevirtual 145, 3) := by decide +kernel
theorem dX6_size_9 : decode cX6_size 9 = .ok (.astore_n 3, 1) := by decide +kernel
theorem dX6_size_10 : decode cX6_size 10 = .ok (.aload_n 3, 1) := by decide +kernel
theorem dX6_size_11 : decode cX6_size 11 = .ok (.ifnonnull 7, 3) := by decide +kernel
theorem dX6_size_14 : decode cX6_size 14 = .ok (.iconst (-1), 1) := by decide +kernel
theorem dX6_size_15 : decode cX6_size 15 = .ok (.goto 7, 3) := by decide +kernel
theorem dX6_size_18 : decode cX6_size 18 = .ok (.aload_n 3, 1) := by decide +kernel
theorem dX6_size_19 : decode cX6_size 19 = .ok (.getfield 149, 3) := by decide +kernel
theorem dX6_size_22 : decode cX6_size 22 = .ok (.ireturn, 1) := by decide +kernel
abbrev rm6_size : Room := { frames := 7, cells := 1, slots := 6, locals := 112 }
theorem hd6_size : yX6_size.cls ≠ "java/lang/invoke/MethodHandle" ∧ yX6_size.cls ≠ "java/lang/invoke/VarHandle" ∧ (parseMethodDescriptor yX6_size.desc).map (fun d => d.parameters.length) = some 2 := by decide +kernel
set_option maxHeartbeats 4000000 in
set_option maxRecDepth 20000 in
theorem m6_size (l : Launch) (hl : l.stackTraces = false) (G : xG) (ρ : Nm → Nat) (this : Nm) (p1 : Int32) (p2 : Int32) (σ : PH) (Q : Int32 → PH → Prop) (Xp : String → PH → Prop) (h : w6_size this p1 p2 σ Q Xp) : xMet l yX6_size (.code yX6_size cX6_size 4 (some .int)) rm6_size G ρ σ [.ref (ρ this), .int p1, .int p2] (eI ρ Q) Xp := by
  refine xMet.of hl (by decide +kernel) (Nat.le_of_ble_eq_true rfl) (fun X hC hr hn htab h0 => ?_)
  have hC : xC G X "PlantServer" cX6_size 4 rm6_size := hC
  unfold w6_size at h
  refine xJ.loc (L' := [(0, .ref (ρ this)), (1, .int p1), (2, .int p2)]) rfl ?_
  refine x_aload_n hC 0 rfl dX6_size_0 ?_
  refine x_iload_n hC 1 rfl dX6_size_1 ?_
  obtain ⟨k1, h⟩ := h
  refine x_callV (n0 := this) (as := [.int p1]) (rest := []) hC (ci := 6) (r := (RX6, TX6, 9)) k1 rfl (fun l hl => m6_openSubscription l hl G ρ this p1 σ _ Xp h) q296 q298 s2 q1 q299 ⟨rfl, hd6_openSubscription⟩ (by decide) ⟨(by decide), (by decide)⟩ (by first | exact Nat.le_of_ble_eq_true rfl | (simp [rv_cat]; done) | (simp (decide := true) [rv_cat, cat_ref, cat_int]; done)) rfl dX6_size_2 (fun E σ9 hx => x_out hC h0 htab (by decide) (by decide) hx) (fun v1 σ1 ρ1 hp1 hag1 => ?_)
  obtain ⟨e9, r1, e8, h⟩ := hp1
  rw [e8, e9]
  refine xJ.nrm (k' := 1) (n' := 6) (pc' := 5) (st' := [rv ρ r1]) rfl rfl rfl rfl ?_
  refine x_iload_n hC 2 rfl dX6_size_5 ?_
  obtain ⟨m1, hm1, h⟩ := h
  rw [show rv ρ r1 = Value.ref (ρ m1) from by rw [hm1]; rfl]
  obtain ⟨k2, h⟩ := h
  refine x_callV (n0 := m1) (as := [.int p2]) (rest := []) hC (ci := 4) (r := (RX4, TX4, 14)) k2 rfl (fun l hl => m4_find l hl G ρ m1 p2 σ1 _ h) q580 q581 q582 q10 q583 ⟨rfl, hd4_find⟩ (by decide) ⟨(by decide), (by decide)⟩ (by first | exact Nat.le_of_ble_eq_true rfl | (simp [rv_cat]; done) | (simp (decide := true) [rv_cat, cat_ref, cat_int]; done)) rfl dX6_size_6 (fun E σ9 hx => False.elim hx) (fun v2 σ2 ρ2 hp2 hag2 => ?_)
  obtain ⟨e9, r2, e8, h⟩ := hp2
  rw [e8, e9]
  refine xJ.nrm (k' := 1) (n' := 6) (pc' := 9) (st' := [rv ρ r2]) rfl rfl rfl rfl ?_
  refine x_astore_nQ (o := r2) (L' := [(3, rv ρ r2), (0, .ref (ρ this)), (1, .int p1), (2, .int p2)]) hC dX6_size_9 (by decide) (by first | rfl | simp (decide := true) [rv_cat, cat_ref, cat_int]) ?_
  refine x_aload_nQ (o := r2) hC 0 rfl dX6_size_10 ?_
  refine x_ifnonnull (o := r2) (tgt := 18) hC dX6_size_11 (by decide) (fun m2 c1 => ?_) (fun c1 => ?_)
  · have h := h.2 m2 c1
    rw [show rv ρ r2 = Value.ref (ρ m2) from by rw [c1]; rfl]
    refine x_aload_n hC 0 rfl dX6_size_18 ?_
    obtain ⟨k3, h⟩ := h
    refine x_getI (n0 := m2) hC (ci := 2) (T := TX2) (N := 5) (C := RX2) 4 k3 rfl rfl (by decide) rfl q533 dX6_size_19 ?_
    exact x_iret hC hr dX6_size_22 (by decide) (by decide) ⟨rfl, _, rfl, h⟩
  · have h := h.1 c1
    rw [show rv ρ r2 = Value.null from by rw [c1]; rfl]
    refine x_iconst (v := (-1)) hC dX6_size_14 (by decide) ?_
    refine x_goto (tgt := 22) hC dX6_size_15 (by decide) ?_
    exact x_iret hC hr dX6_size_22 (by decide) (by decide) ⟨rfl, _, rfl, h⟩
/-! PlantServerLaw.size -/
theorem dL_size_0 : decode cL_size 0 = .ok (.aload_n 3, 1) := by decide +kernel
theorem dL_size_1 : decode cL_size 1 = .ok (.iconst 0, 1) := by decide +kernel
theorem dL_size_2 : decode cL_size 2 = .ok (.aload_n 0, 1) := by decide +kernel
theorem dL_size_3 : decode cL_size 3 = .ok (.iload_n 1, 1) := by decide +kernel
theorem dL_size_4 : decode cL_size 4 = .ok (.iload_n 2, 1) := by decide +kernel
theorem dL_size_5 : decode cL_size 5 = .ok (.invokevirtual 50, 3) := by decide +kernel
theorem dL_size_8 : decode cL_size 8 = .ok (.i2l, 1) := by decide +kernel
theorem dL_size_9 : decode cL_size 9 = .ok (.lastore, 1) := by decide +kernel
theorem dL_size_10 : decode cL_size 10 = .ok (.goto 7, 3) := by decide +kernel
theorem dL_size_13 : decode cL_size 13 = .ok (.astore 4, 2) := by decide +kernel
theorem dL_size_15 : decode cL_size 15 = .ok (.iconst 1, 1) := by decide +kernel
theorem dL_size_16 : decode cL_size 16 = .ok (.ireturn, 1) := by decide +kernel
theorem dL_size_17 : decode cL_size 17 = .ok (.iconst 0, 1) := by decide +kernel
theorem dL_size_18 : decode cL_size 18 = .ok (.ireturn, 1) := by decide +kernel
abbrev rmL_size : Room := { frames := 8, cells := 1, slots := 6, locals := 135 }
theorem hdL_size : yL_size.cls ≠ "java/lang/invoke/MethodHandle" ∧ yL_size.cls ≠ "java/lang/invoke/VarHandle" ∧ (parseMethodDescriptor yL_size.desc).map (fun d => d.parameters.length) = some 4 := by decide +kernel
set_option maxHeartbeats 4000000 in
set_option maxRecDepth 20000 in
theorem mL_size (l : Launch) (hl : l.stackTraces = false) (G : xG) (ρ : Nm → Nat) (a1 : Nm) (p2 : Int32) (p3 : Int32) (a4 : Nm) (σ : PH) (Q : Int32 → PH → Prop) (h : wL_size a1 p2 p3 a4 σ Q) : xMet l yL_size (.codeWith yL_size cL_size 5 (some .int) [(0, 10, 13, 13)]) rmL_size G ρ σ [.ref (ρ a1), .int p2, .int p3, .ref (ρ a4)] (eI ρ Q) xNo := by
  refine xMet.ofW hl (by decide +kernel) (Nat.le_of_ble_eq_true rfl) (fun X hC hr hn htab h0 => ?_)
  have hC : xC G X "PlantServerLaw" cL_size 5 rmL_size := hC
  unfold wL_size at h
  refine xJ.loc (L' := [(0, .ref (ρ a1)), (1, .int p2), (2, .int p3), (3, .ref (ρ a4))]) rfl ?_
  refine x_aload_n hC 3 rfl dL_size_0 ?_
  refine x_iconst (v := 0) hC dL_size_1 (by decide) ?_
  refine x_aload_n hC 0 rfl dL_size_2 ?_
  refine x_iload_n hC 1 rfl dL_size_3 ?_
  refine x_iload_n hC 2 rfl dL_size_4 ?_
  obtain ⟨k1, h⟩ := h
  refine x_callV (n0 := a1) (as := [.int p2, .int p3]) (rest := [.int 0, .ref (ρ a4)]) hC (ci := 6) (r := (RX6, TX6, 9)) k1 rfl (fun l hl => m6_size l hl G ρ a1 p2 p3 σ _ _ h) q576 q577 q578 q1 q579 ⟨rfl, hd6_size⟩ (by decide) ⟨(by decide), (by decide)⟩ (by first | exact Nat.le_of_ble_eq_true rfl | (simp [rv_cat]; done) | (simp (decide := true) [rv_cat, cat_ref, cat_int]; done)) rfl dL_size_5 (fun E σ2 hx => ?_) (fun v1 σ1 ρ1 hp1 hag1 => ?_)
  · have hE9 := hx.2
    have he := hE9
    have h := hx.1 he
    subst he
    refine x_catch hC [] [] (0, 10, 13, 13) htab (by intro z hz; simp at hz) (by decide) (by decide) q89 xcast_xIO (fun qx1 => ?_)
    refine xJ.nrm (k' := 1) (n' := 6) (pc' := 13) (st' := [.ref qx1]) rfl rfl rfl rfl ?_
    refine x_astore (L' := [(4, .ref qx1), (0, .ref (ρ a1)), (1, .int p2), (2, .int p3), (3, .ref (ρ a4))]) hC dL_size_13 (by decide) (by first | rfl | simp (decide := true) [rv_cat, cat_ref, cat_int]) ?_
    refine x_iconst (v := 1) hC dL_size_15 (by decide) ?_
    exact x_iret hC hr dL_size_16 (by decide) (by decide) ⟨rfl, _, rfl, h⟩
  · obtain ⟨e9, r1, e8, h⟩ := hp1
    rw [e8, e9]
    refine xJ.nrm (k' := 1) (n' := 6) (pc' := 8) (st' := [.int r1, .int 0, .ref (ρ a4)]) rfl rfl rfl rfl ?_
    refine x_i2l hC dL_size_8 ?_
    obtain ⟨k2, h⟩ := h
    obtain ⟨v2, h⟩ := h
    refine x_last (a := a4) hC k2 v2 dL_size_9 ?_
    refine xJ.nmH (fun σ3 e1 => ?_)
    have h := h σ3 e1
    have r2 : hR σ3 = hR σ1 ∧ hL σ3 = hL σ1 := by rw [e1]; exact ⟨rfl, rfl⟩
    refine x_goto (tgt := 17) hC dL_size_10 (by decide) ?_
    refine x_iconst (v := 0) hC dL_size_17 (by decide) ?_
    exact x_iret hC hr dL_size_18 (by decide) (by decide) ⟨rfl, _, rfl, h⟩
/-! PlantServerModel.size -/
theorem dX7_size_0 : decode cX7_size 0 = .ok (.aload_n 0, 1) := by decide +kernel
theorem dX7_size_1 : decode cX7_size 1 = .ok (.iload_n 1, 1) := by decide +kernel
theorem dX7_size_2 : decode cX7_size 2 = .ok (.invokevirtual 170, 3) := by decide +kernel
theorem dX7_size_5 : decode cX7_size 5 = .ok (.ifCond .ne 5, 3) := by decide +kernel
theorem dX7_size_8 : decode cX7_size 8 = .ok (.iconst 0, 1) := by decide +kernel
theorem dX7_size_9 : decode cX7_size 9 = .ok (.ireturn, 1) := by decide +kernel
theorem dX7_size_10 : decode cX7_size 10 = .ok (.aload_n 0, 1) := by decide +kernel
theorem dX7_size_11 : decode cX7_size 11 = .ok (.iload_n 1, 1) := by decide +kernel
theorem dX7_size_12 : decode cX7_size 12 = .ok (.iload_n 2, 1) := by decide +kernel
theorem dX7_size_13 : decode cX7_size 13 = .ok (.invokevirtual 173, 3) := by decide +kernel
theorem dX7_size_16 : decode cX7_size 16 = .ok (.istore_n 3, 1) := by decide +kernel
theorem dX7_size_17 : decode cX7_size 17 = .ok (.iload_n 3, 1) := by decide +kernel
theorem dX7_size_18 : decode cX7_size 18 = .ok (.iconst (-1), 1) := by decide +kernel
theorem dX7_size_19 : decode cX7_size 19 = .ok (.if_icmp .ne 7, 3) := by decide +kernel
theorem dX7_size_22 : decode cX7_size 22 = .ok (.iconst (-1), 1) := by decide +kernel
theorem dX7_size_23 : decode cX7_size 23 = .ok (.goto 9, 3) := by decide +kernel
theorem dX7_size_26 : decode cX7_size 26 = .ok (.aload_n 0, 1) := by decide +kernel
theorem dX7_size_27 : decode cX7_size 27 = .ok (.getfield 92, 3) := by decide +kernel
theorem dX7_size_30 : decode cX7_size 30 = .ok (.iload_n 3, 1) := by decide +kernel
theorem dX7_size_31 : decode cX7_size 31 = .ok (.iaload, 1) := by decide +kernel
theorem dX7_size_32 : decode cX7_size 32 = .ok (.ireturn, 1) := by decide +kernel
abbrev rm7_size : Room := { frames := 3, cells := 0, slots := 0, locals := 64 }
theorem hd7_size : yX7_size.cls ≠ "java/lang/invoke/MethodHandle" ∧ yX7_size.cls ≠ "java/lang/invoke/VarHandle" ∧ (parseMethodDescriptor yX7_size.desc).map (fun d => d.parameters.length) = some 2 := by decide +kernel
set_option maxHeartbeats 4000000 in
set_option maxRecDepth 20000 in
theorem m7_size (l : Launch) (hl : l.stackTraces = false) (G : xG) (ρ : Nm → Nat) (this : Nm) (p1 : Int32) (p2 : Int32) (σ : PH) (Q : Int32 → PH → Prop) (h : w7_size this p1 p2 σ Q) : xMet l yX7_size (.code yX7_size cX7_size 4 (some .int)) rm7_size G ρ σ [.ref (ρ this), .int p1, .int p2] (eI ρ Q) xNo := by
  refine xMet.of hl (by decide +kernel) (Nat.le_of_ble_eq_true rfl) (fun X hC hr hn htab h0 => ?_)
  have hC : xC G X "PlantServerModel" cX7_size 4 rm7_size := hC
  unfold w7_size at h
  refine xJ.loc (L' := [(0, .ref (ρ this)), (1, .int p1), (2, .int p2)]) rfl ?_
  refine x_aload_n hC 0 rfl dX7_size_0 ?_
  refine x_iload_n hC 1 rfl dX7_size_1 ?_
  obtain ⟨k1, h⟩ := h
  refine x_callV (n0 := this) (as := [.int p1]) (rest := []) hC (ci := 7) (r := (RX7, TX7, 36)) k1 rfl (fun l hl => m7_asks l hl G ρ this p1 σ _ h) q900 q902 s26 q3 q903 ⟨rfl, hd7_asks⟩ (by decide) ⟨(by decide), (by decide)⟩ (by first | exact Nat.le_of_ble_eq_true rfl | (simp [rv_cat]; done) | (simp (decide := true) [rv_cat, cat_ref, cat_int]; done)) rfl dX7_size_2 (fun E σ9 hx => False.elim hx) (fun v1 σ1 ρ1 hp1 hag1 => ?_)
  obtain ⟨e9, r1, e8, h⟩ := hp1
  rw [e8, e9]
  refine xJ.nrm (k' := 0) (n' := 0) (pc' := 5) (st' := [.int r1]) rfl rfl rfl rfl ?_
  refine x_if_ne (tgt := 10) hC dX7_size_5 (by decide) (fun c1 => ?_) (fun c1 => ?_)
  · have h := h.1 c1
    refine x_aload_n hC 0 rfl dX7_size_10 ?_
    refine x_iload_n hC 1 rfl dX7_size_11 ?_
    refine x_iload_n hC 2 rfl dX7_size_12 ?_
    have k2 : hK σ1 this = 8 := (hag1 this (by rw [k1]; decide)).1.trans k1
    refine x_callV (n0 := this) (as := [.int p1, .int p2]) (rest := []) hC (ci := 7) (r := (RX7, TX7, 36)) k2 rfl (fun l hl => m7_keptAt l hl G ρ this p1 p2 σ1 _ h) q904 q906 s27 q3 q907 ⟨rfl, hd7_keptAt⟩ (by decide) ⟨(by decide), (by decide)⟩ (by first | exact Nat.le_of_ble_eq_true rfl | (simp [rv_cat]; done) | (simp (decide := true) [rv_cat, cat_ref, cat_int]; done)) rfl dX7_size_13 (fun E σ9 hx => False.elim hx) (fun v2 σ2 ρ2 hp2 hag2 => ?_)
    obtain ⟨e9, r2, e8, h⟩ := hp2
    rw [e8, e9]
    refine xJ.nrm (k' := 0) (n' := 0) (pc' := 16) (st' := [.int r2]) rfl rfl rfl rfl ?_
    refine x_istore_n (L' := [(3, .int r2), (0, .ref (ρ this)), (1, .int p1), (2, .int p2)]) hC dX7_size_16 (by decide) (by first | rfl | simp (decide := true) [rv_cat, cat_ref, cat_int]) ?_
    refine x_iload_n hC 0 rfl dX7_size_17 ?_
    refine x_iconst (v := (-1)) hC dX7_size_18 (by decide) ?_
    refine x_icmp_ne (tgt := 26) hC dX7_size_19 (by decide) (fun c2 => ?_) (fun c2 => ?_)
    · have h := h.1 c2
      refine x_aload_n hC 1 rfl dX7_size_26 ?_
      have k3 : hK σ2 this = 8 := (hag2 this (by rw [k2]; decide)).1.trans k2
      refine x_getR (n0 := this) hC (ci := 7) (T := TX7) (N := 36) (C := RX7) 31 k3 rfl rfl (by decide) rfl q720 dX7_size_27 ?_
      refine x_iload_n hC 0 rfl dX7_size_30 ?_
      obtain ⟨m1, hm1, h⟩ := h
      rw [show rv ρ (hR σ2 this 31) = Value.ref (ρ m1) from by rw [hm1]; rfl]
      obtain ⟨k4, h⟩ := h
      obtain ⟨v3, h⟩ := h
      refine x_iald (a := m1) hC k4 v3 dX7_size_31 ?_
      exact x_iret hC hr dX7_size_32 (by decide) (by decide) ⟨rfl, _, rfl, h⟩
    · have h := h.2 c2
      refine x_iconst (v := (-1)) hC dX7_size_22 (by decide) ?_
      refine x_goto (tgt := 32) hC dX7_size_23 (by decide) ?_
      exact x_iret hC hr dX7_size_32 (by decide) (by decide) ⟨rfl, _, rfl, h⟩
  · have h := h.2 c1
    refine x_iconst (v := 0) hC dX7_size_8 (by decide) ?_
    exact x_iret hC hr dX7_size_9 (by decide) (by decide) ⟨rfl, _, rfl, h⟩
/-! PlantServer.messageWith -/
theorem dX6_messageWith_0 : decode cX6_messageWith 0 = .ok (.aload_n 0, 1) := by decide +kernel
theorem dX6_messageWith_1 : decode cX6_messageWith 1 = .ok (.iload_n 1, 1) := by decide +kernel
theorem dX6_messageWith_2 : decode cX6_messageWith 2 = .ok (.invokevirtual 73, 3) := by decide +kernel
theorem dX6_messageWith_5 : decode cX6_messageWith 5 = .ok (.iload_n 2, 1) := by decide +kernel
theorem dX6_messageWith_6 : decode cX6_messageWith 6 = .ok (.invokevirtual 145, 3) := by decide +kernel
theorem dX6_messageWith_9 : decode cX6_messageWith 9 = .ok (.astore 4, 2) := by decide +kernel
theorem dX6_messageWith_11 : decode cX6_messageWith 11 = .ok (.aload 4, 2) := by decide +kernel
theorem dX6_messageWith_13 : decode cX6_messageWith 13 = .ok (.ifnonnull 13, 3) := by decide +kernel
theorem dX6_messageWith_16 : decode cX6_messageWith 16 = .ok (.new 198, 3) := by decide +kernel
theorem dX6_messageWith_19 : decode cX6_messageWith 19 = .ok (.dup, 1) := by decide +kernel
theorem dX6_messageWith_20 : decode cX6_messageWith 20 = .ok (.ldc 200, 2) := by decide +kernel
theorem dX6_messageWith_22 : decode cX6_messageWith 22 = .ok (.invokespecial 202, 3) := by decide +kernel
theorem dX6_messageWith_25 : decode cX6_messageWith 25 = .ok (.athrow, 1) := by decide +kernel
theorem dX6_messageWith_26 : decode cX6_messageWith 26 = .ok (.iload_n 3, 1) := by decide +kernel
theorem dX6_messageWith_27 : decode cX6_messageWith 27 = .ok (.ifCond .lt 12, 3) := by decide +kernel
theorem dX6_messageWith_30 : decode cX6_messageWith 30 = .ok (.iload_n 3, 1) := by decide +kernel
theorem dX6_messageWith_31 : decode cX6_messageWith 31 = .ok (.aload 4, 2) := by decide +kernel
theorem dX6_messageWith_33 : decode cX6_messageWith 33 = .ok (.getfield 149, 3) := by decide +kernel
theorem dX6_messageWith_36 : decode cX6_messageWith 36 = .ok (.if_icmp .lt 13, 3) := by decide +kernel
theorem dX6_messageWith_39 : decode cX6_messageWith 39 = .ok (.new 198, 3) := by decide +kernel
theorem dX6_messageWith_42 : decode cX6_messageWith 42 = .ok (.dup, 1) := by decide +kernel
theorem dX6_messageWith_43 : decode cX6_messageWith 43 = .ok (.ldc 203, 2) := by decide +kernel
theorem dX6_messageWith_45 : decode cX6_messageWith 45 = .ok (.invokespecial 202, 3) := by decide +kernel
theorem dX6_messageWith_48 : decode cX6_messageWith 48 = .ok (.athrow, 1) := by decide +kernel
theorem dX6_messageWith_49 : decode cX6_messageWith 49 = .ok (.aload 4, 2) := by decide +kernel
theorem dX6_messageWith_51 : decode cX6_messageWith 51 = .ok (.areturn, 1) := by decide +kernel
abbrev rm6_messageWith : Room := { frames := 7, cells := 2, slots := 12, locals := 112 }
theorem hd6_messageWith : yX6_messageWith.cls ≠ "java/lang/invoke/MethodHandle" ∧ yX6_messageWith.cls ≠ "java/lang/invoke/VarHandle" ∧ (parseMethodDescriptor yX6_messageWith.desc).map (fun d => d.parameters.length) = some 3 := by decide +kernel
set_option maxHeartbeats 4000000 in
set_option maxRecDepth 20000 in
theorem m6_messageWith (l : Launch) (hl : l.stackTraces = false) (G : xG) (ρ : Nm → Nat) (this : Nm) (p1 : Int32) (p2 : Int32) (p3 : Int32) (σ : PH) (Q : Option Nm → PH → Prop) (Xp : String → PH → Prop) (h : w6_messageWith this p1 p2 p3 σ Q Xp) : xMet l yX6_messageWith (.code yX6_messageWith cX6_messageWith 5 (some (.object "PlantServer$Message"))) rm6_messageWith G ρ σ [.ref (ρ this), .int p1, .int p2, .int p3] (eR ρ Q) Xp := by
  refine xMet.of hl (by decide +kernel) (Nat.le_of_ble_eq_true rfl) (fun X hC hr hn htab h0 => ?_)
  have hC : xC G X "PlantServer" cX6_messageWith 5 rm6_messageWith := hC
  unfold w6_messageWith at h
  refine xJ.loc (L' := [(0, .ref (ρ this)), (1, .int p1), (2, .int p2), (3, .int p3)]) rfl ?_
  refine x_aload_n hC 0 rfl dX6_messageWith_0 ?_
  refine x_iload_n hC 1 rfl dX6_messageWith_1 ?_
  obtain ⟨k1, h⟩ := h
  refine x_callV (n0 := this) (as := [.int p1]) (rest := []) hC (ci := 6) (r := (RX6, TX6, 9)) k1 rfl (fun l hl => m6_openSubscription l hl G ρ this p1 σ _ Xp h) q296 q298 s2 q1 q299 ⟨rfl, hd6_openSubscription⟩ (by decide) ⟨(by decide), (by decide)⟩ (by first | exact Nat.le_of_ble_eq_true rfl | (simp [rv_cat]; done) | (simp (decide := true) [rv_cat, cat_ref, cat_int]; done)) rfl dX6_messageWith_2 (fun E σ9 hx => x_out hC h0 htab (by decide) (by decide) hx) (fun v1 σ1 ρ1 hp1 hag1 => ?_)
  obtain ⟨e9, r1, e8, h⟩ := hp1
  rw [e8, e9]
  refine xJ.nrm (k' := 1) (n' := 6) (pc' := 5) (st' := [rv ρ r1]) rfl rfl rfl rfl ?_
  refine x_iload_n hC 2 rfl dX6_messageWith_5 ?_
  obtain ⟨m1, hm1, h⟩ := h
  rw [show rv ρ r1 = Value.ref (ρ m1) from by rw [hm1]; rfl]
  obtain ⟨k2, h⟩ := h
  refine x_callV (n0 := m1) (as := [.int p2]) (rest := []) hC (ci := 4) (r := (RX4, TX4, 14)) k2 rfl (fun l hl => m4_find l hl G ρ m1 p2 σ1 _ h) q580 q581 q582 q10 q583 ⟨rfl, hd4_find⟩ (by decide) ⟨(by decide), (by decide)⟩ (by first | exact Nat.le_of_ble_eq_true rfl | (simp [rv_cat]; done) | (simp (decide := true) [rv_cat, cat_ref, cat_int]; done)) rfl dX6_messageWith_6 (fun E σ9 hx => False.elim hx) (fun v2 σ2 ρ2 hp2 hag2 => ?_)
  obtain ⟨e9, r2, e8, h⟩ := hp2
  rw [e8, e9]
  refine xJ.nrm (k' := 1) (n' := 6) (pc' := 9) (st' := [rv ρ r2]) rfl rfl rfl rfl ?_
  refine x_astoreQ (o := r2) (L' := [(4, rv ρ r2), (0, .ref (ρ this)), (1, .int p1), (2, .int p2), (3, .int p3)]) hC dX6_messageWith_9 (by decide) (by first | rfl | simp (decide := true) [rv_cat, cat_ref, cat_int]) ?_
  refine x_aloadQ (o := r2) hC 0 rfl dX6_messageWith_11 ?_
  refine x_ifnonnull (o := r2) (tgt := 26) hC dX6_messageWith_13 (by decide) (fun m2 c1 => ?_) (fun c1 => ?_)
  · have h := h.2 m2 c1
    rw [show rv ρ r2 = Value.ref (ρ m2) from by rw [c1]; rfl]
    refine x_iload_n hC 4 rfl dX6_messageWith_26 ?_
    refine x_if_lt (tgt := 39) hC dX6_messageWith_27 (by decide) (fun c2 => ?_) (fun c2 => ?_)
    · have h := h.1 c2
      exact x_throwN (text := "the message has no such place") (is := 203) hC h0 htab (by decide +kernel) q597 q16 dX6_messageWith_39 dX6_messageWith_42 dX6_messageWith_43 dX6_messageWith_45 dX6_messageWith_48 (by decide) (by first | exact Nat.le_of_ble_eq_true rfl | (simp [rv_cat]; done) | (simp (decide := true) [rv_cat, cat_ref, cat_int]; done)) (by decide) (by decide) h
    · have h := h.2 c2
      refine x_iload_n hC 4 rfl dX6_messageWith_30 ?_
      refine x_aload hC 0 rfl dX6_messageWith_31 ?_
      obtain ⟨k3, h⟩ := h
      refine x_getI (n0 := m2) hC (ci := 2) (T := TX2) (N := 5) (C := RX2) 4 k3 rfl rfl (by decide) rfl q533 dX6_messageWith_33 ?_
      refine x_icmp_lt (tgt := 49) hC dX6_messageWith_36 (by decide) (fun c3 => ?_) (fun c3 => ?_)
      · have h := h.1 c3
        refine x_aload hC 0 rfl dX6_messageWith_49 ?_
        refine xJ.stk (st' := [rv ρ (some m2)]) rfl ?_
        exact x_aret (o := some m2) hC hr dX6_messageWith_51 (by decide) (by decide) ⟨rfl, _, rfl, h⟩
      · have h := h.2 c3
        exact x_throwN (text := "the message has no such place") (is := 203) hC h0 htab (by decide +kernel) q597 q16 dX6_messageWith_39 dX6_messageWith_42 dX6_messageWith_43 dX6_messageWith_45 dX6_messageWith_48 (by decide) (by first | exact Nat.le_of_ble_eq_true rfl | (simp [rv_cat]; done) | (simp (decide := true) [rv_cat, cat_ref, cat_int]; done)) (by decide) (by decide) h
  · have h := h.1 c1
    rw [show rv ρ r2 = Value.null from by rw [c1]; rfl]
    exact x_throwN (text := "the message is not kept") (is := 200) hC h0 htab (by decide +kernel) q597 q16 dX6_messageWith_16 dX6_messageWith_19 dX6_messageWith_20 dX6_messageWith_22 dX6_messageWith_25 (by decide) (by first | exact Nat.le_of_ble_eq_true rfl | (simp [rv_cat]; done) | (simp (decide := true) [rv_cat, cat_ref, cat_int]; done)) (by decide) (by decide) h
/-! PlantServer.valueAt -/
theorem dX6_valueAt_0 : decode cX6_valueAt 0 = .ok (.aload_n 0, 1) := by decide +kernel
theorem dX6_valueAt_1 : decode cX6_valueAt 1 = .ok (.iload_n 1, 1) := by decide +kernel
theorem dX6_valueAt_2 : decode cX6_valueAt 2 = .ok (.iload_n 2, 1) := by decide +kernel
theorem dX6_valueAt_3 : decode cX6_valueAt 3 = .ok (.iload_n 3, 1) := by decide +kernel
theorem dX6_valueAt_4 : decode cX6_valueAt 4 = .ok (.invokevirtual 152, 3) := by decide +kernel
theorem dX6_valueAt_7 : decode cX6_valueAt 7 = .ok (.getfield 156, 3) := by decide +kernel
theorem dX6_valueAt_10 : decode cX6_valueAt 10 = .ok (.iload_n 3, 1) := by decide +kernel
theorem dX6_valueAt_11 : decode cX6_valueAt 11 = .ok (.iaload, 1) := by decide +kernel
theorem dX6_valueAt_12 : decode cX6_valueAt 12 = .ok (.ireturn, 1) := by decide +kernel
abbrev rm6_valueAt : Room := { frames := 8, cells := 2, slots := 12, locals := 136 }
theorem hd6_valueAt : yX6_valueAt.cls ≠ "java/lang/invoke/MethodHandle" ∧ yX6_valueAt.cls ≠ "java/lang/invoke/VarHandle" ∧ (parseMethodDescriptor yX6_valueAt.desc).map (fun d => d.parameters.length) = some 3 := by decide +kernel
set_option maxHeartbeats 4000000 in
set_option maxRecDepth 20000 in
theorem m6_valueAt (l : Launch) (hl : l.stackTraces = false) (G : xG) (ρ : Nm → Nat) (this : Nm) (p1 : Int32) (p2 : Int32) (p3 : Int32) (σ : PH) (Q : Int32 → PH → Prop) (Xp : String → PH → Prop) (h : w6_valueAt this p1 p2 p3 σ Q Xp) : xMet l yX6_valueAt (.code yX6_valueAt cX6_valueAt 4 (some .int)) rm6_valueAt G ρ σ [.ref (ρ this), .int p1, .int p2, .int p3] (eI ρ Q) Xp := by
  refine xMet.of hl (by decide +kernel) (Nat.le_of_ble_eq_true rfl) (fun X hC hr hn htab h0 => ?_)
  have hC : xC G X "PlantServer" cX6_valueAt 4 rm6_valueAt := hC
  unfold w6_valueAt at h
  refine xJ.loc (L' := [(0, .ref (ρ this)), (1, .int p1), (2, .int p2), (3, .int p3)]) rfl ?_
  refine x_aload_n hC 0 rfl dX6_valueAt_0 ?_
  refine x_iload_n hC 1 rfl dX6_valueAt_1 ?_
  refine x_iload_n hC 2 rfl dX6_valueAt_2 ?_
  refine x_iload_n hC 3 rfl dX6_valueAt_3 ?_
  obtain ⟨k1, h⟩ := h
  refine x_callV (n0 := this) (as := [.int p1, .int p2, .int p3]) (rest := []) hC (ci := 6) (r := (RX6, TX6, 9)) k1 rfl (fun l hl => m6_messageWith l hl G ρ this p1 p2 p3 σ _ Xp h) q593 q595 s11 q1 q596 ⟨rfl, hd6_messageWith⟩ (by decide) ⟨(by decide), (by decide)⟩ (by first | exact Nat.le_of_ble_eq_true rfl | (simp [rv_cat]; done) | (simp (decide := true) [rv_cat, cat_ref, cat_int]; done)) rfl dX6_valueAt_4 (fun E σ9 hx => x_out hC h0 htab (by decide) (by decide) hx) (fun v1 σ1 ρ1 hp1 hag1 => ?_)
  obtain ⟨e9, r1, e8, h⟩ := hp1
  rw [e8, e9]
  refine xJ.nrm (k' := 2) (n' := 12) (pc' := 7) (st' := [rv ρ r1]) rfl rfl rfl rfl ?_
  obtain ⟨m1, hm1, h⟩ := h
  rw [show rv ρ r1 = Value.ref (ρ m1) from by rw [hm1]; rfl]
  obtain ⟨k2, h⟩ := h
  refine x_getR (n0 := m1) hC (ci := 2) (T := TX2) (N := 5) (C := RX2) 0 k2 rfl rfl (by decide) rfl q524 dX6_valueAt_7 ?_
  refine x_iload_n hC 3 rfl dX6_valueAt_10 ?_
  obtain ⟨m2, hm2, h⟩ := h
  rw [show rv ρ (hR σ1 m1 0) = Value.ref (ρ m2) from by rw [hm2]; rfl]
  obtain ⟨k3, h⟩ := h
  obtain ⟨v2, h⟩ := h
  refine x_iald (a := m2) hC k3 v2 dX6_valueAt_11 ?_
  exact x_iret hC hr dX6_valueAt_12 (by decide) (by decide) ⟨rfl, _, rfl, h⟩
/-! PlantServerLaw.valueAt -/
theorem dL_valueAt_0 : decode cL_valueAt 0 = .ok (.aload 4, 2) := by decide +kernel
theorem dL_valueAt_2 : decode cL_valueAt 2 = .ok (.iconst 0, 1) := by decide +kernel
theorem dL_valueAt_3 : decode cL_valueAt 3 = .ok (.aload_n 0, 1) := by decide +kernel
theorem dL_valueAt_4 : decode cL_valueAt 4 = .ok (.iload_n 1, 1) := by decide +kernel
theorem dL_valueAt_5 : decode cL_valueAt 5 = .ok (.iload_n 2, 1) := by decide +kernel
theorem dL_valueAt_6 : decode cL_valueAt 6 = .ok (.iload_n 3, 1) := by decide +kernel
theorem dL_valueAt_7 : decode cL_valueAt 7 = .ok (.invokevirtual 53, 3) := by decide +kernel
theorem dL_valueAt_10 : decode cL_valueAt 10 = .ok (.i2l, 1) := by decide +kernel
theorem dL_valueAt_11 : decode cL_valueAt 11 = .ok (.lastore, 1) := by decide +kernel
theorem dL_valueAt_12 : decode cL_valueAt 12 = .ok (.goto 11, 3) := by decide +kernel
theorem dL_valueAt_15 : decode cL_valueAt 15 = .ok (.astore 5, 2) := by decide +kernel
theorem dL_valueAt_17 : decode cL_valueAt 17 = .ok (.iconst 1, 1) := by decide +kernel
theorem dL_valueAt_18 : decode cL_valueAt 18 = .ok (.ireturn, 1) := by decide +kernel
theorem dL_valueAt_19 : decode cL_valueAt 19 = .ok (.astore 5, 2) := by decide +kernel
theorem dL_valueAt_21 : decode cL_valueAt 21 = .ok (.iconst 2, 1) := by decide +kernel
theorem dL_valueAt_22 : decode cL_valueAt 22 = .ok (.ireturn, 1) := by decide +kernel
theorem dL_valueAt_23 : decode cL_valueAt 23 = .ok (.iconst 0, 1) := by decide +kernel
theorem dL_valueAt_24 : decode cL_valueAt 24 = .ok (.ireturn, 1) := by decide +kernel
abbrev rmL_valueAt : Room := { frames := 9, cells := 2, slots := 12, locals := 159 }
theorem hdL_valueAt : yL_valueAt.cls ≠ "java/lang/invoke/MethodHandle" ∧ yL_valueAt.cls ≠ "java/lang/invoke/VarHandle" ∧ (parseMethodDescriptor yL_valueAt.desc).map (fun d => d.parameters.length) = some 5 := by decide +kernel
set_option maxHeartbeats 4000000 in
set_option maxRecDepth 20000 in
theorem mL_valueAt (l : Launch) (hl : l.stackTraces = false) (G : xG) (ρ : Nm → Nat) (a1 : Nm) (p2 : Int32) (p3 : Int32) (p4 : Int32) (a5 : Nm) (σ : PH) (Q : Int32 → PH → Prop) (h : wL_valueAt a1 p2 p3 p4 a5 σ Q) : xMet l yL_valueAt (.codeWith yL_valueAt cL_valueAt 6 (some .int) [(0, 12, 15, 13), (0, 12, 19, 57)]) rmL_valueAt G ρ σ [.ref (ρ a1), .int p2, .int p3, .int p4, .ref (ρ a5)] (eI ρ Q) xNo := by
  refine xMet.ofW hl (by decide +kernel) (Nat.le_of_ble_eq_true rfl) (fun X hC hr hn htab h0 => ?_)
  have hC : xC G X "PlantServerLaw" cL_valueAt 6 rmL_valueAt := hC
  unfold wL_valueAt at h
  refine xJ.loc (L' := [(0, .ref (ρ a1)), (1, .int p2), (2, .int p3), (3, .int p4), (4, .ref (ρ a5))]) rfl ?_
  refine x_aload hC 4 rfl dL_valueAt_0 ?_
  refine x_iconst (v := 0) hC dL_valueAt_2 (by decide) ?_
  refine x_aload_n hC 0 rfl dL_valueAt_3 ?_
  refine x_iload_n hC 1 rfl dL_valueAt_4 ?_
  refine x_iload_n hC 2 rfl dL_valueAt_5 ?_
  refine x_iload_n hC 3 rfl dL_valueAt_6 ?_
  obtain ⟨k1, h⟩ := h
  refine x_callV (n0 := a1) (as := [.int p2, .int p3, .int p4]) (rest := [.int 0, .ref (ρ a5)]) hC (ci := 6) (r := (RX6, TX6, 9)) k1 rfl (fun l hl => m6_valueAt l hl G ρ a1 p2 p3 p4 σ _ _ h) q589 q590 q591 q1 q592 ⟨rfl, hd6_valueAt⟩ (by decide) ⟨(by decide), (by decide)⟩ (by first | exact Nat.le_of_ble_eq_true rfl | (simp [rv_cat]; done) | (simp (decide := true) [rv_cat, cat_ref, cat_int]; done)) rfl dL_valueAt_7 (fun E σ2 hx => ?_) (fun v1 σ1 ρ1 hp1 hag1 => ?_)
  · have hE9 := hx.2.2
    rcases hE9 with he | he
    · have h := hx.1 he
      subst he
      refine x_catch hC [] [(0, 12, 19, 57)] (0, 12, 15, 13) htab (by intro z hz; simp at hz) (by decide) (by decide) q89 xcast_xIO (fun qx1 => ?_)
      refine xJ.nrm (k' := 2) (n' := 12) (pc' := 15) (st' := [.ref qx1]) rfl rfl rfl rfl ?_
      refine x_astore (L' := [(5, .ref qx1), (0, .ref (ρ a1)), (1, .int p2), (2, .int p3), (3, .int p4), (4, .ref (ρ a5))]) hC dL_valueAt_15 (by decide) (by first | rfl | simp (decide := true) [rv_cat, cat_ref, cat_int]) ?_
      refine x_iconst (v := 1) hC dL_valueAt_17 (by decide) ?_
      exact x_iret hC hr dL_valueAt_18 (by decide) (by decide) ⟨rfl, _, rfl, h⟩
    · have h := hx.2.1 he
      subst he
      refine x_catch hC [(0, 12, 15, 13)] [] (0, 12, 19, 57) htab (xpass1 (E := xNE) q89 (by decide) (by decide +kernel)) (by decide) (by decide) q588 xcast_xNE (fun qx2 => ?_)
      refine xJ.nrm (k' := 2) (n' := 12) (pc' := 19) (st' := [.ref qx2]) rfl rfl rfl rfl ?_
      refine x_astore (L' := [(5, .ref qx2), (0, .ref (ρ a1)), (1, .int p2), (2, .int p3), (3, .int p4), (4, .ref (ρ a5))]) hC dL_valueAt_19 (by decide) (by first | rfl | simp (decide := true) [rv_cat, cat_ref, cat_int]) ?_
      refine x_iconst (v := 2) hC dL_valueAt_21 (by decide) ?_
      exact x_iret hC hr dL_valueAt_22 (by decide) (by decide) ⟨rfl, _, rfl, h⟩
  · obtain ⟨e9, r1, e8, h⟩ := hp1
    rw [e8, e9]
    refine xJ.nrm (k' := 2) (n' := 12) (pc' := 10) (st' := [.int r1, .int 0, .ref (ρ a5)]) rfl rfl rfl rfl ?_
    refine x_i2l hC dL_valueAt_10 ?_
    obtain ⟨k2, h⟩ := h
    obtain ⟨v2, h⟩ := h
    refine x_last (a := a5) hC k2 v2 dL_valueAt_11 ?_
    refine xJ.nmH (fun σ3 e1 => ?_)
    have h := h σ3 e1
    have r2 : hR σ3 = hR σ1 ∧ hL σ3 = hL σ1 := by rw [e1]; exact ⟨rfl, rfl⟩
    refine x_goto (tgt := 23) hC dL_valueAt_12 (by decide) ?_
    refine x_iconst (v := 0) hC dL_valueAt_23 (by decide) ?_
    exact x_iret hC hr dL_valueAt_24 (by decide) (by decide) ⟨rfl, _, rfl, h⟩
