/-! PlantServer$History.valueBefore -/
theorem dX0_valueBefore_0 : decode cX0_valueBefore 0 = .ok (.iload_n 1, 1) := by decide +kernel
theorem dX0_valueBefore_1 : decode cX0_valueBefore 1 = .ok (.iconst 1, 1) := by decide +kernel
theorem dX0_valueBefore_2 : decode cX0_valueBefore 2 = .ok (.isub, 1) := by decide +kernel
theorem dX0_valueBefore_3 : decode cX0_valueBefore 3 = .ok (.istore_n 3, 1) := by decide +kernel
theorem dX0_valueBefore_4 : decode cX0_valueBefore 4 = .ok (.iload_n 3, 1) := by decide +kernel
theorem dX0_valueBefore_5 : decode cX0_valueBefore 5 = .ok (.ifCond .lt 26, 3) := by decide +kernel
theorem dX0_valueBefore_8 : decode cX0_valueBefore 8 = .ok (.aload_n 0, 1) := by decide +kernel
theorem dX0_valueBefore_9 : decode cX0_valueBefore 9 = .ok (.getfield 15, 3) := by decide +kernel
theorem dX0_valueBefore_12 : decode cX0_valueBefore 12 = .ok (.iload_n 3, 1) := by decide +kernel
theorem dX0_valueBefore_13 : decode cX0_valueBefore 13 = .ok (.iaload, 1) := by decide +kernel
theorem dX0_valueBefore_14 : decode cX0_valueBefore 14 = .ok (.iload_n 2, 1) := by decide +kernel
theorem dX0_valueBefore_15 : decode cX0_valueBefore 15 = .ok (.if_icmp .ne 10, 3) := by decide +kernel
theorem dX0_valueBefore_18 : decode cX0_valueBefore 18 = .ok (.aload_n 0, 1) := by decide +kernel
theorem dX0_valueBefore_19 : decode cX0_valueBefore 19 = .ok (.getfield 18, 3) := by decide +kernel
theorem dX0_valueBefore_22 : decode cX0_valueBefore 22 = .ok (.iload_n 3, 1) := by decide +kernel
theorem dX0_valueBefore_23 : decode cX0_valueBefore 23 = .ok (.iaload, 1) := by decide +kernel
theorem dX0_valueBefore_24 : decode cX0_valueBefore 24 = .ok (.ireturn, 1) := by decide +kernel
theorem dX0_valueBefore_25 : decode cX0_valueBefore 25 = .ok (.iinc 3 (-1), 3) := by decide +kernel
theorem dX0_valueBefore_28 : decode cX0_valueBefore 28 = .ok (.goto (-24), 3) := by decide +kernel
theorem dX0_valueBefore_31 : decode cX0_valueBefore 31 = .ok (.iconst 0, 1) := by decide +kernel
theorem dX0_valueBefore_32 : decode cX0_valueBefore 32 = .ok (.ireturn, 1) := by decide +kernel
abbrev rm0_valueBefore : Room := { frames := 0, cells := 0, slots := 0, locals := 0 }
theorem hd0_valueBefore : yX0_valueBefore.cls ≠ "java/lang/invoke/MethodHandle" ∧ yX0_valueBefore.cls ≠ "java/lang/invoke/VarHandle" ∧ (parseMethodDescriptor yX0_valueBefore.desc).map (fun d => d.parameters.length) = some 2 := by decide +kernel
set_option maxHeartbeats 4000000 in
set_option maxRecDepth 20000 in
theorem ml0_valueBefore_4 {G : xG} {X : xX} (hC : xC G X "PlantServer$History" cX0_valueBefore 4 rm0_valueBefore) (hr : xRt X (some .int)) (htab : xTab X []) (this : Nm) (p1 : Int32) (p2 : Int32) {ρ : Nm → Nat} (h0 : xR0 X ρ) (k n : Nat) (hk1 : k ≤ 0) (hk2 : n ≤ 0) (K : Int32 → PH → Prop) (Q : Int32 → PH → Prop) (Xp : String → PH → Prop) : ∀ (f4 : Nat) (x4_3 : Int32) (τ4 : PH), l0_valueBefore_4 this p1 p2 K Q f4 x4_3 τ4 → (∀ (x4_3 : Int32) (τ4 : PH), K x4_3 τ4 → xJ G X (xT X (eI ρ Q) Xp G rm0_valueBefore) 4 ρ τ4 k n 31 [(0, .ref (ρ this)), (2, .int p2), (3, .int x4_3)] []) → xJ G X (xT X (eI ρ Q) Xp G rm0_valueBefore) 4 ρ τ4 k n 4 [(0, .ref (ρ this)), (2, .int p2), (3, .int x4_3)] [] := by
  intro f4
  induction f4 with
  | zero => intro x4_3 τ4 h hKK; unfold l0_valueBefore_4 at h; exact h.elim
  | succ f4 ih =>
    intro x4_3 τ4 h hKK
    unfold l0_valueBefore_4 at h
    refine x_iload_n hC 2 rfl dX0_valueBefore_4 ?_
    refine x_if_lt (tgt := 31) hC dX0_valueBefore_5 (by decide) (fun c1 => ?_) (fun c1 => ?_)
    · have h := h.1 c1
      exact hKK _ _ h
    · have h := h.2 c1
      refine x_aload_n hC 0 rfl dX0_valueBefore_8 ?_
      obtain ⟨k1, h⟩ := h
      refine x_getR (n0 := this) hC (ci := 0) (T := TX0) (N := 4) (C := RX0) 1 k1 rfl rfl (by decide) rfl q35 dX0_valueBefore_9 ?_
      refine x_iload_n hC 2 rfl dX0_valueBefore_12 ?_
      obtain ⟨m1, hm1, h⟩ := h
      rw [show rv ρ (hR τ4 this 1) = Value.ref (ρ m1) from by rw [hm1]; rfl]
      obtain ⟨k2, h⟩ := h
      obtain ⟨v1, h⟩ := h
      refine x_iald (a := m1) hC k2 v1 dX0_valueBefore_13 ?_
      refine x_iload_n hC 1 rfl dX0_valueBefore_14 ?_
      refine x_icmp_ne (tgt := 25) hC dX0_valueBefore_15 (by decide) (fun c2 => ?_) (fun c2 => ?_)
      · have h := h.1 c2
        refine x_iinc (v' := x4_3 + (-1)) (L' := [(3, .int (x4_3 + (-1))), (0, .ref (ρ this)), (2, .int p2)]) hC 2 rfl dX0_valueBefore_25 rfl (by decide) (by first | rfl | simp (decide := true) [rv_cat, cat_ref, cat_int]) ?_
        refine x_goto (tgt := 4) hC dX0_valueBefore_28 (by decide) ?_
        refine xJ.sub (L' := [(0, .ref (ρ this)), (2, .int p2), (3, .int (x4_3 + (-1)))]) [1, 2, 0] rfl ?_
        exact ih _ _ h hKK
      · have h := h.2 c2
        refine x_aload_n hC 0 rfl dX0_valueBefore_18 ?_
        refine x_getR (n0 := this) hC (ci := 0) (T := TX0) (N := 4) (C := RX0) 2 k1 rfl rfl (by decide) rfl q36 dX0_valueBefore_19 ?_
        refine x_iload_n hC 2 rfl dX0_valueBefore_22 ?_
        obtain ⟨m2, hm2, h⟩ := h
        rw [show rv ρ (hR τ4 this 2) = Value.ref (ρ m2) from by rw [hm2]; rfl]
        obtain ⟨k3, h⟩ := h
        obtain ⟨v2, h⟩ := h
        refine x_iald (a := m2) hC k3 v2 dX0_valueBefore_23 ?_
        exact x_iret hC hr dX0_valueBefore_24 (show _ ≤ 0 by omega) (show _ ≤ 0 by omega) ⟨rfl, _, rfl, h⟩
set_option maxHeartbeats 4000000 in
set_option maxRecDepth 20000 in
theorem m0_valueBefore (l : Launch) (hl : l.stackTraces = false) (G : xG) (ρ : Nm → Nat) (this : Nm) (p1 : Int32) (p2 : Int32) (σ : PH) (Q : Int32 → PH → Prop) (h : w0_valueBefore this p1 p2 σ Q) : xMet l yX0_valueBefore (.code yX0_valueBefore cX0_valueBefore 4 (some .int)) rm0_valueBefore G ρ σ [.ref (ρ this), .int p1, .int p2] (eI ρ Q) xNo := by
  refine xMet.of hl (by decide +kernel) (Nat.le_of_ble_eq_true rfl) (fun X hC hr hn htab h0 => ?_)
  have hC : xC G X "PlantServer$History" cX0_valueBefore 4 rm0_valueBefore := hC
  unfold w0_valueBefore at h
  refine xJ.loc (L' := [(0, .ref (ρ this)), (1, .int p1), (2, .int p2)]) rfl ?_
  refine x_iload_n hC 1 rfl dX0_valueBefore_0 ?_
  refine x_iconst (v := 1) hC dX0_valueBefore_1 (by decide) ?_
  refine x_isub hC dX0_valueBefore_2 ?_
  refine x_istore_n (L' := [(3, .int (p1 - 1)), (0, .ref (ρ this)), (1, .int p1), (2, .int p2)]) hC dX0_valueBefore_3 (by decide) (by first | rfl | simp (decide := true) [rv_cat, cat_ref, cat_int]) ?_
  refine xJ.sub (L' := [(0, .ref (ρ this)), (2, .int p2), (3, .int (p1 - 1))]) [1, 3, 0] rfl ?_
  obtain ⟨f4, h⟩ := h
  refine ml0_valueBefore_4 hC hr htab this p1 p2 h0 (0) (0) (by decide) (by decide) _ Q _ f4 _ _ h (fun y1 τ1 h => ?_)
  refine x_iconst (v := 0) hC dX0_valueBefore_31 (by decide) ?_
  exact x_iret hC hr dX0_valueBefore_32 (by decide) (by decide) ⟨rfl, _, rfl, h⟩
/-! PlantServer$History.isSampled -/
theorem dX0_isSampled_0 : decode cX0_isSampled 0 = .ok (.aload_n 1, 1) := by decide +kernel
theorem dX0_isSampled_1 : decode cX0_isSampled 1 = .ok (.getfield 48, 3) := by decide +kernel
theorem dX0_isSampled_4 : decode cX0_isSampled 4 = .ok (.getfield 52, 3) := by decide +kernel
theorem dX0_isSampled_7 : decode cX0_isSampled 7 = .ok (.istore 4, 2) := by decide +kernel
theorem dX0_isSampled_9 : decode cX0_isSampled 9 = .ok (.iload 4, 2) := by decide +kernel
theorem dX0_isSampled_11 : decode cX0_isSampled 11 = .ok (.iconst 1, 1) := by decide +kernel
theorem dX0_isSampled_12 : decode cX0_isSampled 12 = .ok (.if_icmp .ge 5, 3) := by decide +kernel
theorem dX0_isSampled_15 : decode cX0_isSampled 15 = .ok (.iconst 0, 1) := by decide +kernel
theorem dX0_isSampled_16 : decode cX0_isSampled 16 = .ok (.ireturn, 1) := by decide +kernel
theorem dX0_isSampled_17 : decode cX0_isSampled 17 = .ok (.iload_n 3, 1) := by decide +kernel
theorem dX0_isSampled_18 : decode cX0_isSampled 18 = .ok (.aload_n 1, 1) := by decide +kernel
theorem dX0_isSampled_19 : decode cX0_isSampled 19 = .ok (.getfield 37, 3) := by decide +kernel
theorem dX0_isSampled_22 : decode cX0_isSampled 22 = .ok (.isub, 1) := by decide +kernel
theorem dX0_isSampled_23 : decode cX0_isSampled 23 = .ok (.iload 4, 2) := by decide +kernel
theorem dX0_isSampled_25 : decode cX0_isSampled 25 = .ok (.idiv, 1) := by decide +kernel
theorem dX0_isSampled_26 : decode cX0_isSampled 26 = .ok (.iload_n 2, 1) := by decide +kernel
theorem dX0_isSampled_27 : decode cX0_isSampled 27 = .ok (.aload_n 1, 1) := by decide +kernel
theorem dX0_isSampled_28 : decode cX0_isSampled 28 = .ok (.getfield 37, 3) := by decide +kernel
theorem dX0_isSampled_31 : decode cX0_isSampled 31 = .ok (.isub, 1) := by decide +kernel
theorem dX0_isSampled_32 : decode cX0_isSampled 32 = .ok (.iload 4, 2) := by decide +kernel
theorem dX0_isSampled_34 : decode cX0_isSampled 34 = .ok (.idiv, 1) := by decide +kernel
theorem dX0_isSampled_35 : decode cX0_isSampled 35 = .ok (.if_icmp .le 7, 3) := by decide +kernel
theorem dX0_isSampled_38 : decode cX0_isSampled 38 = .ok (.iconst 1, 1) := by decide +kernel
theorem dX0_isSampled_39 : decode cX0_isSampled 39 = .ok (.goto 4, 3) := by decide +kernel
theorem dX0_isSampled_42 : decode cX0_isSampled 42 = .ok (.iconst 0, 1) := by decide +kernel
theorem dX0_isSampled_43 : decode cX0_isSampled 43 = .ok (.ireturn, 1) := by decide +kernel
abbrev rm0_isSampled : Room := { frames := 0, cells := 0, slots := 0, locals := 0 }
theorem hd0_isSampled : yX0_isSampled.cls ≠ "java/lang/invoke/MethodHandle" ∧ yX0_isSampled.cls ≠ "java/lang/invoke/VarHandle" ∧ (parseMethodDescriptor yX0_isSampled.desc).map (fun d => d.parameters.length) = some 3 := by decide +kernel
set_option maxHeartbeats 4000000 in
set_option maxRecDepth 20000 in
theorem m0_isSampled (l : Launch) (hl : l.stackTraces = false) (G : xG) (ρ : Nm → Nat) (this : Nm) (a1 : Nm) (p2 : Int32) (p3 : Int32) (σ : PH) (Q : Int32 → PH → Prop) (h : w0_isSampled this a1 p2 p3 σ Q) : xMet l yX0_isSampled (.code yX0_isSampled cX0_isSampled 5 (some .boolean)) rm0_isSampled G ρ σ [.ref (ρ this), .ref (ρ a1), .int p2, .int p3] (eI ρ Q) xNo := by
  refine xMet.of hl (by decide +kernel) (Nat.le_of_ble_eq_true rfl) (fun X hC hr hn htab h0 => ?_)
  have hC : xC G X "PlantServer$History" cX0_isSampled 5 rm0_isSampled := hC
  unfold w0_isSampled at h
  refine xJ.loc (L' := [(0, .ref (ρ this)), (1, .ref (ρ a1)), (2, .int p2), (3, .int p3)]) rfl ?_
  refine x_aload_n hC 1 rfl dX0_isSampled_0 ?_
  obtain ⟨k1, h⟩ := h
  refine x_getR (n0 := a1) hC (ci := 1) (T := TX1) (N := 12) (C := RX1) 4 k1 rfl rfl (by decide) rfl q352 dX0_isSampled_1 ?_
  obtain ⟨m1, hm1, h⟩ := h
  rw [show rv ρ (hR σ a1 4) = Value.ref (ρ m1) from by rw [hm1]; rfl]
  obtain ⟨k2, h⟩ := h
  refine x_getI (n0 := m1) hC (ci := 5) (T := TX5) (N := 2) (C := RX5) 0 k2 rfl rfl (by decide) rfl q199 dX0_isSampled_4 ?_
  refine x_istore (L' := [(4, .int (hI σ m1 0)), (0, .ref (ρ this)), (1, .ref (ρ a1)), (2, .int p2), (3, .int p3)]) hC dX0_isSampled_7 (by decide) (by first | rfl | simp (decide := true) [rv_cat, cat_ref, cat_int]) ?_
  refine x_iload hC 0 rfl dX0_isSampled_9 ?_
  refine x_iconst (v := 1) hC dX0_isSampled_11 (by decide) ?_
  refine x_icmp_ge (tgt := 17) hC dX0_isSampled_12 (by decide) (fun c1 => ?_) (fun c1 => ?_)
  · have h := h.1 c1
    refine x_iload_n hC 4 rfl dX0_isSampled_17 ?_
    refine x_aload_n hC 2 rfl dX0_isSampled_18 ?_
    refine x_getI (n0 := a1) hC (ci := 1) (T := TX1) (N := 12) (C := RX1) 10 k1 rfl rfl (by decide) rfl q366 dX0_isSampled_19 ?_
    refine x_isub hC dX0_isSampled_22 ?_
    refine x_iload hC 0 rfl dX0_isSampled_23 ?_
    obtain ⟨nz1, h⟩ := h
    refine x_idiv hC nz1 dX0_isSampled_25 ?_
    refine x_iload_n hC 3 rfl dX0_isSampled_26 ?_
    refine x_aload_n hC 2 rfl dX0_isSampled_27 ?_
    refine x_getI (n0 := a1) hC (ci := 1) (T := TX1) (N := 12) (C := RX1) 10 k1 rfl rfl (by decide) rfl q366 dX0_isSampled_28 ?_
    refine x_isub hC dX0_isSampled_31 ?_
    refine x_iload hC 0 rfl dX0_isSampled_32 ?_
    obtain ⟨nz2, h⟩ := h
    refine x_idiv hC nz2 dX0_isSampled_34 ?_
    refine x_icmp_le (tgt := 42) hC dX0_isSampled_35 (by decide) (fun c2 => ?_) (fun c2 => ?_)
    · have h := h.1 c2
      refine x_iconst (v := 0) hC dX0_isSampled_42 (by decide) ?_
      exact x_zret hC hr zb0 dX0_isSampled_43 (by decide) (by decide) ⟨rfl, _, rfl, h⟩
    · have h := h.2 c2
      refine x_iconst (v := 1) hC dX0_isSampled_38 (by decide) ?_
      refine x_goto (tgt := 43) hC dX0_isSampled_39 (by decide) ?_
      exact x_zret hC hr zb1 dX0_isSampled_43 (by decide) (by decide) ⟨rfl, _, rfl, h⟩
  · have h := h.2 c1
    refine x_iconst (v := 0) hC dX0_isSampled_15 (by decide) ?_
    exact x_zret hC hr zb0 dX0_isSampled_16 (by decide) (by decide) ⟨rfl, _, rfl, h⟩
/-! PlantServer$Item.leavesBand -/
theorem dX1_leavesBand_0 : decode cX1_leavesBand 0 = .ok (.iload_n 1, 1) := by decide +kernel
theorem dX1_leavesBand_1 : decode cX1_leavesBand 1 = .ok (.iload_n 2, 1) := by decide +kernel
theorem dX1_leavesBand_2 : decode cX1_leavesBand 2 = .ok (.isub, 1) := by decide +kernel
theorem dX1_leavesBand_3 : decode cX1_leavesBand 3 = .ok (.invokestatic 62, 3) := by decide +kernel
theorem dX1_leavesBand_6 : decode cX1_leavesBand 6 = .ok (.aload_n 0, 1) := by decide +kernel
theorem dX1_leavesBand_7 : decode cX1_leavesBand 7 = .ok (.getfield 39, 3) := by decide +kernel
theorem dX1_leavesBand_10 : decode cX1_leavesBand 10 = .ok (.if_icmp .le 7, 3) := by decide +kernel
theorem dX1_leavesBand_13 : decode cX1_leavesBand 13 = .ok (.iconst 1, 1) := by decide +kernel
theorem dX1_leavesBand_14 : decode cX1_leavesBand 14 = .ok (.goto 4, 3) := by decide +kernel
theorem dX1_leavesBand_17 : decode cX1_leavesBand 17 = .ok (.iconst 0, 1) := by decide +kernel
theorem dX1_leavesBand_18 : decode cX1_leavesBand 18 = .ok (.ireturn, 1) := by decide +kernel
abbrev rm1_leavesBand : Room := { frames := 1, cells := 0, slots := 0, locals := 21 }
theorem hd1_leavesBand : yX1_leavesBand.cls ≠ "java/lang/invoke/MethodHandle" ∧ yX1_leavesBand.cls ≠ "java/lang/invoke/VarHandle" ∧ (parseMethodDescriptor yX1_leavesBand.desc).map (fun d => d.parameters.length) = some 2 := by decide +kernel
set_option maxHeartbeats 4000000 in
set_option maxRecDepth 20000 in
theorem m1_leavesBand (l : Launch) (hl : l.stackTraces = false) (G : xG) (ρ : Nm → Nat) (this : Nm) (p1 : Int32) (p2 : Int32) (σ : PH) (Q : Int32 → PH → Prop) (h : w1_leavesBand this p1 p2 σ Q) : xMet l yX1_leavesBand (.code yX1_leavesBand cX1_leavesBand 3 (some .boolean)) rm1_leavesBand G ρ σ [.ref (ρ this), .int p1, .int p2] (eI ρ Q) xNo := by
  refine xMet.of hl (by decide +kernel) (Nat.le_of_ble_eq_true rfl) (fun X hC hr hn htab h0 => ?_)
  have hC : xC G X "PlantServer$Item" cX1_leavesBand 3 rm1_leavesBand := hC
  unfold w1_leavesBand at h
  refine xJ.loc (L' := [(0, .ref (ρ this)), (1, .int p1), (2, .int p2)]) rfl ?_
  refine x_iload_n hC 1 rfl dX1_leavesBand_0 ?_
  refine x_iload_n hC 2 rfl dX1_leavesBand_1 ?_
  refine x_isub hC dX1_leavesBand_2 ?_
  refine x_abs hC q523 q524 q9 q525 (by decide) (by first | exact Nat.le_of_ble_eq_true rfl | (simp [rv_cat]; done) | (simp (decide := true) [rv_cat, cat_ref, cat_int]; done)) (by decide) (by decide) dX1_leavesBand_3 ?_
  refine xJ.nmT (fun x1 ex1 => ?_)
  have h := h x1 ex1
  refine x_aload_n hC 0 rfl dX1_leavesBand_6 ?_
  obtain ⟨k1, h⟩ := h
  refine x_getI (n0 := this) hC (ci := 1) (T := TX1) (N := 12) (C := RX1) 3 k1 rfl rfl (by decide) rfl q350 dX1_leavesBand_7 ?_
  refine x_icmp_le (tgt := 17) hC dX1_leavesBand_10 (by decide) (fun c1 => ?_) (fun c1 => ?_)
  · have h := h.1 c1
    refine x_iconst (v := 0) hC dX1_leavesBand_17 (by decide) ?_
    exact x_zret hC hr zb0 dX1_leavesBand_18 (by decide) (by decide) ⟨rfl, _, rfl, h⟩
  · have h := h.2 c1
    refine x_iconst (v := 1) hC dX1_leavesBand_13 (by decide) ?_
    refine x_goto (tgt := 18) hC dX1_leavesBand_14 (by decide) ?_
    exact x_zret hC hr zb1 dX1_leavesBand_18 (by decide) (by decide) ⟨rfl, _, rfl, h⟩
/-! PlantServer$History.countQueued -/
theorem dX0_countQueued_0 : decode cX0_countQueued 0 = .ok (.aload_n 0, 1) := by decide +kernel
theorem dX0_countQueued_1 : decode cX0_countQueued 1 = .ok (.aload_n 1, 1) := by decide +kernel
theorem dX0_countQueued_2 : decode cX0_countQueued 2 = .ok (.getfield 25, 3) := by decide +kernel
theorem dX0_countQueued_5 : decode cX0_countQueued 5 = .ok (.aload_n 1, 1) := by decide +kernel
theorem dX0_countQueued_6 : decode cX0_countQueued 6 = .ok (.getfield 30, 3) := by decide +kernel
theorem dX0_countQueued_9 : decode cX0_countQueued 9 = .ok (.invokevirtual 33, 3) := by decide +kernel
theorem dX0_countQueued_12 : decode cX0_countQueued 12 = .ok (.istore_n 3, 1) := by decide +kernel
theorem dX0_countQueued_13 : decode cX0_countQueued 13 = .ok (.iload_n 3, 1) := by decide +kernel
theorem dX0_countQueued_14 : decode cX0_countQueued 14 = .ok (.istore 4, 2) := by decide +kernel
theorem dX0_countQueued_16 : decode cX0_countQueued 16 = .ok (.aload_n 1, 1) := by decide +kernel
theorem dX0_countQueued_17 : decode cX0_countQueued 17 = .ok (.getfield 37, 3) := by decide +kernel
theorem dX0_countQueued_20 : decode cX0_countQueued 20 = .ok (.istore 5, 2) := by decide +kernel
theorem dX0_countQueued_22 : decode cX0_countQueued 22 = .ok (.iconst 1, 1) := by decide +kernel
theorem dX0_countQueued_23 : decode cX0_countQueued 23 = .ok (.istore 6, 2) := by decide +kernel
theorem dX0_countQueued_25 : decode cX0_countQueued 25 = .ok (.aload_n 1, 1) := by decide +kernel
theorem dX0_countQueued_26 : decode cX0_countQueued 26 = .ok (.getfield 25, 3) := by decide +kernel
theorem dX0_countQueued_29 : decode cX0_countQueued 29 = .ok (.istore 7, 2) := by decide +kernel
theorem dX0_countQueued_31 : decode cX0_countQueued 31 = .ok (.iload 7, 2) := by decide +kernel
theorem dX0_countQueued_33 : decode cX0_countQueued 33 = .ok (.aload_n 0, 1) := by decide +kernel
theorem dX0_countQueued_34 : decode cX0_countQueued 34 = .ok (.getfield 21, 3) := by decide +kernel
theorem dX0_countQueued_37 : decode cX0_countQueued 37 = .ok (.if_icmp .ge 73, 3) := by decide +kernel
theorem dX0_countQueued_40 : decode cX0_countQueued 40 = .ok (.aload_n 0, 1) := by decide +kernel
theorem dX0_countQueued_41 : decode cX0_countQueued 41 = .ok (.getfield 15, 3) := by decide +kernel
theorem dX0_countQueued_44 : decode cX0_countQueued 44 = .ok (.iload 7, 2) := by decide +kernel
theorem dX0_countQueued_46 : decode cX0_countQueued 46 = .ok (.iaload, 1) := by decide +kernel
theorem dX0_countQueued_47 : decode cX0_countQueued 47 = .ok (.aload_n 1, 1) := by decide +kernel
theorem dX0_countQueued_48 : decode cX0_countQueued 48 = .ok (.getfield 30, 3) := by decide +kernel
theorem dX0_countQueued_51 : decode cX0_countQueued 51 = .ok (.if_icmp .ne 53, 3) := by decide +kernel
theorem dX0_countQueued_54 : decode cX0_countQueued 54 = .ok (.aload_n 0, 1) := by decide +kernel
theorem dX0_countQueued_55 : decode cX0_countQueued 55 = .ok (.aload_n 1, 1) := by decide +kernel
theorem dX0_countQueued_56 : decode cX0_countQueued 56 = .ok (.iload 5, 2) := by decide +kernel
theorem dX0_countQueued_58 : decode cX0_countQueued 58 = .ok (.aload_n 0, 1) := by decide +kernel
theorem dX0_countQueued_59 : decode cX0_countQueued 59 = .ok (.getfield 9, 3) := by decide +kernel
theorem dX0_countQueued_62 : decode cX0_countQueued 62 = .ok (.iload 7, 2) := by decide +kernel
theorem dX0_countQueued_64 : decode cX0_countQueued 64 = .ok (.iaload, 1) := by decide +kernel
theorem dX0_countQueued_65 : decode cX0_countQueued 65 = .ok (.invokevirtual 40, 3) := by decide +kernel
theorem dX0_countQueued_68 : decode cX0_countQueued 68 = .ok (.ifCond .eq 19, 3) := by decide +kernel
theorem dX0_countQueued_71 : decode cX0_countQueued 71 = .ok (.aload_n 1, 1) := by decide +kernel
theorem dX0_countQueued_72 : decode cX0_countQueued 72 = .ok (.iload_n 3, 1) := by decide +kernel
theorem dX0_countQueued_73 : decode cX0_countQueued 73 = .ok (.iload 4, 2) := by decide +kernel
theorem dX0_countQueued_75 : decode cX0_countQueued 75 = .ok (.invokevirtual 44, 3) := by decide +kernel
theorem dX0_countQueued_78 : decode cX0_countQueued 78 = .ok (.ifCond .eq 9, 3) := by decide +kernel
theorem dX0_countQueued_81 : decode cX0_countQueued 81 = .ok (.iinc 6 1, 3) := by decide +kernel
theorem dX0_countQueued_84 : decode cX0_countQueued 84 = .ok (.iload_n 3, 1) := by decide +kernel
theorem dX0_countQueued_85 : decode cX0_countQueued 85 = .ok (.istore 4, 2) := by decide +kernel
theorem dX0_countQueued_87 : decode cX0_countQueued 87 = .ok (.aload_n 0, 1) := by decide +kernel
theorem dX0_countQueued_88 : decode cX0_countQueued 88 = .ok (.getfield 18, 3) := by decide +kernel
theorem dX0_countQueued_91 : decode cX0_countQueued 91 = .ok (.iload 7, 2) := by decide +kernel
theorem dX0_countQueued_93 : decode cX0_countQueued 93 = .ok (.iaload, 1) := by decide +kernel
theorem dX0_countQueued_94 : decode cX0_countQueued 94 = .ok (.istore_n 3, 1) := by decide +kernel
theorem dX0_countQueued_95 : decode cX0_countQueued 95 = .ok (.aload_n 0, 1) := by decide +kernel
theorem dX0_countQueued_96 : decode cX0_countQueued 96 = .ok (.getfield 9, 3) := by decide +kernel
theorem dX0_countQueued_99 : decode cX0_countQueued 99 = .ok (.iload 7, 2) := by decide +kernel
theorem dX0_countQueued_101 : decode cX0_countQueued 101 = .ok (.iaload, 1) := by decide +kernel
theorem dX0_countQueued_102 : decode cX0_countQueued 102 = .ok (.istore 5, 2) := by decide +kernel
theorem dX0_countQueued_104 : decode cX0_countQueued 104 = .ok (.iinc 7 1, 3) := by decide +kernel
theorem dX0_countQueued_107 : decode cX0_countQueued 107 = .ok (.goto (-76), 3) := by decide +kernel
theorem dX0_countQueued_110 : decode cX0_countQueued 110 = .ok (.aload_n 0, 1) := by decide +kernel
theorem dX0_countQueued_111 : decode cX0_countQueued 111 = .ok (.aload_n 1, 1) := by decide +kernel
theorem dX0_countQueued_112 : decode cX0_countQueued 112 = .ok (.iload 5, 2) := by decide +kernel
theorem dX0_countQueued_114 : decode cX0_countQueued 114 = .ok (.iload_n 2, 1) := by decide +kernel
theorem dX0_countQueued_115 : decode cX0_countQueued 115 = .ok (.invokevirtual 40, 3) := by decide +kernel
theorem dX0_countQueued_118 : decode cX0_countQueued 118 = .ok (.ifCond .eq 16, 3) := by decide +kernel
theorem dX0_countQueued_121 : decode cX0_countQueued 121 = .ok (.aload_n 1, 1) := by decide +kernel
theorem dX0_countQueued_122 : decode cX0_countQueued 122 = .ok (.iload_n 3, 1) := by decide +kernel
theorem dX0_countQueued_123 : decode cX0_countQueued 123 = .ok (.iload 4, 2) := by decide +kernel
theorem dX0_countQueued_125 : decode cX0_countQueued 125 = .ok (.invokevirtual 44, 3) := by decide +kernel
theorem dX0_countQueued_128 : decode cX0_countQueued 128 = .ok (.ifCond .eq 6, 3) := by decide +kernel
theorem dX0_countQueued_131 : decode cX0_countQueued 131 = .ok (.iinc 6 1, 3) := by decide +kernel
theorem dX0_countQueued_134 : decode cX0_countQueued 134 = .ok (.iload 6, 2) := by decide +kernel
theorem dX0_countQueued_136 : decode cX0_countQueued 136 = .ok (.ireturn, 1) := by decide +kernel
abbrev rm0_countQueued : Room := { frames := 2, cells := 0, slots := 0, locals := 43 }
theorem hd0_countQueued : yX0_countQueued.cls ≠ "java/lang/invoke/MethodHandle" ∧ yX0_countQueued.cls ≠ "java/lang/invoke/VarHandle" ∧ (parseMethodDescriptor yX0_countQueued.desc).map (fun d => d.parameters.length) = some 2 := by decide +kernel
set_option maxHeartbeats 4000000 in
set_option maxRecDepth 20000 in
theorem ml0_countQueued_31 {G : xG} {X : xX} (hC : xC G X "PlantServer$History" cX0_countQueued 8 rm0_countQueued) (hr : xRt X (some .int)) (htab : xTab X []) (this : Nm) (a1 : Nm) (p2 : Int32) (r1 : Int32) (σ1 : PH) {ρ : Nm → Nat} (h0 : xR0 X ρ) (k n : Nat) (hk1 : k ≤ 0) (hk2 : n ≤ 0) (K : Int32 → Int32 → Int32 → Int32 → Int32 → PH → Prop) (Q : Int32 → PH → Prop) (Xp : String → PH → Prop) : ∀ (f31 : Nat) (x31_3 : Int32) (x31_4 : Int32) (x31_5 : Int32) (x31_6 : Int32) (x31_7 : Int32) (τ31 : PH), l0_countQueued_31 this a1 p2 r1 σ1 K Q f31 x31_3 x31_4 x31_5 x31_6 x31_7 τ31 → (∀ (x31_3 : Int32) (x31_4 : Int32) (x31_5 : Int32) (x31_6 : Int32) (x31_7 : Int32) (τ31 : PH), K x31_3 x31_4 x31_5 x31_6 x31_7 τ31 → xJ G X (xT X (eI ρ Q) Xp G rm0_countQueued) 8 ρ τ31 k n 110 [(0, .ref (ρ this)), (1, .ref (ρ a1)), (2, .int p2), (3, .int x31_3), (4, .int x31_4), (5, .int x31_5), (6, .int x31_6), (7, .int x31_7)] []) → xJ G X (xT X (eI ρ Q) Xp G rm0_countQueued) 8 ρ τ31 k n 31 [(0, .ref (ρ this)), (1, .ref (ρ a1)), (2, .int p2), (3, .int x31_3), (4, .int x31_4), (5, .int x31_5), (6, .int x31_6), (7, .int x31_7)] [] := by
  intro f31
  induction f31 with
  | zero => intro x31_3 x31_4 x31_5 x31_6 x31_7 τ31 h hKK; unfold l0_countQueued_31 at h; exact h.elim
  | succ f31 ih =>
    intro x31_3 x31_4 x31_5 x31_6 x31_7 τ31 h hKK
    unfold l0_countQueued_31 at h
    refine x_iload hC 7 rfl dX0_countQueued_31 ?_
    refine x_aload_n hC 0 rfl dX0_countQueued_33 ?_
    obtain ⟨k4, h⟩ := h
    refine x_getI (n0 := this) hC (ci := 0) (T := TX0) (N := 4) (C := RX0) 3 k4 rfl rfl (by decide) rfl q37 dX0_countQueued_34 ?_
    refine x_icmp_ge (tgt := 110) hC dX0_countQueued_37 (by decide) (fun c1 => ?_) (fun c1 => ?_)
    · have h := h.1 c1
      exact hKK _ _ _ _ _ _ h
    · have h := h.2 c1
      refine x_aload_n hC 0 rfl dX0_countQueued_40 ?_
      refine x_getR (n0 := this) hC (ci := 0) (T := TX0) (N := 4) (C := RX0) 1 k4 rfl rfl (by decide) rfl q35 dX0_countQueued_41 ?_
      refine x_iload hC 7 rfl dX0_countQueued_44 ?_
      obtain ⟨m1, hm1, h⟩ := h
      rw [show rv ρ (hR τ31 this 1) = Value.ref (ρ m1) from by rw [hm1]; rfl]
      obtain ⟨k5, h⟩ := h
      obtain ⟨v2, h⟩ := h
      refine x_iald (a := m1) hC k5 v2 dX0_countQueued_46 ?_
      refine x_aload_n hC 1 rfl dX0_countQueued_47 ?_
      obtain ⟨k6, h⟩ := h
      refine x_getI (n0 := a1) hC (ci := 1) (T := TX1) (N := 12) (C := RX1) 2 k6 rfl rfl (by decide) rfl q348 dX0_countQueued_48 ?_
      refine x_icmp_ne (tgt := 104) hC dX0_countQueued_51 (by decide) (fun c2 => ?_) (fun c2 => ?_)
      · have h := h.1 c2
        refine x_iinc (v' := x31_7 + 1) (L' := [(7, .int (x31_7 + 1)), (0, .ref (ρ this)), (1, .ref (ρ a1)), (2, .int p2), (3, .int x31_3), (4, .int x31_4), (5, .int x31_5), (6, .int x31_6)]) hC 7 rfl dX0_countQueued_104 rfl (by decide) (by first | rfl | simp (decide := true) [rv_cat, cat_ref, cat_int]) ?_
        refine x_goto (tgt := 31) hC dX0_countQueued_107 (by decide) ?_
        refine xJ.sub (L' := [(0, .ref (ρ this)), (1, .ref (ρ a1)), (2, .int p2), (3, .int x31_3), (4, .int x31_4), (5, .int x31_5), (6, .int x31_6), (7, .int (x31_7 + 1))]) [1, 2, 3, 4, 5, 6, 7, 0] rfl ?_
        exact ih _ _ _ _ _ _ h hKK
      · have h := h.2 c2
        refine x_aload_n hC 0 rfl dX0_countQueued_54 ?_
        refine x_aload_n hC 1 rfl dX0_countQueued_55 ?_
        refine x_iload hC 5 rfl dX0_countQueued_56 ?_
        refine x_aload_n hC 0 rfl dX0_countQueued_58 ?_
        refine x_getR (n0 := this) hC (ci := 0) (T := TX0) (N := 4) (C := RX0) 0 k4 rfl rfl (by decide) rfl q34 dX0_countQueued_59 ?_
        refine x_iload hC 7 rfl dX0_countQueued_62 ?_
        obtain ⟨m2, hm2, h⟩ := h
        rw [show rv ρ (hR τ31 this 0) = Value.ref (ρ m2) from by rw [hm2]; rfl]
        obtain ⟨k7, h⟩ := h
        obtain ⟨v3, h⟩ := h
        refine x_iald (a := m2) hC k7 v3 dX0_countQueued_64 ?_
        refine x_callV (n0 := this) (as := [.ref (ρ a1), .int x31_5, .int (hI τ31 m2 (Int32.toNatClampNeg x31_7))]) (rest := []) hC (ci := 0) (r := (RX0, TX0, 4)) k4 rfl (fun l hl => m0_isSampled l hl G ρ this a1 x31_5 (hI τ31 m2 (Int32.toNatClampNeg x31_7)) τ31 _ h) q699 q701 s13 q2 q702 ⟨rfl, hd0_isSampled⟩ (by decide) ⟨(show _ + 0 ≤ 0 by omega), (show _ + 0 ≤ 0 by omega)⟩ (by first | exact Nat.le_of_ble_eq_true rfl | (simp [rv_cat]; done) | (simp (decide := true) [rv_cat, cat_ref, cat_int]; done)) rfl dX0_countQueued_65 (fun E σ9 hx => False.elim hx) (fun v4 σ2 ρ2 hp2 hag2 => ?_)
        obtain ⟨e9, r2, e8, h⟩ := hp2
        rw [e8, e9]
        refine xJ.nrm (k' := k + 0) (n' := n + 0) (pc' := 68) (st' := [.int r2]) rfl rfl rfl rfl ?_
        refine x_if_eq (tgt := 87) hC dX0_countQueued_68 (by decide) (fun c3 => ?_) (fun c3 => ?_)
        · have h := h.1 c3
          refine x_aload_n hC 0 rfl dX0_countQueued_87 ?_
          have k8 : hK σ2 this = 1 := (hag2 this (by rw [k4]; decide)).1.trans k4
          refine x_getR (n0 := this) hC (ci := 0) (T := TX0) (N := 4) (C := RX0) 2 k8 rfl rfl (by decide) rfl q36 dX0_countQueued_88 ?_
          refine x_iload hC 7 rfl dX0_countQueued_91 ?_
          obtain ⟨m3, hm3, h⟩ := h
          rw [show rv ρ (hR σ2 this 2) = Value.ref (ρ m3) from by rw [hm3]; rfl]
          obtain ⟨k9, h⟩ := h
          obtain ⟨v5, h⟩ := h
          refine x_iald (a := m3) hC k9 v5 dX0_countQueued_93 ?_
          refine x_istore_n (L' := [(3, .int (hI σ2 m3 (Int32.toNatClampNeg x31_7))), (0, .ref (ρ this)), (1, .ref (ρ a1)), (2, .int p2), (4, .int x31_4), (5, .int x31_5), (6, .int x31_6), (7, .int x31_7)]) hC dX0_countQueued_94 (by decide) (by first | rfl | simp (decide := true) [rv_cat, cat_ref, cat_int]) ?_
          refine x_aload_n hC 1 rfl dX0_countQueued_95 ?_
          refine x_getR (n0 := this) hC (ci := 0) (T := TX0) (N := 4) (C := RX0) 0 k8 rfl rfl (by decide) rfl q34 dX0_countQueued_96 ?_
          refine x_iload hC 7 rfl dX0_countQueued_99 ?_
          obtain ⟨m4, hm4, h⟩ := h
          rw [show rv ρ (hR σ2 this 0) = Value.ref (ρ m4) from by rw [hm4]; rfl]
          obtain ⟨k10, h⟩ := h
          obtain ⟨v6, h⟩ := h
          refine x_iald (a := m4) hC k10 v6 dX0_countQueued_101 ?_
          refine x_istore (L' := [(5, .int (hI σ2 m4 (Int32.toNatClampNeg x31_7))), (3, .int (hI σ2 m3 (Int32.toNatClampNeg x31_7))), (0, .ref (ρ this)), (1, .ref (ρ a1)), (2, .int p2), (4, .int x31_4), (6, .int x31_6), (7, .int x31_7)]) hC dX0_countQueued_102 (by decide) (by first | rfl | simp (decide := true) [rv_cat, cat_ref, cat_int]) ?_
          refine x_iinc (v' := x31_7 + 1) (L' := [(7, .int (x31_7 + 1)), (5, .int (hI σ2 m4 (Int32.toNatClampNeg x31_7))), (3, .int (hI σ2 m3 (Int32.toNatClampNeg x31_7))), (0, .ref (ρ this)), (1, .ref (ρ a1)), (2, .int p2), (4, .int x31_4), (6, .int x31_6)]) hC 7 rfl dX0_countQueued_104 rfl (by decide) (by first | rfl | simp (decide := true) [rv_cat, cat_ref, cat_int]) ?_
          refine x_goto (tgt := 31) hC dX0_countQueued_107 (by decide) ?_
          refine xJ.sub (L' := [(0, .ref (ρ this)), (1, .ref (ρ a1)), (2, .int p2), (3, .int (hI σ2 m3 (Int32.toNatClampNeg x31_7))), (4, .int x31_4), (5, .int (hI σ2 m4 (Int32.toNatClampNeg x31_7))), (6, .int x31_6), (7, .int (x31_7 + 1))]) [3, 4, 5, 2, 6, 1, 7, 0] rfl ?_
          exact ih _ _ _ _ _ _ h hKK
        · have h := h.2 c3
          refine x_aload_n hC 1 rfl dX0_countQueued_71 ?_
          refine x_iload_n hC 3 rfl dX0_countQueued_72 ?_
          refine x_iload hC 4 rfl dX0_countQueued_73 ?_
          have k11 : hK σ2 a1 = 2 := (hag2 a1 (by rw [k6]; decide)).1.trans k6
          refine x_callV (n0 := a1) (as := [.int x31_3, .int x31_4]) (rest := []) hC (ci := 1) (r := (RX1, TX1, 12)) k11 rfl (fun l hl => m1_leavesBand l hl G ρ a1 x31_3 x31_4 σ2 _ h) q703 q520 q521 q13 q522 ⟨rfl, hd1_leavesBand⟩ (by decide) ⟨(show _ + 0 ≤ 0 by omega), (show _ + 0 ≤ 0 by omega)⟩ (by first | exact Nat.le_of_ble_eq_true rfl | (simp [rv_cat]; done) | (simp (decide := true) [rv_cat, cat_ref, cat_int]; done)) rfl dX0_countQueued_75 (fun E σ9 hx => False.elim hx) (fun v7 σ3 ρ3 hp3 hag3 => ?_)
          obtain ⟨e9, r3, e8, h⟩ := hp3
          rw [e8, e9]
          refine xJ.nrm (k' := k + 0) (n' := n + 0) (pc' := 78) (st' := [.int r3]) rfl rfl rfl rfl ?_
          refine x_if_eq (tgt := 87) hC dX0_countQueued_78 (by decide) (fun c4 => ?_) (fun c4 => ?_)
          · have h := h.1 c4
            refine x_aload_n hC 0 rfl dX0_countQueued_87 ?_
            have k12 : hK σ2 this = 1 := (hag2 this (by rw [k4]; decide)).1.trans k4
            have k13 : hK σ3 this = 1 := (hag3 this (by rw [k12]; decide)).1.trans k12
            refine x_getR (n0 := this) hC (ci := 0) (T := TX0) (N := 4) (C := RX0) 2 k13 rfl rfl (by decide) rfl q36 dX0_countQueued_88 ?_
            refine x_iload hC 7 rfl dX0_countQueued_91 ?_
            obtain ⟨m5, hm5, h⟩ := h
            rw [show rv ρ (hR σ3 this 2) = Value.ref (ρ m5) from by rw [hm5]; rfl]
            obtain ⟨k14, h⟩ := h
            obtain ⟨v8, h⟩ := h
            refine x_iald (a := m5) hC k14 v8 dX0_countQueued_93 ?_
            refine x_istore_n (L' := [(3, .int (hI σ3 m5 (Int32.toNatClampNeg x31_7))), (0, .ref (ρ this)), (1, .ref (ρ a1)), (2, .int p2), (4, .int x31_4), (5, .int x31_5), (6, .int x31_6), (7, .int x31_7)]) hC dX0_countQueued_94 (by decide) (by first | rfl | simp (decide := true) [rv_cat, cat_ref, cat_int]) ?_
            refine x_aload_n hC 1 rfl dX0_countQueued_95 ?_
            refine x_getR (n0 := this) hC (ci := 0) (T := TX0) (N := 4) (C := RX0) 0 k13 rfl rfl (by decide) rfl q34 dX0_countQueued_96 ?_
            refine x_iload hC 7 rfl dX0_countQueued_99 ?_
            obtain ⟨m6, hm6, h⟩ := h
            rw [show rv ρ (hR σ3 this 0) = Value.ref (ρ m6) from by rw [hm6]; rfl]
            obtain ⟨k15, h⟩ := h
            obtain ⟨v9, h⟩ := h
            refine x_iald (a := m6) hC k15 v9 dX0_countQueued_101 ?_
            refine x_istore (L' := [(5, .int (hI σ3 m6 (Int32.toNatClampNeg x31_7))), (3, .int (hI σ3 m5 (Int32.toNatClampNeg x31_7))), (0, .ref (ρ this)), (1, .ref (ρ a1)), (2, .int p2), (4, .int x31_4), (6, .int x31_6), (7, .int x31_7)]) hC dX0_countQueued_102 (by decide) (by first | rfl | simp (decide := true) [rv_cat, cat_ref, cat_int]) ?_
            refine x_iinc (v' := x31_7 + 1) (L' := [(7, .int (x31_7 + 1)), (5, .int (hI σ3 m6 (Int32.toNatClampNeg x31_7))), (3, .int (hI σ3 m5 (Int32.toNatClampNeg x31_7))), (0, .ref (ρ this)), (1, .ref (ρ a1)), (2, .int p2), (4, .int x31_4), (6, .int x31_6)]) hC 7 rfl dX0_countQueued_104 rfl (by decide) (by first | rfl | simp (decide := true) [rv_cat, cat_ref, cat_int]) ?_
            refine x_goto (tgt := 31) hC dX0_countQueued_107 (by decide) ?_
            refine xJ.sub (L' := [(0, .ref (ρ this)), (1, .ref (ρ a1)), (2, .int p2), (3, .int (hI σ3 m5 (Int32.toNatClampNeg x31_7))), (4, .int x31_4), (5, .int (hI σ3 m6 (Int32.toNatClampNeg x31_7))), (6, .int x31_6), (7, .int (x31_7 + 1))]) [3, 4, 5, 2, 6, 1, 7, 0] rfl ?_
            exact ih _ _ _ _ _ _ h hKK
          · have h := h.2 c4
            refine x_iinc (v' := x31_6 + 1) (L' := [(6, .int (x31_6 + 1)), (0, .ref (ρ this)), (1, .ref (ρ a1)), (2, .int p2), (3, .int x31_3), (4, .int x31_4), (5, .int x31_5), (7, .int x31_7)]) hC 6 rfl dX0_countQueued_81 rfl (by decide) (by first | rfl | simp (decide := true) [rv_cat, cat_ref, cat_int]) ?_
            refine x_iload_n hC 4 rfl dX0_countQueued_84 ?_
            refine x_istore (L' := [(4, .int x31_3), (6, .int (x31_6 + 1)), (0, .ref (ρ this)), (1, .ref (ρ a1)), (2, .int p2), (3, .int x31_3), (5, .int x31_5), (7, .int x31_7)]) hC dX0_countQueued_85 (by decide) (by first | rfl | simp (decide := true) [rv_cat, cat_ref, cat_int]) ?_
            refine x_aload_n hC 2 rfl dX0_countQueued_87 ?_
            have k16 : hK σ2 this = 1 := (hag2 this (by rw [k4]; decide)).1.trans k4
            have k17 : hK σ3 this = 1 := (hag3 this (by rw [k16]; decide)).1.trans k16
            refine x_getR (n0 := this) hC (ci := 0) (T := TX0) (N := 4) (C := RX0) 2 k17 rfl rfl (by decide) rfl q36 dX0_countQueued_88 ?_
            refine x_iload hC 7 rfl dX0_countQueued_91 ?_
            obtain ⟨m7, hm7, h⟩ := h
            rw [show rv ρ (hR σ3 this 2) = Value.ref (ρ m7) from by rw [hm7]; rfl]
            obtain ⟨k18, h⟩ := h
            obtain ⟨v10, h⟩ := h
            refine x_iald (a := m7) hC k18 v10 dX0_countQueued_93 ?_
            refine x_istore_n (L' := [(3, .int (hI σ3 m7 (Int32.toNatClampNeg x31_7))), (4, .int x31_3), (6, .int (x31_6 + 1)), (0, .ref (ρ this)), (1, .ref (ρ a1)), (2, .int p2), (5, .int x31_5), (7, .int x31_7)]) hC dX0_countQueued_94 (by decide) (by first | rfl | simp (decide := true) [rv_cat, cat_ref, cat_int]) ?_
            refine x_aload_n hC 3 rfl dX0_countQueued_95 ?_
            refine x_getR (n0 := this) hC (ci := 0) (T := TX0) (N := 4) (C := RX0) 0 k17 rfl rfl (by decide) rfl q34 dX0_countQueued_96 ?_
            refine x_iload hC 7 rfl dX0_countQueued_99 ?_
            obtain ⟨m8, hm8, h⟩ := h
            rw [show rv ρ (hR σ3 this 0) = Value.ref (ρ m8) from by rw [hm8]; rfl]
            obtain ⟨k19, h⟩ := h
            obtain ⟨v11, h⟩ := h
            refine x_iald (a := m8) hC k19 v11 dX0_countQueued_101 ?_
            refine x_istore (L' := [(5, .int (hI σ3 m8 (Int32.toNatClampNeg x31_7))), (3, .int (hI σ3 m7 (Int32.toNatClampNeg x31_7))), (4, .int x31_3), (6, .int (x31_6 + 1)), (0, .ref (ρ this)), (1, .ref (ρ a1)), (2, .int p2), (7, .int x31_7)]) hC dX0_countQueued_102 (by decide) (by first | rfl | simp (decide := true) [rv_cat, cat_ref, cat_int]) ?_
            refine x_iinc (v' := x31_7 + 1) (L' := [(7, .int (x31_7 + 1)), (5, .int (hI σ3 m8 (Int32.toNatClampNeg x31_7))), (3, .int (hI σ3 m7 (Int32.toNatClampNeg x31_7))), (4, .int x31_3), (6, .int (x31_6 + 1)), (0, .ref (ρ this)), (1, .ref (ρ a1)), (2, .int p2)]) hC 7 rfl dX0_countQueued_104 rfl (by decide) (by first | rfl | simp (decide := true) [rv_cat, cat_ref, cat_int]) ?_
            refine x_goto (tgt := 31) hC dX0_countQueued_107 (by decide) ?_
            refine xJ.sub (L' := [(0, .ref (ρ this)), (1, .ref (ρ a1)), (2, .int p2), (3, .int (hI σ3 m7 (Int32.toNatClampNeg x31_7))), (4, .int x31_3), (5, .int (hI σ3 m8 (Int32.toNatClampNeg x31_7))), (6, .int (x31_6 + 1)), (7, .int (x31_7 + 1))]) [5, 6, 7, 2, 3, 1, 4, 0] rfl ?_
            exact ih _ _ _ _ _ _ h hKK
set_option maxHeartbeats 4000000 in
set_option maxRecDepth 20000 in
theorem m0_countQueued (l : Launch) (hl : l.stackTraces = false) (G : xG) (ρ : Nm → Nat) (this : Nm) (a1 : Nm) (p2 : Int32) (σ : PH) (Q : Int32 → PH → Prop) (h : w0_countQueued this a1 p2 σ Q) : xMet l yX0_countQueued (.code yX0_countQueued cX0_countQueued 8 (some .int)) rm0_countQueued G ρ σ [.ref (ρ this), .ref (ρ a1), .int p2] (eI ρ Q) xNo := by
  refine xMet.of hl (by decide +kernel) (Nat.le_of_ble_eq_true rfl) (fun X hC hr hn htab h0 => ?_)
  have hC : xC G X "PlantServer$History" cX0_countQueued 8 rm0_countQueued := hC
  unfold w0_countQueued at h
  refine xJ.loc (L' := [(0, .ref (ρ this)), (1, .ref (ρ a1)), (2, .int p2)]) rfl ?_
  refine x_aload_n hC 0 rfl dX0_countQueued_0 ?_
  refine x_aload_n hC 1 rfl dX0_countQueued_1 ?_
  obtain ⟨k1, h⟩ := h
  refine x_getI (n0 := a1) hC (ci := 1) (T := TX1) (N := 12) (C := RX1) 11 k1 rfl rfl (by decide) rfl q368 dX0_countQueued_2 ?_
  refine x_aload_n hC 1 rfl dX0_countQueued_5 ?_
  refine x_getI (n0 := a1) hC (ci := 1) (T := TX1) (N := 12) (C := RX1) 2 k1 rfl rfl (by decide) rfl q348 dX0_countQueued_6 ?_
  obtain ⟨k2, h⟩ := h
  refine x_callV (n0 := this) (as := [.int (hI σ a1 11), .int (hI σ a1 2)]) (rest := []) hC (ci := 0) (r := (RX0, TX0, 4)) k2 rfl (fun l hl => m0_valueBefore l hl G ρ this (hI σ a1 11) (hI σ a1 2) σ _ h) q695 q697 s12 q2 q698 ⟨rfl, hd0_valueBefore⟩ (by decide) ⟨(by decide), (by decide)⟩ (by first | exact Nat.le_of_ble_eq_true rfl | (simp [rv_cat]; done) | (simp (decide := true) [rv_cat, cat_ref, cat_int]; done)) rfl dX0_countQueued_9 (fun E σ9 hx => False.elim hx) (fun v1 σ1 ρ1 hp1 hag1 => ?_)
  obtain ⟨e9, r1, e8, h⟩ := hp1
  rw [e8, e9]
  refine xJ.nrm (k' := 0) (n' := 0) (pc' := 12) (st' := [.int r1]) rfl rfl rfl rfl ?_
  refine x_istore_n (L' := [(3, .int r1), (0, .ref (ρ this)), (1, .ref (ρ a1)), (2, .int p2)]) hC dX0_countQueued_12 (by decide) (by first | rfl | simp (decide := true) [rv_cat, cat_ref, cat_int]) ?_
  refine x_iload_n hC 0 rfl dX0_countQueued_13 ?_
  refine x_istore (L' := [(4, .int r1), (3, .int r1), (0, .ref (ρ this)), (1, .ref (ρ a1)), (2, .int p2)]) hC dX0_countQueued_14 (by decide) (by first | rfl | simp (decide := true) [rv_cat, cat_ref, cat_int]) ?_
  refine x_aload_n hC 3 rfl dX0_countQueued_16 ?_
  have k3 : hK σ1 a1 = 2 := (hag1 a1 (by rw [k1]; decide)).1.trans k1
  refine x_getI (n0 := a1) hC (ci := 1) (T := TX1) (N := 12) (C := RX1) 10 k3 rfl rfl (by decide) rfl q366 dX0_countQueued_17 ?_
  refine x_istore (L' := [(5, .int (hI σ1 a1 10)), (4, .int r1), (3, .int r1), (0, .ref (ρ this)), (1, .ref (ρ a1)), (2, .int p2)]) hC dX0_countQueued_20 (by decide) (by first | rfl | simp (decide := true) [rv_cat, cat_ref, cat_int]) ?_
  refine x_iconst (v := 1) hC dX0_countQueued_22 (by decide) ?_
  refine x_istore (L' := [(6, .int 1), (5, .int (hI σ1 a1 10)), (4, .int r1), (3, .int r1), (0, .ref (ρ this)), (1, .ref (ρ a1)), (2, .int p2)]) hC dX0_countQueued_23 (by decide) (by first | rfl | simp (decide := true) [rv_cat, cat_ref, cat_int]) ?_
  refine x_aload_n hC 5 rfl dX0_countQueued_25 ?_
  refine x_getI (n0 := a1) hC (ci := 1) (T := TX1) (N := 12) (C := RX1) 11 k3 rfl rfl (by decide) rfl q368 dX0_countQueued_26 ?_
  refine x_istore (L' := [(7, .int (hI σ1 a1 11)), (6, .int 1), (5, .int (hI σ1 a1 10)), (4, .int r1), (3, .int r1), (0, .ref (ρ this)), (1, .ref (ρ a1)), (2, .int p2)]) hC dX0_countQueued_29 (by decide) (by first | rfl | simp (decide := true) [rv_cat, cat_ref, cat_int]) ?_
  refine xJ.sub (L' := [(0, .ref (ρ this)), (1, .ref (ρ a1)), (2, .int p2), (3, .int r1), (4, .int r1), (5, .int (hI σ1 a1 10)), (6, .int 1), (7, .int (hI σ1 a1 11))]) [5, 6, 7, 4, 3, 2, 1, 0] rfl ?_
  obtain ⟨f31, h⟩ := h
  refine ml0_countQueued_31 hC hr htab this a1 p2 r1 σ1 h0 (0) (0) (by decide) (by decide) _ Q _ f31 _ _ _ _ _ _ h (fun y1 y2 y3 y4 y5 τ1 h => ?_)
  refine x_aload_n hC 0 rfl dX0_countQueued_110 ?_
  refine x_aload_n hC 1 rfl dX0_countQueued_111 ?_
  refine x_iload hC 5 rfl dX0_countQueued_112 ?_
  refine x_iload_n hC 2 rfl dX0_countQueued_114 ?_
  obtain ⟨k20, h⟩ := h
  refine x_callV (n0 := this) (as := [.ref (ρ a1), .int y3, .int p2]) (rest := []) hC (ci := 0) (r := (RX0, TX0, 4)) k20 rfl (fun l hl => m0_isSampled l hl G ρ this a1 y3 p2 τ1 _ h) q699 q701 s13 q2 q702 ⟨rfl, hd0_isSampled⟩ (by decide) ⟨(by decide), (by decide)⟩ (by first | exact Nat.le_of_ble_eq_true rfl | (simp [rv_cat]; done) | (simp (decide := true) [rv_cat, cat_ref, cat_int]; done)) rfl dX0_countQueued_115 (fun E σ9 hx => False.elim hx) (fun v12 σ4 ρ4 hp4 hag4 => ?_)
  obtain ⟨e9, r4, e8, h⟩ := hp4
  rw [e8, e9]
  refine xJ.nrm (k' := 0) (n' := 0) (pc' := 118) (st' := [.int r4]) rfl rfl rfl rfl ?_
  refine x_if_eq (tgt := 134) hC dX0_countQueued_118 (by decide) (fun c5 => ?_) (fun c5 => ?_)
  · have h := h.1 c5
    refine x_iload hC 6 rfl dX0_countQueued_134 ?_
    exact x_iret hC hr dX0_countQueued_136 (by decide) (by decide) ⟨rfl, _, rfl, h⟩
  · have h := h.2 c5
    refine x_aload_n hC 1 rfl dX0_countQueued_121 ?_
    refine x_iload_n hC 3 rfl dX0_countQueued_122 ?_
    refine x_iload hC 4 rfl dX0_countQueued_123 ?_
    obtain ⟨k21, h⟩ := h
    refine x_callV (n0 := a1) (as := [.int y1, .int y2]) (rest := []) hC (ci := 1) (r := (RX1, TX1, 12)) k21 rfl (fun l hl => m1_leavesBand l hl G ρ a1 y1 y2 σ4 _ h) q703 q520 q521 q13 q522 ⟨rfl, hd1_leavesBand⟩ (by decide) ⟨(by decide), (by decide)⟩ (by first | exact Nat.le_of_ble_eq_true rfl | (simp [rv_cat]; done) | (simp (decide := true) [rv_cat, cat_ref, cat_int]; done)) rfl dX0_countQueued_125 (fun E σ9 hx => False.elim hx) (fun v13 σ5 ρ5 hp5 hag5 => ?_)
    obtain ⟨e9, r5, e8, h⟩ := hp5
    rw [e8, e9]
    refine xJ.nrm (k' := 0) (n' := 0) (pc' := 128) (st' := [.int r5]) rfl rfl rfl rfl ?_
    refine x_if_eq (tgt := 134) hC dX0_countQueued_128 (by decide) (fun c6 => ?_) (fun c6 => ?_)
    · have h := h.1 c6
      refine x_iload hC 6 rfl dX0_countQueued_134 ?_
      exact x_iret hC hr dX0_countQueued_136 (by decide) (by decide) ⟨rfl, _, rfl, h⟩
    · have h := h.2 c6
      refine x_iinc (v' := y4 + 1) (L' := [(6, .int (y4 + 1)), (0, .ref (ρ this)), (1, .ref (ρ a1)), (2, .int p2), (3, .int y1), (4, .int y2), (5, .int y3), (7, .int y5)]) hC 6 rfl dX0_countQueued_131 rfl (by decide) (by first | rfl | simp (decide := true) [rv_cat, cat_ref, cat_int]) ?_
      refine x_iload hC 0 rfl dX0_countQueued_134 ?_
      exact x_iret hC hr dX0_countQueued_136 (by decide) (by decide) ⟨rfl, _, rfl, h⟩
/-! PlantServer.queuedByHistory -/
theorem dX6_queuedByHistory_0 : decode cX6_queuedByHistory 0 = .ok (.aload_n 0, 1) := by decide +kernel
theorem dX6_queuedByHistory_1 : decode cX6_queuedByHistory 1 = .ok (.getfield 31, 3) := by decide +kernel
theorem dX6_queuedByHistory_4 : decode cX6_queuedByHistory 4 = .ok (.aload_n 0, 1) := by decide +kernel
theorem dX6_queuedByHistory_5 : decode cX6_queuedByHistory 5 = .ok (.iload_n 1, 1) := by decide +kernel
theorem dX6_queuedByHistory_6 : decode cX6_queuedByHistory 6 = .ok (.invokevirtual 102, 3) := by decide +kernel
theorem dX6_queuedByHistory_9 : decode cX6_queuedByHistory 9 = .ok (.aload_n 0, 1) := by decide +kernel
theorem dX6_queuedByHistory_10 : decode cX6_queuedByHistory 10 = .ok (.getfield 45, 3) := by decide +kernel
theorem dX6_queuedByHistory_13 : decode cX6_queuedByHistory 13 = .ok (.invokevirtual 179, 3) := by decide +kernel
theorem dX6_queuedByHistory_16 : decode cX6_queuedByHistory 16 = .ok (.ireturn, 1) := by decide +kernel
abbrev rm6_queuedByHistory : Room := { frames := 7, cells := 1, slots := 6, locals := 112 }
theorem hd6_queuedByHistory : yX6_queuedByHistory.cls ≠ "java/lang/invoke/MethodHandle" ∧ yX6_queuedByHistory.cls ≠ "java/lang/invoke/VarHandle" ∧ (parseMethodDescriptor yX6_queuedByHistory.desc).map (fun d => d.parameters.length) = some 1 := by decide +kernel
set_option maxHeartbeats 4000000 in
set_option maxRecDepth 20000 in
theorem m6_queuedByHistory (l : Launch) (hl : l.stackTraces = false) (G : xG) (ρ : Nm → Nat) (this : Nm) (p1 : Int32) (σ : PH) (Q : Int32 → PH → Prop) (Xp : String → PH → Prop) (h : w6_queuedByHistory this p1 σ Q Xp) : xMet l yX6_queuedByHistory (.code yX6_queuedByHistory cX6_queuedByHistory 2 (some .int)) rm6_queuedByHistory G ρ σ [.ref (ρ this), .int p1] (eI ρ Q) Xp := by
  refine xMet.of hl (by decide +kernel) (Nat.le_of_ble_eq_true rfl) (fun X hC hr hn htab h0 => ?_)
  have hC : xC G X "PlantServer" cX6_queuedByHistory 2 rm6_queuedByHistory := hC
  unfold w6_queuedByHistory at h
  refine xJ.loc (L' := [(0, .ref (ρ this)), (1, .int p1)]) rfl ?_
  refine x_aload_n hC 0 rfl dX6_queuedByHistory_0 ?_
  obtain ⟨k1, h⟩ := h
  refine x_getR (n0 := this) hC (ci := 6) (T := TX6) (N := 9) (C := RX6) 4 k1 rfl rfl (by decide) rfl q53 dX6_queuedByHistory_1 ?_
  refine x_aload_n hC 0 rfl dX6_queuedByHistory_4 ?_
  refine x_iload_n hC 1 rfl dX6_queuedByHistory_5 ?_
  refine x_callV (n0 := this) (as := [.int p1]) (rest := [rv ρ (hR σ this 4)]) hC (ci := 6) (r := (RX6, TX6, 9)) k1 rfl (fun l hl => m6_liveItem l hl G ρ this p1 σ _ Xp h) q425 q427 s5 q1 q428 ⟨rfl, hd6_liveItem⟩ (by decide) ⟨(by decide), (by decide)⟩ (by first | exact Nat.le_of_ble_eq_true rfl | (simp [rv_cat]; done) | (simp (decide := true) [rv_cat, cat_ref, cat_int]; done)) rfl dX6_queuedByHistory_6 (fun E σ9 hx => x_out hC h0 htab (by decide) (by decide) hx) (fun v1 σ1 ρ1 hp1 hag1 => ?_)
  obtain ⟨e9, r1, e8, h⟩ := hp1
  rw [e8, e9]
  refine xJ.nrm (k' := 1) (n' := 6) (pc' := 9) (st' := [rv ρ r1, rv ρ (hR σ this 4)]) rfl rfl rfl rfl ?_
  refine x_aload_n hC 0 rfl dX6_queuedByHistory_9 ?_
  have k2 : hK σ1 this = 7 := (hag1 this (by rw [k1]; decide)).1.trans k1
  refine x_getI (n0 := this) hC (ci := 6) (T := TX6) (N := 9) (C := RX6) 8 k2 rfl rfl (by decide) rfl q57 dX6_queuedByHistory_10 ?_
  obtain ⟨m1, hm1, h⟩ := h
  rw [show rv ρ r1 = Value.ref (ρ m1) from by rw [hm1]; rfl]
  obtain ⟨m2, hm2, h⟩ := h
  rw [show rv ρ (hR σ this 4) = Value.ref (ρ m2) from by rw [hm2]; rfl]
  obtain ⟨k3, h⟩ := h
  refine x_callV (n0 := m2) (as := [.ref (ρ m1), .int (hI σ1 this 8)]) (rest := []) hC (ci := 0) (r := (RX0, TX0, 4)) k3 rfl (fun l hl => m0_countQueued l hl G ρ m2 m1 (hI σ1 this 8) σ1 _ h) q691 q692 q693 q2 q694 ⟨rfl, hd0_countQueued⟩ (by decide) ⟨(by decide), (by decide)⟩ (by first | exact Nat.le_of_ble_eq_true rfl | (simp [rv_cat]; done) | (simp (decide := true) [rv_cat, cat_ref, cat_int]; done)) rfl dX6_queuedByHistory_13 (fun E σ9 hx => False.elim hx) (fun v2 σ2 ρ2 hp2 hag2 => ?_)
  obtain ⟨e9, r2, e8, h⟩ := hp2
  rw [e8, e9]
  refine xJ.nrm (k' := 1) (n' := 6) (pc' := 16) (st' := [.int r2]) rfl rfl rfl rfl ?_
  exact x_iret hC hr dX6_queuedByHistory_16 (by decide) (by decide) ⟨rfl, _, rfl, h⟩
/-! PlantServer.tick -/
theorem dX6_tick_0 : decode cX6_tick 0 = .ok (.aload_n 0, 1) := by decide +kernel
theorem dX6_tick_1 : decode cX6_tick 1 = .ok (.getfield 45, 3) := by decide +kernel
theorem dX6_tick_4 : decode cX6_tick 4 = .ok (.ireturn, 1) := by decide +kernel
abbrev rm6_tick : Room := { frames := 0, cells := 0, slots := 0, locals := 0 }
theorem hd6_tick : yX6_tick.cls ≠ "java/lang/invoke/MethodHandle" ∧ yX6_tick.cls ≠ "java/lang/invoke/VarHandle" ∧ (parseMethodDescriptor yX6_tick.desc).map (fun d => d.parameters.length) = some 0 := by decide +kernel
set_option maxHeartbeats 4000000 in
set_option maxRecDepth 20000 in
theorem m6_tick (l : Launch) (hl : l.stackTraces = false) (G : xG) (ρ : Nm → Nat) (this : Nm) (σ : PH) (Q : Int32 → PH → Prop) (h : w6_tick this σ Q) : xMet l yX6_tick (.code yX6_tick cX6_tick 1 (some .int)) rm6_tick G ρ σ [.ref (ρ this)] (eI ρ Q) xNo := by
  refine xMet.of hl (by decide +kernel) (Nat.le_of_ble_eq_true rfl) (fun X hC hr hn htab h0 => ?_)
  have hC : xC G X "PlantServer" cX6_tick 1 rm6_tick := hC
  unfold w6_tick at h
  refine xJ.loc (L' := [(0, .ref (ρ this))]) rfl ?_
  refine x_aload_n hC 0 rfl dX6_tick_0 ?_
  obtain ⟨k1, h⟩ := h
  refine x_getI (n0 := this) hC (ci := 6) (T := TX6) (N := 9) (C := RX6) 8 k1 rfl rfl (by decide) rfl q57 dX6_tick_1 ?_
  exact x_iret hC hr dX6_tick_4 (by decide) (by decide) ⟨rfl, _, rfl, h⟩
/-! PlantServer.requests -/
theorem dX6_requests_0 : decode cX6_requests 0 = .ok (.aload_n 0, 1) := by decide +kernel
theorem dX6_requests_1 : decode cX6_requests 1 = .ok (.getfield 42, 3) := by decide +kernel
theorem dX6_requests_4 : decode cX6_requests 4 = .ok (.ireturn, 1) := by decide +kernel
abbrev rm6_requests : Room := { frames := 0, cells := 0, slots := 0, locals := 0 }
theorem hd6_requests : yX6_requests.cls ≠ "java/lang/invoke/MethodHandle" ∧ yX6_requests.cls ≠ "java/lang/invoke/VarHandle" ∧ (parseMethodDescriptor yX6_requests.desc).map (fun d => d.parameters.length) = some 0 := by decide +kernel
set_option maxHeartbeats 4000000 in
set_option maxRecDepth 20000 in
theorem m6_requests (l : Launch) (hl : l.stackTraces = false) (G : xG) (ρ : Nm → Nat) (this : Nm) (σ : PH) (Q : Int32 → PH → Prop) (h : w6_requests this σ Q) : xMet l yX6_requests (.code yX6_requests cX6_requests 1 (some .int)) rm6_requests G ρ σ [.ref (ρ this)] (eI ρ Q) xNo := by
  refine xMet.of hl (by decide +kernel) (Nat.le_of_ble_eq_true rfl) (fun X hC hr hn htab h0 => ?_)
  have hC : xC G X "PlantServer" cX6_requests 1 rm6_requests := hC
  unfold w6_requests at h
  refine xJ.loc (L' := [(0, .ref (ρ this))]) rfl ?_
  refine x_aload_n hC 0 rfl dX6_requests_0 ?_
  obtain ⟨k1, h⟩ := h
  refine x_getI (n0 := this) hC (ci := 6) (T := TX6) (N := 9) (C := RX6) 7 k1 rfl rfl (by decide) rfl q56 dX6_requests_1 ?_
  exact x_iret hC hr dX6_requests_4 (by decide) (by decide) ⟨rfl, _, rfl, h⟩
