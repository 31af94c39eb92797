/-! PlantServerLaw.request -/
theorem dL_request_0 : decode cL_request 0 = .ok (.aload_n 1, 1) := by decide +kernel
theorem dL_request_1 : decode cL_request 1 = .ok (.iconst 0, 1) := by decide +kernel
theorem dL_request_2 : decode cL_request 2 = .ok (.aload_n 0, 1) := by decide +kernel
theorem dL_request_3 : decode cL_request 3 = .ok (.invokevirtual 39, 3) := by decide +kernel
theorem dL_request_6 : decode cL_request 6 = .ok (.i2l, 1) := by decide +kernel
theorem dL_request_7 : decode cL_request 7 = .ok (.lastore, 1) := by decide +kernel
theorem dL_request_8 : decode cL_request 8 = .ok (.goto 6, 3) := by decide +kernel
theorem dL_request_11 : decode cL_request 11 = .ok (.astore_n 2, 1) := by decide +kernel
theorem dL_request_12 : decode cL_request 12 = .ok (.iconst 1, 1) := by decide +kernel
theorem dL_request_13 : decode cL_request 13 = .ok (.ireturn, 1) := by decide +kernel
theorem dL_request_14 : decode cL_request 14 = .ok (.iconst 0, 1) := by decide +kernel
theorem dL_request_15 : decode cL_request 15 = .ok (.ireturn, 1) := by decide +kernel
abbrev rmL_request : Room := { frames := 7, cells := 1, slots := 6, locals := 110 }
theorem hdL_request : yL_request.cls ≠ "java/lang/invoke/MethodHandle" ∧ yL_request.cls ≠ "java/lang/invoke/VarHandle" ∧ (parseMethodDescriptor yL_request.desc).map (fun d => d.parameters.length) = some 2 := by decide +kernel
set_option maxHeartbeats 4000000 in
set_option maxRecDepth 20000 in
theorem mL_request (l : Launch) (hl : l.stackTraces = false) (G : xG) (ρ : Nm → Nat) (a1 : Nm) (a2 : Nm) (σ : PH) (Q : Int32 → PH → Prop) (h : wL_request a1 a2 σ Q) : xMet l yL_request (.codeWith yL_request cL_request 3 (some .int) [(0, 8, 11, 21)]) rmL_request G ρ σ [.ref (ρ a1), .ref (ρ a2)] (eI ρ Q) xNo := by
  refine xMet.ofW hl (by decide +kernel) (Nat.le_of_ble_eq_true rfl) (fun X hC hr hn htab h0 => ?_)
  have hC : xC G X "PlantServerLaw" cL_request 3 rmL_request := hC
  unfold wL_request at h
  refine xJ.loc (L' := [(0, .ref (ρ a1)), (1, .ref (ρ a2))]) rfl ?_
  refine x_aload_n hC 1 rfl dL_request_0 ?_
  refine x_iconst (v := 0) hC dL_request_1 (by decide) ?_
  refine x_aload_n hC 0 rfl dL_request_2 ?_
  obtain ⟨k1, h⟩ := h
  refine x_callV (n0 := a1) (as := []) (rest := [.int 0, .ref (ρ a2)]) hC (ci := 6) (r := (RX6, TX6, 9)) k1 rfl (fun l hl => m6_request l hl G ρ a1 σ _ _ h) q450 q451 q452 q1 q453 ⟨rfl, hd6_request⟩ (by decide) ⟨(by decide), (by decide)⟩ (by first | exact Nat.le_of_ble_eq_true rfl | (simp [rv_cat]; done) | (simp (decide := true) [rv_cat, cat_ref, cat_int]; done)) rfl dL_request_3 (fun E σ2 hx => ?_) (fun v1 σ1 ρ1 hp1 hag1 => ?_)
  · have hE9 := hx.2
    have he := hE9
    have h := hx.1 he
    subst he
    refine x_catch hC [] [] (0, 8, 11, 21) htab (by intro z hz; simp at hz) (by decide) (by decide) q193 xcast_xIS (fun qx1 => ?_)
    refine xJ.nrm (k' := 1) (n' := 6) (pc' := 11) (st' := [.ref qx1]) rfl rfl rfl rfl ?_
    refine x_astore_n (L' := [(2, .ref qx1), (0, .ref (ρ a1)), (1, .ref (ρ a2))]) hC dL_request_11 (by decide) (by first | rfl | simp (decide := true) [rv_cat, cat_ref, cat_int]) ?_
    refine x_iconst (v := 1) hC dL_request_12 (by decide) ?_
    exact x_iret hC hr dL_request_13 (by decide) (by decide) ⟨rfl, _, rfl, h⟩
  · obtain ⟨e9, r1, e8, h⟩ := hp1
    rw [e8, e9]
    refine xJ.nrm (k' := 1) (n' := 6) (pc' := 6) (st' := [.int r1, .int 0, .ref (ρ a2)]) rfl rfl rfl rfl ?_
    refine x_i2l hC dL_request_6 ?_
    obtain ⟨k2, h⟩ := h
    obtain ⟨v2, h⟩ := h
    refine x_last (a := a2) hC k2 v2 dL_request_7 ?_
    refine xJ.nmH (fun σ3 e1 => ?_)
    have h := h σ3 e1
    have r2 : hR σ3 = hR σ1 ∧ hL σ3 = hL σ1 := by rw [e1]; exact ⟨rfl, rfl⟩
    refine x_goto (tgt := 14) hC dL_request_8 (by decide) ?_
    refine x_iconst (v := 0) hC dL_request_14 (by decide) ?_
    exact x_iret hC hr dL_request_15 (by decide) (by decide) ⟨rfl, _, rfl, h⟩
/-! PlantServerModel.request -/
theorem dX7_request_0 : decode cX7_request 0 = .ok (.aload_n 0, 1) := by decide +kernel
theorem dX7_request_1 : decode cX7_request 1 = .ok (.aload_n 0, 1) := by decide +kernel
theorem dX7_request_2 : decode cX7_request 2 = .ok (.getfield 156, 3) := by decide +kernel
theorem dX7_request_5 : decode cX7_request 5 = .ok (.bipush 10, 2) := by decide +kernel
theorem dX7_request_7 : decode cX7_request 7 = .ok (.if_icmp .ne 7, 3) := by decide +kernel
theorem dX7_request_10 : decode cX7_request 10 = .ok (.iconst 1, 1) := by decide +kernel
theorem dX7_request_11 : decode cX7_request 11 = .ok (.goto 4, 3) := by decide +kernel
theorem dX7_request_14 : decode cX7_request 14 = .ok (.iconst 0, 1) := by decide +kernel
theorem dX7_request_15 : decode cX7_request 15 = .ok (.putfield 104, 3) := by decide +kernel
theorem dX7_request_18 : decode cX7_request 18 = .ok (.aload_n 0, 1) := by decide +kernel
theorem dX7_request_19 : decode cX7_request 19 = .ok (.getfield 104, 3) := by decide +kernel
theorem dX7_request_22 : decode cX7_request 22 = .ok (.ifCond .le 5, 3) := by decide +kernel
theorem dX7_request_25 : decode cX7_request 25 = .ok (.iconst 0, 1) := by decide +kernel
theorem dX7_request_26 : decode cX7_request 26 = .ok (.ireturn, 1) := by decide +kernel
theorem dX7_request_27 : decode cX7_request 27 = .ok (.aload_n 0, 1) := by decide +kernel
theorem dX7_request_28 : decode cX7_request 28 = .ok (.dup, 1) := by decide +kernel
theorem dX7_request_29 : decode cX7_request 29 = .ok (.getfield 156, 3) := by decide +kernel
theorem dX7_request_32 : decode cX7_request 32 = .ok (.iconst 1, 1) := by decide +kernel
theorem dX7_request_33 : decode cX7_request 33 = .ok (.iadd, 1) := by decide +kernel
theorem dX7_request_34 : decode cX7_request 34 = .ok (.putfield 156, 3) := by decide +kernel
theorem dX7_request_37 : decode cX7_request 37 = .ok (.aload_n 0, 1) := by decide +kernel
theorem dX7_request_38 : decode cX7_request 38 = .ok (.getfield 156, 3) := by decide +kernel
theorem dX7_request_41 : decode cX7_request 41 = .ok (.ireturn, 1) := by decide +kernel
abbrev rm7_request : Room := { frames := 0, cells := 0, slots := 0, locals := 0 }
theorem hd7_request : yX7_request.cls ≠ "java/lang/invoke/MethodHandle" ∧ yX7_request.cls ≠ "java/lang/invoke/VarHandle" ∧ (parseMethodDescriptor yX7_request.desc).map (fun d => d.parameters.length) = some 0 := by decide +kernel
set_option maxHeartbeats 4000000 in
set_option maxRecDepth 20000 in
theorem m7_request (l : Launch) (hl : l.stackTraces = false) (G : xG) (ρ : Nm → Nat) (this : Nm) (σ : PH) (Q : Int32 → PH → Prop) (h : w7_request this σ Q) : xMet l yX7_request (.code yX7_request cX7_request 1 (some .int)) rm7_request G ρ σ [.ref (ρ this)] (eI ρ Q) xNo := by
  refine xMet.of hl (by decide +kernel) (Nat.le_of_ble_eq_true rfl) (fun X hC hr hn htab h0 => ?_)
  have hC : xC G X "PlantServerModel" cX7_request 1 rm7_request := hC
  unfold w7_request at h
  refine xJ.loc (L' := [(0, .ref (ρ this))]) rfl ?_
  refine x_aload_n hC 0 rfl dX7_request_0 ?_
  refine x_aload_n hC 0 rfl dX7_request_1 ?_
  obtain ⟨k1, h⟩ := h
  refine x_getI (n0 := this) hC (ci := 7) (T := TX7) (N := 36) (C := RX7) 35 k1 rfl rfl (by decide) rfl q724 dX7_request_2 ?_
  refine x_bipush (v := 10) hC dX7_request_5 (by decide) ?_
  refine x_icmp_ne (tgt := 14) hC dX7_request_7 (by decide) (fun c1 => ?_) (fun c1 => ?_)
  · have h := h.1 c1
    refine x_iconst (v := 0) hC dX7_request_14 (by decide) ?_
    refine x_putI (n0 := this) hC (ci := 7) (T := TX7) (N := 36) (C := RX7) 0 k1 rfl rfl (by decide) rfl q689 rfl (tyX7_ok 0 (by decide)) dX7_request_15 ?_
    refine xJ.nmH (fun σ1 e1 => ?_)
    have h := h σ1 e1
    have r1 : hR σ1 = hR σ ∧ hL σ1 = hL σ := by rw [e1]; exact ⟨rfl, rfl⟩
    refine x_aload_n hC 0 rfl dX7_request_18 ?_
    have k2 : hK σ1 this = 8 := by rw [e1]; exact k1
    refine x_getI (n0 := this) hC (ci := 7) (T := TX7) (N := 36) (C := RX7) 0 k2 rfl rfl (by decide) rfl q689 dX7_request_19 ?_
    refine x_if_le (tgt := 27) hC dX7_request_22 (by decide) (fun c2 => ?_) (fun c2 => ?_)
    · have h := h.1 c2
      refine x_aload_n hC 0 rfl dX7_request_27 ?_
      refine x_dup hC (by first | rfl | exact rv_cat) dX7_request_28 ?_
      refine x_getI (n0 := this) hC (ci := 7) (T := TX7) (N := 36) (C := RX7) 35 k2 rfl rfl (by decide) rfl q724 dX7_request_29 ?_
      refine x_iconst (v := 1) hC dX7_request_32 (by decide) ?_
      refine x_iadd hC dX7_request_33 ?_
      refine x_putI (n0 := this) hC (ci := 7) (T := TX7) (N := 36) (C := RX7) 35 k2 rfl rfl (by decide) rfl q724 rfl (tyX7_ok 35 (by decide)) dX7_request_34 ?_
      refine xJ.nmH (fun σ2 e2 => ?_)
      have h := h σ2 e2
      have r2 : hR σ2 = hR σ ∧ hL σ2 = hL σ := by rw [e2]; exact ⟨r1.1, r1.2⟩
      refine x_aload_n hC 0 rfl dX7_request_37 ?_
      have k3 : hK σ2 this = 8 := by rw [e2]; exact k2
      refine x_getI (n0 := this) hC (ci := 7) (T := TX7) (N := 36) (C := RX7) 35 k3 rfl rfl (by decide) rfl q724 dX7_request_38 ?_
      exact x_iret hC hr dX7_request_41 (by decide) (by decide) ⟨rfl, _, rfl, h⟩
    · have h := h.2 c2
      refine x_iconst (v := 0) hC dX7_request_25 (by decide) ?_
      exact x_iret hC hr dX7_request_26 (by decide) (by decide) ⟨rfl, _, rfl, h⟩
  · have h := h.2 c1
    refine x_iconst (v := 1) hC dX7_request_10 (by decide) ?_
    refine x_goto (tgt := 15) hC dX7_request_11 (by decide) ?_
    refine x_putI (n0 := this) hC (ci := 7) (T := TX7) (N := 36) (C := RX7) 0 k1 rfl rfl (by decide) rfl q689 rfl (tyX7_ok 0 (by decide)) dX7_request_15 ?_
    refine xJ.nmH (fun σ3 e3 => ?_)
    have h := h σ3 e3
    have r3 : hR σ3 = hR σ ∧ hL σ3 = hL σ := by rw [e3]; exact ⟨rfl, rfl⟩
    refine x_aload_n hC 0 rfl dX7_request_18 ?_
    have k4 : hK σ3 this = 8 := by rw [e3]; exact k1
    refine x_getI (n0 := this) hC (ci := 7) (T := TX7) (N := 36) (C := RX7) 0 k4 rfl rfl (by decide) rfl q689 dX7_request_19 ?_
    refine x_if_le (tgt := 27) hC dX7_request_22 (by decide) (fun c3 => ?_) (fun c3 => ?_)
    · have h := h.1 c3
      refine x_aload_n hC 0 rfl dX7_request_27 ?_
      refine x_dup hC (by first | rfl | exact rv_cat) dX7_request_28 ?_
      refine x_getI (n0 := this) hC (ci := 7) (T := TX7) (N := 36) (C := RX7) 35 k4 rfl rfl (by decide) rfl q724 dX7_request_29 ?_
      refine x_iconst (v := 1) hC dX7_request_32 (by decide) ?_
      refine x_iadd hC dX7_request_33 ?_
      refine x_putI (n0 := this) hC (ci := 7) (T := TX7) (N := 36) (C := RX7) 35 k4 rfl rfl (by decide) rfl q724 rfl (tyX7_ok 35 (by decide)) dX7_request_34 ?_
      refine xJ.nmH (fun σ4 e4 => ?_)
      have h := h σ4 e4
      have r4 : hR σ4 = hR σ ∧ hL σ4 = hL σ := by rw [e4]; exact ⟨r3.1, r3.2⟩
      refine x_aload_n hC 0 rfl dX7_request_37 ?_
      have k5 : hK σ4 this = 8 := by rw [e4]; exact k4
      refine x_getI (n0 := this) hC (ci := 7) (T := TX7) (N := 36) (C := RX7) 35 k5 rfl rfl (by decide) rfl q724 dX7_request_38 ?_
      exact x_iret hC hr dX7_request_41 (by decide) (by decide) ⟨rfl, _, rfl, h⟩
    · have h := h.2 c3
      refine x_iconst (v := 0) hC dX7_request_25 (by decide) ?_
      exact x_iret hC hr dX7_request_26 (by decide) (by decide) ⟨rfl, _, rfl, h⟩
/-! PlantServer$Timer.countTick -/
theorem dX5_countTick_0 : decode cX5_countTick 0 = .ok (.aload_n 0, 1) := by decide +kernel
theorem dX5_countTick_1 : decode cX5_countTick 1 = .ok (.dup, 1) := by decide +kernel
theorem dX5_countTick_2 : decode cX5_countTick 2 = .ok (.getfield 13, 3) := by decide +kernel
theorem dX5_countTick_5 : decode cX5_countTick 5 = .ok (.iconst 1, 1) := by decide +kernel
theorem dX5_countTick_6 : decode cX5_countTick 6 = .ok (.isub, 1) := by decide +kernel
theorem dX5_countTick_7 : decode cX5_countTick 7 = .ok (.putfield 13, 3) := by decide +kernel
theorem dX5_countTick_10 : decode cX5_countTick 10 = .ok (.aload_n 0, 1) := by decide +kernel
theorem dX5_countTick_11 : decode cX5_countTick 11 = .ok (.getfield 13, 3) := by decide +kernel
theorem dX5_countTick_14 : decode cX5_countTick 14 = .ok (.ifCond .le 5, 3) := by decide +kernel
theorem dX5_countTick_17 : decode cX5_countTick 17 = .ok (.iconst 0, 1) := by decide +kernel
theorem dX5_countTick_18 : decode cX5_countTick 18 = .ok (.ireturn, 1) := by decide +kernel
theorem dX5_countTick_19 : decode cX5_countTick 19 = .ok (.aload_n 0, 1) := by decide +kernel
theorem dX5_countTick_20 : decode cX5_countTick 20 = .ok (.aload_n 0, 1) := by decide +kernel
theorem dX5_countTick_21 : decode cX5_countTick 21 = .ok (.getfield 7, 3) := by decide +kernel
theorem dX5_countTick_24 : decode cX5_countTick 24 = .ok (.putfield 13, 3) := by decide +kernel
theorem dX5_countTick_27 : decode cX5_countTick 27 = .ok (.iconst 1, 1) := by decide +kernel
theorem dX5_countTick_28 : decode cX5_countTick 28 = .ok (.ireturn, 1) := by decide +kernel
abbrev rm5_countTick : Room := { frames := 0, cells := 0, slots := 0, locals := 0 }
theorem hd5_countTick : yX5_countTick.cls ≠ "java/lang/invoke/MethodHandle" ∧ yX5_countTick.cls ≠ "java/lang/invoke/VarHandle" ∧ (parseMethodDescriptor yX5_countTick.desc).map (fun d => d.parameters.length) = some 0 := by decide +kernel
set_option maxHeartbeats 4000000 in
set_option maxRecDepth 20000 in
theorem m5_countTick (l : Launch) (hl : l.stackTraces = false) (G : xG) (ρ : Nm → Nat) (this : Nm) (σ : PH) (Q : Int32 → PH → Prop) (h : w5_countTick this σ Q) : xMet l yX5_countTick (.code yX5_countTick cX5_countTick 1 (some .boolean)) rm5_countTick G ρ σ [.ref (ρ this)] (eI ρ Q) xNo := by
  refine xMet.of hl (by decide +kernel) (Nat.le_of_ble_eq_true rfl) (fun X hC hr hn htab h0 => ?_)
  have hC : xC G X "PlantServer$Timer" cX5_countTick 1 rm5_countTick := hC
  unfold w5_countTick at h
  refine xJ.loc (L' := [(0, .ref (ρ this))]) rfl ?_
  refine x_aload_n hC 0 rfl dX5_countTick_0 ?_
  refine x_dup hC (by first | rfl | exact rv_cat) dX5_countTick_1 ?_
  obtain ⟨k1, h⟩ := h
  refine x_getI (n0 := this) hC (ci := 5) (T := TX5) (N := 2) (C := RX5) 1 k1 rfl rfl (by decide) rfl q230 dX5_countTick_2 ?_
  refine x_iconst (v := 1) hC dX5_countTick_5 (by decide) ?_
  refine x_isub hC dX5_countTick_6 ?_
  refine x_putI (n0 := this) hC (ci := 5) (T := TX5) (N := 2) (C := RX5) 1 k1 rfl rfl (by decide) rfl q230 rfl (tyX5_ok 1 (by decide)) dX5_countTick_7 ?_
  refine xJ.nmH (fun σ1 e1 => ?_)
  have h := h σ1 e1
  have r1 : hR σ1 = hR σ ∧ hL σ1 = hL σ := by rw [e1]; exact ⟨rfl, rfl⟩
  refine x_aload_n hC 0 rfl dX5_countTick_10 ?_
  have k2 : hK σ1 this = 6 := by rw [e1]; exact k1
  refine x_getI (n0 := this) hC (ci := 5) (T := TX5) (N := 2) (C := RX5) 1 k2 rfl rfl (by decide) rfl q230 dX5_countTick_11 ?_
  refine x_if_le (tgt := 19) hC dX5_countTick_14 (by decide) (fun c1 => ?_) (fun c1 => ?_)
  · have h := h.1 c1
    refine x_aload_n hC 0 rfl dX5_countTick_19 ?_
    refine x_aload_n hC 0 rfl dX5_countTick_20 ?_
    refine x_getI (n0 := this) hC (ci := 5) (T := TX5) (N := 2) (C := RX5) 0 k2 rfl rfl (by decide) rfl q228 dX5_countTick_21 ?_
    refine x_putI (n0 := this) hC (ci := 5) (T := TX5) (N := 2) (C := RX5) 1 k2 rfl rfl (by decide) rfl q230 rfl (tyX5_ok 1 (by decide)) dX5_countTick_24 ?_
    refine xJ.nmH (fun σ2 e2 => ?_)
    have h := h σ2 e2
    have r2 : hR σ2 = hR σ ∧ hL σ2 = hL σ := by rw [e2]; exact ⟨r1.1, r1.2⟩
    refine x_iconst (v := 1) hC dX5_countTick_27 (by decide) ?_
    exact x_zret hC hr zb1 dX5_countTick_28 (by decide) (by decide) ⟨rfl, _, rfl, h⟩
  · have h := h.2 c1
    refine x_iconst (v := 0) hC dX5_countTick_17 (by decide) ?_
    exact x_zret hC hr zb0 dX5_countTick_18 (by decide) (by decide) ⟨rfl, _, rfl, h⟩
/-! PlantServer$Item.leavesBand -/
theorem dX1_leavesBand_0 : decode cX1_leavesBand 0 = .ok (.iload_n 1, 1) := by decide +kernel
theorem dX1_leavesBand_1 : decode cX1_leavesBand 1 = .ok (.iload_n 2, 1) := by decide +kernel
theorem dX1_leavesBand_2 : decode cX1_leavesBand 2 = .ok (.isub, 1) := by decide +kernel
theorem dX1_leavesBand_3 : decode cX1_leavesBand 3 = .ok (.invokestatic 62, 3) := by decide +kernel
theorem dX1_leavesBand_6 : decode cX1_leavesBand 6 = .ok (.aload_n 0, 1) := by decide +kernel
theorem dX1_leavesBand_7 : decode cX1_leavesBand 7 = .ok (.getfield 39, 3) := by decide +kernel
theorem dX1_leavesBand_10 : decode cX1_leavesBand 10 = .ok (.if_icmp .le 7, 3) := by decide +kernel
theorem dX1_leavesBand_13 : decode cX1_leavesBand 13 = .ok (.iconst 1, 1) := by decide +kernel
theorem dX1_leavesBand_14 : decode cX1_leavesBand 14 = .ok (.goto 4, 3) := by decide +kernel
theorem dX1_leavesBand_17 : decode cX1_leavesBand 17 = .ok (.iconst 0, 1) := by decide +kernel
theorem dX1_leavesBand_18 : decode cX1_leavesBand 18 = .ok (.ireturn, 1) := by decide +kernel
abbrev rm1_leavesBand : Room := { frames := 1, cells := 0, slots := 0, locals := 21 }
theorem hd1_leavesBand : yX1_leavesBand.cls ≠ "java/lang/invoke/MethodHandle" ∧ yX1_leavesBand.cls ≠ "java/lang/invoke/VarHandle" ∧ (parseMethodDescriptor yX1_leavesBand.desc).map (fun d => d.parameters.length) = some 2 := by decide +kernel
set_option maxHeartbeats 4000000 in
set_option maxRecDepth 20000 in
theorem m1_leavesBand (l : Launch) (hl : l.stackTraces = false) (G : xG) (ρ : Nm → Nat) (this : Nm) (p1 : Int32) (p2 : Int32) (σ : PH) (Q : Int32 → PH → Prop) (h : w1_leavesBand this p1 p2 σ Q) : xMet l yX1_leavesBand (.code yX1_leavesBand cX1_leavesBand 3 (some .boolean)) rm1_leavesBand G ρ σ [.ref (ρ this), .int p1, .int p2] (eI ρ Q) xNo := by
  refine xMet.of hl (by decide +kernel) (Nat.le_of_ble_eq_true rfl) (fun X hC hr hn htab h0 => ?_)
  have hC : xC G X "PlantServer$Item" cX1_leavesBand 3 rm1_leavesBand := hC
  unfold w1_leavesBand at h
  refine xJ.loc (L' := [(0, .ref (ρ this)), (1, .int p1), (2, .int p2)]) rfl ?_
  refine x_iload_n hC 1 rfl dX1_leavesBand_0 ?_
  refine x_iload_n hC 2 rfl dX1_leavesBand_1 ?_
  refine x_isub hC dX1_leavesBand_2 ?_
  refine x_abs hC q479 q480 q14 q481 (by decide) (by first | exact Nat.le_of_ble_eq_true rfl | (simp [rv_cat]; done) | (simp (decide := true) [rv_cat, cat_ref, cat_int]; done)) (by decide) (by decide) dX1_leavesBand_3 ?_
  refine xJ.nmT (fun x1 ex1 => ?_)
  have h := h x1 ex1
  refine x_aload_n hC 0 rfl dX1_leavesBand_6 ?_
  obtain ⟨k1, h⟩ := h
  refine x_getI (n0 := this) hC (ci := 1) (T := TX1) (N := 12) (C := RX1) 3 k1 rfl rfl (by decide) rfl q353 dX1_leavesBand_7 ?_
  refine x_icmp_le (tgt := 17) hC dX1_leavesBand_10 (by decide) (fun c1 => ?_) (fun c1 => ?_)
  · have h := h.1 c1
    refine x_iconst (v := 0) hC dX1_leavesBand_17 (by decide) ?_
    exact x_zret hC hr zb0 dX1_leavesBand_18 (by decide) (by decide) ⟨rfl, _, rfl, h⟩
  · have h := h.2 c1
    refine x_iconst (v := 1) hC dX1_leavesBand_13 (by decide) ?_
    refine x_goto (tgt := 18) hC dX1_leavesBand_14 (by decide) ?_
    exact x_zret hC hr zb1 dX1_leavesBand_18 (by decide) (by decide) ⟨rfl, _, rfl, h⟩
/-! PlantServer$Item.sample -/
theorem dX1_sample_0 : decode cX1_sample 0 = .ok (.aload_n 0, 1) := by decide +kernel
theorem dX1_sample_1 : decode cX1_sample 1 = .ok (.iload_n 1, 1) := by decide +kernel
theorem dX1_sample_2 : decode cX1_sample 2 = .ok (.aload_n 0, 1) := by decide +kernel
theorem dX1_sample_3 : decode cX1_sample 3 = .ok (.getfield 20, 3) := by decide +kernel
theorem dX1_sample_6 : decode cX1_sample 6 = .ok (.invokevirtual 58, 3) := by decide +kernel
theorem dX1_sample_9 : decode cX1_sample 9 = .ok (.ifCond .eq 8, 3) := by decide +kernel
theorem dX1_sample_12 : decode cX1_sample 12 = .ok (.aload_n 0, 1) := by decide +kernel
theorem dX1_sample_13 : decode cX1_sample 13 = .ok (.iload_n 1, 1) := by decide +kernel
theorem dX1_sample_14 : decode cX1_sample 14 = .ok (.invokevirtual 55, 3) := by decide +kernel
theorem dX1_sample_17 : decode cX1_sample 17 = .ok (.return_, 1) := by decide +kernel
abbrev rm1_sample : Room := { frames := 3, cells := 0, slots := 0, locals := 64 }
theorem hd1_sample : yX1_sample.cls ≠ "java/lang/invoke/MethodHandle" ∧ yX1_sample.cls ≠ "java/lang/invoke/VarHandle" ∧ (parseMethodDescriptor yX1_sample.desc).map (fun d => d.parameters.length) = some 1 := by decide +kernel
set_option maxHeartbeats 4000000 in
set_option maxRecDepth 20000 in
theorem m1_sample (l : Launch) (hl : l.stackTraces = false) (G : xG) (ρ : Nm → Nat) (this : Nm) (p1 : Int32) (σ : PH) (Q : PH → Prop) (h : w1_sample this p1 σ Q) : xMet l yX1_sample (.code yX1_sample cX1_sample 2 none) rm1_sample G ρ σ [.ref (ρ this), .int p1] (eV ρ Q) xNo := by
  refine xMet.of hl (by decide +kernel) (Nat.le_of_ble_eq_true rfl) (fun X hC hr hn htab h0 => ?_)
  have hC : xC G X "PlantServer$Item" cX1_sample 2 rm1_sample := hC
  unfold w1_sample at h
  refine xJ.loc (L' := [(0, .ref (ρ this)), (1, .int p1)]) rfl ?_
  refine x_aload_n hC 0 rfl dX1_sample_0 ?_
  refine x_iload_n hC 1 rfl dX1_sample_1 ?_
  refine x_aload_n hC 0 rfl dX1_sample_2 ?_
  obtain ⟨k1, h⟩ := h
  refine x_getI (n0 := this) hC (ci := 1) (T := TX1) (N := 12) (C := RX1) 9 k1 rfl rfl (by decide) rfl q367 dX1_sample_3 ?_
  refine x_callV (n0 := this) (as := [.int p1, .int (hI σ this 9)]) (rest := []) hC (ci := 1) (r := (RX1, TX1, 12)) k1 rfl (fun l hl => m1_leavesBand l hl G ρ this p1 (hI σ this 9) σ _ h) q475 q476 q477 q12 q478 ⟨rfl, hd1_leavesBand⟩ (by decide) ⟨(by decide), (by decide)⟩ (by first | exact Nat.le_of_ble_eq_true rfl | (simp [rv_cat]; done) | (simp (decide := true) [rv_cat, cat_ref, cat_int]; done)) rfl dX1_sample_6 (fun E σ9 hx => False.elim hx) (fun v1 σ1 ρ1 hp1 hag1 => ?_)
  obtain ⟨e9, r1, e8, h⟩ := hp1
  rw [e8, e9]
  refine xJ.nrm (k' := 0) (n' := 0) (pc' := 9) (st' := [.int r1]) rfl rfl rfl rfl ?_
  refine x_if_eq (tgt := 17) hC dX1_sample_9 (by decide) (fun c1 => ?_) (fun c1 => ?_)
  · have h := h.1 c1
    exact x_vret hC hr dX1_sample_17 (by decide) (by decide) ⟨rfl, rfl, h⟩
  · have h := h.2 c1
    refine x_aload_n hC 0 rfl dX1_sample_12 ?_
    refine x_iload_n hC 1 rfl dX1_sample_13 ?_
    have k2 : hK σ1 this = 2 := (hag1 this (by rw [k1]; decide)).1.trans k1
    refine x_callV (n0 := this) (as := [.int p1]) (rest := []) hC (ci := 1) (r := (RX1, TX1, 12)) k2 rfl (fun l hl => m1_enqueue l hl G ρ this p1 σ1 _ h) q405 q407 s3 q12 q408 ⟨rfl, hd1_enqueue⟩ (by decide) ⟨(by decide), (by decide)⟩ (by first | exact Nat.le_of_ble_eq_true rfl | (simp [rv_cat]; done) | (simp (decide := true) [rv_cat, cat_ref, cat_int]; done)) rfl dX1_sample_14 (fun E σ9 hx => False.elim hx) (fun v2 σ2 ρ2 hp2 hag2 => ?_)
    obtain ⟨e9, e8, h⟩ := hp2
    rw [e8, e9]
    refine xJ.nrm (k' := 0) (n' := 0) (pc' := 17) (st' := []) rfl rfl rfl rfl ?_
    exact x_vret hC hr dX1_sample_17 (by decide) (by decide) ⟨rfl, rfl, h⟩
/-! PlantServer.sampleItems -/
theorem dX6_sampleItems_0 : decode cX6_sampleItems 0 = .ok (.iconst 0, 1) := by decide +kernel
theorem dX6_sampleItems_1 : decode cX6_sampleItems 1 = .ok (.istore_n 1, 1) := by decide +kernel
theorem dX6_sampleItems_2 : decode cX6_sampleItems 2 = .ok (.iload_n 1, 1) := by decide +kernel
theorem dX6_sampleItems_3 : decode cX6_sampleItems 3 = .ok (.aload_n 0, 1) := by decide +kernel
theorem dX6_sampleItems_4 : decode cX6_sampleItems 4 = .ok (.getfield 39, 3) := by decide +kernel
theorem dX6_sampleItems_7 : decode cX6_sampleItems 7 = .ok (.if_icmp .ge 53, 3) := by decide +kernel
theorem dX6_sampleItems_10 : decode cX6_sampleItems 10 = .ok (.aload_n 0, 1) := by decide +kernel
theorem dX6_sampleItems_11 : decode cX6_sampleItems 11 = .ok (.getfield 24, 3) := by decide +kernel
theorem dX6_sampleItems_14 : decode cX6_sampleItems 14 = .ok (.iload_n 1, 1) := by decide +kernel
theorem dX6_sampleItems_15 : decode cX6_sampleItems 15 = .ok (.aaload, 1) := by decide +kernel
theorem dX6_sampleItems_16 : decode cX6_sampleItems 16 = .ok (.astore_n 2, 1) := by decide +kernel
theorem dX6_sampleItems_17 : decode cX6_sampleItems 17 = .ok (.aload_n 2, 1) := by decide +kernel
theorem dX6_sampleItems_18 : decode cX6_sampleItems 18 = .ok (.ifnull 36, 3) := by decide +kernel
theorem dX6_sampleItems_21 : decode cX6_sampleItems 21 = .ok (.aload_n 2, 1) := by decide +kernel
theorem dX6_sampleItems_22 : decode cX6_sampleItems 22 = .ok (.getfield 114, 3) := by decide +kernel
theorem dX6_sampleItems_25 : decode cX6_sampleItems 25 = .ok (.getfield 77, 3) := by decide +kernel
theorem dX6_sampleItems_28 : decode cX6_sampleItems 28 = .ok (.ifCond .eq 26, 3) := by decide +kernel
theorem dX6_sampleItems_31 : decode cX6_sampleItems 31 = .ok (.aload_n 2, 1) := by decide +kernel
theorem dX6_sampleItems_32 : decode cX6_sampleItems 32 = .ok (.getfield 208, 3) := by decide +kernel
theorem dX6_sampleItems_35 : decode cX6_sampleItems 35 = .ok (.invokevirtual 212, 3) := by decide +kernel
theorem dX6_sampleItems_38 : decode cX6_sampleItems 38 = .ok (.ifCond .eq 16, 3) := by decide +kernel
theorem dX6_sampleItems_41 : decode cX6_sampleItems 41 = .ok (.aload_n 2, 1) := by decide +kernel
theorem dX6_sampleItems_42 : decode cX6_sampleItems 42 = .ok (.aload_n 0, 1) := by decide +kernel
theorem dX6_sampleItems_43 : decode cX6_sampleItems 43 = .ok (.getfield 9, 3) := by decide +kernel
theorem dX6_sampleItems_46 : decode cX6_sampleItems 46 = .ok (.aload_n 2, 1) := by decide +kernel
theorem dX6_sampleItems_47 : decode cX6_sampleItems 47 = .ok (.getfield 218, 3) := by decide +kernel
theorem dX6_sampleItems_50 : decode cX6_sampleItems 50 = .ok (.iaload, 1) := by decide +kernel
theorem dX6_sampleItems_51 : decode cX6_sampleItems 51 = .ok (.invokevirtual 221, 3) := by decide +kernel
theorem dX6_sampleItems_54 : decode cX6_sampleItems 54 = .ok (.iinc 1 1, 3) := by decide +kernel
theorem dX6_sampleItems_57 : decode cX6_sampleItems 57 = .ok (.goto (-55), 3) := by decide +kernel
theorem dX6_sampleItems_60 : decode cX6_sampleItems 60 = .ok (.return_, 1) := by decide +kernel
abbrev rm6_sampleItems : Room := { frames := 4, cells := 0, slots := 0, locals := 85 }
theorem hd6_sampleItems : yX6_sampleItems.cls ≠ "java/lang/invoke/MethodHandle" ∧ yX6_sampleItems.cls ≠ "java/lang/invoke/VarHandle" ∧ (parseMethodDescriptor yX6_sampleItems.desc).map (fun d => d.parameters.length) = some 0 := by decide +kernel
set_option maxHeartbeats 4000000 in
set_option maxRecDepth 20000 in
theorem ml6_sampleItems_2 {G : xG} {X : xX} (hC : xC G X "PlantServer" cX6_sampleItems 3 rm6_sampleItems) (hr : xRt X none) (htab : xTab X []) (this : Nm) {ρ : Nm → Nat} (h0 : xR0 X ρ) (k n : Nat) (hk1 : k ≤ 0) (hk2 : n ≤ 0) (K : Int32 → PH → Prop) (Q : PH → Prop) (Xp : String → PH → Prop) : ∀ (f2 : Nat) (x2_1 : Int32) (τ2 : PH), l6_sampleItems_2 this K Q f2 x2_1 τ2 → (∀ (x2_1 : Int32) (τ2 : PH), K x2_1 τ2 → xJ G X (xT X (eV ρ Q) Xp G rm6_sampleItems) 3 ρ τ2 k n 60 [(0, .ref (ρ this)), (1, .int x2_1)] []) → xJ G X (xT X (eV ρ Q) Xp G rm6_sampleItems) 3 ρ τ2 k n 2 [(0, .ref (ρ this)), (1, .int x2_1)] [] := by
  intro f2
  induction f2 with
  | zero => intro x2_1 τ2 h hKK; unfold l6_sampleItems_2 at h; exact h.elim
  | succ f2 ih =>
    intro x2_1 τ2 h hKK
    unfold l6_sampleItems_2 at h
    refine x_iload_n hC 1 rfl dX6_sampleItems_2 ?_
    refine x_aload_n hC 0 rfl dX6_sampleItems_3 ?_
    obtain ⟨k1, h⟩ := h
    refine x_getI (n0 := this) hC (ci := 6) (T := TX6) (N := 9) (C := RX6) 6 k1 rfl rfl (by decide) rfl q56 dX6_sampleItems_4 ?_
    refine x_icmp_ge (tgt := 60) hC dX6_sampleItems_7 (by decide) (fun c1 => ?_) (fun c1 => ?_)
    · have h := h.1 c1
      exact hKK _ _ h
    · have h := h.2 c1
      refine x_aload_n hC 0 rfl dX6_sampleItems_10 ?_
      refine x_getR (n0 := this) hC (ci := 6) (T := TX6) (N := 9) (C := RX6) 3 k1 rfl rfl (by decide) rfl q53 dX6_sampleItems_11 ?_
      refine x_iload_n hC 1 rfl dX6_sampleItems_14 ?_
      obtain ⟨m1, hm1, h⟩ := h
      rw [show rv ρ (hR τ2 this 3) = Value.ref (ρ m1) from by rw [hm1]; rfl]
      obtain ⟨k2, h⟩ := h
      obtain ⟨v1, h⟩ := h
      refine x_aald11 (a := m1) hC k2 v1 dX6_sampleItems_15 ?_
      refine x_astore_nQ (o := hR τ2 m1 (Int32.toNatClampNeg x2_1)) (L' := [(2, rv ρ (hR τ2 m1 (Int32.toNatClampNeg x2_1))), (0, .ref (ρ this)), (1, .int x2_1)]) hC dX6_sampleItems_16 (by decide) (by first | rfl | simp (decide := true) [rv_cat, cat_ref, cat_int]) ?_
      refine x_aload_nQ (o := hR τ2 m1 (Int32.toNatClampNeg x2_1)) hC 0 rfl dX6_sampleItems_17 ?_
      refine x_ifnull (o := hR τ2 m1 (Int32.toNatClampNeg x2_1)) (tgt := 54) hC dX6_sampleItems_18 (by decide) (fun c2 => ?_) (fun m2 c2 => ?_)
      · have h := h.1 c2
        rw [show rv ρ (hR τ2 m1 (Int32.toNatClampNeg x2_1)) = Value.null from by rw [c2]; rfl]
        refine x_iinc (v' := x2_1 + 1) (L' := [(1, .int (x2_1 + 1)), (2, .null), (0, .ref (ρ this))]) hC 2 rfl dX6_sampleItems_54 rfl (by decide) (by first | rfl | simp (decide := true) [rv_cat, cat_ref, cat_int]) ?_
        refine x_goto (tgt := 2) hC dX6_sampleItems_57 (by decide) ?_
        refine xJ.sub (L' := [(0, .ref (ρ this)), (1, .int (x2_1 + 1))]) [2, 0] rfl ?_
        exact ih _ _ h hKK
      · have h := h.2 m2 c2
        rw [show rv ρ (hR τ2 m1 (Int32.toNatClampNeg x2_1)) = Value.ref (ρ m2) from by rw [c2]; rfl]
        refine x_aload_n hC 0 rfl dX6_sampleItems_21 ?_
        obtain ⟨k3, h⟩ := h
        refine x_getR (n0 := m2) hC (ci := 1) (T := TX1) (N := 12) (C := RX1) 1 k3 rfl rfl (by decide) rfl q349 dX6_sampleItems_22 ?_
        obtain ⟨m3, hm2, h⟩ := h
        rw [show rv ρ (hR τ2 m2 1) = Value.ref (ρ m3) from by rw [hm2]; rfl]
        obtain ⟨k4, h⟩ := h
        refine x_getI (n0 := m3) hC (ci := 4) (T := TX4) (N := 14) (C := RX4) 7 k4 rfl rfl (by decide) rfl q246 dX6_sampleItems_25 ?_
        refine x_if_eq (tgt := 54) hC dX6_sampleItems_28 (by decide) (fun c3 => ?_) (fun c3 => ?_)
        · have h := h.1 c3
          refine x_iinc (v' := x2_1 + 1) (L' := [(1, .int (x2_1 + 1)), (2, .ref (ρ m2)), (0, .ref (ρ this))]) hC 2 rfl dX6_sampleItems_54 rfl (by decide) (by first | rfl | simp (decide := true) [rv_cat, cat_ref, cat_int]) ?_
          refine x_goto (tgt := 2) hC dX6_sampleItems_57 (by decide) ?_
          refine xJ.sub (L' := [(0, .ref (ρ this)), (1, .int (x2_1 + 1))]) [2, 0] rfl ?_
          exact ih _ _ h hKK
        · have h := h.2 c3
          refine x_aload_n hC 0 rfl dX6_sampleItems_31 ?_
          refine x_getR (n0 := m2) hC (ci := 1) (T := TX1) (N := 12) (C := RX1) 4 k3 rfl rfl (by decide) rfl q356 dX6_sampleItems_32 ?_
          obtain ⟨m4, hm3, h⟩ := h
          rw [show rv ρ (hR τ2 m2 4) = Value.ref (ρ m4) from by rw [hm3]; rfl]
          obtain ⟨k5, h⟩ := h
          refine x_callV (n0 := m4) (as := []) (rest := []) hC (ci := 5) (r := (RX5, TX5, 2)) k5 rfl (fun l hl => m5_countTick l hl G ρ m4 τ2 _ h) q467 q468 q469 q11 q470 ⟨rfl, hd5_countTick⟩ (by decide) ⟨(show _ + 0 ≤ 0 by omega), (show _ + 0 ≤ 0 by omega)⟩ (by first | exact Nat.le_of_ble_eq_true rfl | (simp [rv_cat]; done) | (simp (decide := true) [rv_cat, cat_ref, cat_int]; done)) rfl dX6_sampleItems_35 (fun E σ9 hx => False.elim hx) (fun v2 σ1 ρ1 hp1 hag1 => ?_)
          obtain ⟨e9, r1, e8, h⟩ := hp1
          rw [e8, e9]
          refine xJ.nrm (k' := k + 0) (n' := n + 0) (pc' := 38) (st' := [.int r1]) rfl rfl rfl rfl ?_
          refine x_if_eq (tgt := 54) hC dX6_sampleItems_38 (by decide) (fun c4 => ?_) (fun c4 => ?_)
          · have h := h.1 c4
            refine x_iinc (v' := x2_1 + 1) (L' := [(1, .int (x2_1 + 1)), (2, .ref (ρ m2)), (0, .ref (ρ this))]) hC 2 rfl dX6_sampleItems_54 rfl (by decide) (by first | rfl | simp (decide := true) [rv_cat, cat_ref, cat_int]) ?_
            refine x_goto (tgt := 2) hC dX6_sampleItems_57 (by decide) ?_
            refine xJ.sub (L' := [(0, .ref (ρ this)), (1, .int (x2_1 + 1))]) [2, 0] rfl ?_
            exact ih _ _ h hKK
          · have h := h.2 c4
            refine x_aload_n hC 0 rfl dX6_sampleItems_41 ?_
            refine x_aload_n hC 1 rfl dX6_sampleItems_42 ?_
            have k6 : hK σ1 this = 7 := (hag1 this (by rw [k1]; decide)).1.trans k1
            refine x_getR (n0 := this) hC (ci := 6) (T := TX6) (N := 9) (C := RX6) 0 k6 rfl rfl (by decide) rfl q50 dX6_sampleItems_43 ?_
            refine x_aload_n hC 0 rfl dX6_sampleItems_46 ?_
            have k7 : hK σ1 m2 = 2 := (hag1 m2 (by rw [k3]; decide)).1.trans k3
            refine x_getI (n0 := m2) hC (ci := 1) (T := TX1) (N := 12) (C := RX1) 2 k7 rfl rfl (by decide) rfl q352 dX6_sampleItems_47 ?_
            obtain ⟨m5, hm4, h⟩ := h
            rw [show rv ρ (hR σ1 this 0) = Value.ref (ρ m5) from by rw [hm4]; rfl]
            obtain ⟨k8, h⟩ := h
            obtain ⟨v3, h⟩ := h
            refine x_iald (a := m5) hC k8 v3 dX6_sampleItems_50 ?_
            refine x_callV (n0 := m2) (as := [.int (hI σ1 m5 (Int32.toNatClampNeg (hI σ1 m2 2)))]) (rest := []) hC (ci := 1) (r := (RX1, TX1, 12)) k7 rfl (fun l hl => m1_sample l hl G ρ m2 (hI σ1 m5 (Int32.toNatClampNeg (hI σ1 m2 2))) σ1 _ h) q471 q472 q473 q12 q474 ⟨rfl, hd1_sample⟩ (by decide) ⟨(show _ + 0 ≤ 0 by omega), (show _ + 0 ≤ 0 by omega)⟩ (by first | exact Nat.le_of_ble_eq_true rfl | (simp [rv_cat]; done) | (simp (decide := true) [rv_cat, cat_ref, cat_int]; done)) rfl dX6_sampleItems_51 (fun E σ9 hx => False.elim hx) (fun v4 σ2 ρ2 hp2 hag2 => ?_)
            obtain ⟨e9, e8, h⟩ := hp2
            rw [e8, e9]
            refine xJ.nrm (k' := k + 0) (n' := n + 0) (pc' := 54) (st' := []) rfl rfl rfl rfl ?_
            refine x_iinc (v' := x2_1 + 1) (L' := [(1, .int (x2_1 + 1)), (2, .ref (ρ m2)), (0, .ref (ρ this))]) hC 2 rfl dX6_sampleItems_54 rfl (by decide) (by first | rfl | simp (decide := true) [rv_cat, cat_ref, cat_int]) ?_
            refine x_goto (tgt := 2) hC dX6_sampleItems_57 (by decide) ?_
            refine xJ.sub (L' := [(0, .ref (ρ this)), (1, .int (x2_1 + 1))]) [2, 0] rfl ?_
            exact ih _ _ h hKK
set_option maxHeartbeats 4000000 in
set_option maxRecDepth 20000 in
theorem m6_sampleItems (l : Launch) (hl : l.stackTraces = false) (G : xG) (ρ : Nm → Nat) (this : Nm) (σ : PH) (Q : PH → Prop) (h : w6_sampleItems this σ Q) : xMet l yX6_sampleItems (.code yX6_sampleItems cX6_sampleItems 3 none) rm6_sampleItems G ρ σ [.ref (ρ this)] (eV ρ Q) xNo := by
  refine xMet.of hl (by decide +kernel) (Nat.le_of_ble_eq_true rfl) (fun X hC hr hn htab h0 => ?_)
  have hC : xC G X "PlantServer" cX6_sampleItems 3 rm6_sampleItems := hC
  unfold w6_sampleItems at h
  refine xJ.loc (L' := [(0, .ref (ρ this))]) rfl ?_
  refine x_iconst (v := 0) hC dX6_sampleItems_0 (by decide) ?_
  refine x_istore_n (L' := [(1, .int 0), (0, .ref (ρ this))]) hC dX6_sampleItems_1 (by decide) (by first | rfl | simp (decide := true) [rv_cat, cat_ref, cat_int]) ?_
  refine xJ.sub (L' := [(0, .ref (ρ this)), (1, .int 0)]) [1, 0] rfl ?_
  obtain ⟨f2, h⟩ := h
  refine ml6_sampleItems_2 hC hr htab this h0 (0) (0) (by decide) (by decide) _ Q _ f2 _ _ h (fun y1 τ1 h => ?_)
  exact x_vret hC hr dX6_sampleItems_60 (by decide) (by decide) ⟨rfl, rfl, h⟩
/-! PlantServer$Subscription.findTold -/
theorem dX4_findTold_0 : decode cX4_findTold 0 = .ok (.iconst 0, 1) := by decide +kernel
theorem dX4_findTold_1 : decode cX4_findTold 1 = .ok (.istore_n 1, 1) := by decide +kernel
theorem dX4_findTold_2 : decode cX4_findTold 2 = .ok (.iconst 0, 1) := by decide +kernel
theorem dX4_findTold_3 : decode cX4_findTold 3 = .ok (.istore_n 2, 1) := by decide +kernel
theorem dX4_findTold_4 : decode cX4_findTold 4 = .ok (.iconst 0, 1) := by decide +kernel
theorem dX4_findTold_5 : decode cX4_findTold 5 = .ok (.istore_n 3, 1) := by decide +kernel
theorem dX4_findTold_6 : decode cX4_findTold 6 = .ok (.iconst 0, 1) := by decide +kernel
theorem dX4_findTold_7 : decode cX4_findTold 7 = .ok (.istore 4, 2) := by decide +kernel
theorem dX4_findTold_9 : decode cX4_findTold 9 = .ok (.iload 4, 2) := by decide +kernel
theorem dX4_findTold_11 : decode cX4_findTold 11 = .ok (.aload_n 0, 1) := by decide +kernel
theorem dX4_findTold_12 : decode cX4_findTold 12 = .ok (.getfield 27, 3) := by decide +kernel
theorem dX4_findTold_15 : decode cX4_findTold 15 = .ok (.if_icmp .ge 70, 3) := by decide +kernel
theorem dX4_findTold_18 : decode cX4_findTold 18 = .ok (.aload_n 0, 1) := by decide +kernel
theorem dX4_findTold_19 : decode cX4_findTold 19 = .ok (.getfield 11, 3) := by decide +kernel
theorem dX4_findTold_22 : decode cX4_findTold 22 = .ok (.iload 4, 2) := by decide +kernel
theorem dX4_findTold_24 : decode cX4_findTold 24 = .ok (.aaload, 1) := by decide +kernel
theorem dX4_findTold_25 : decode cX4_findTold 25 = .ok (.astore 5, 2) := by decide +kernel
theorem dX4_findTold_27 : decode cX4_findTold 27 = .ok (.aload 5, 2) := by decide +kernel
theorem dX4_findTold_29 : decode cX4_findTold 29 = .ok (.ifnull 50, 3) := by decide +kernel
theorem dX4_findTold_32 : decode cX4_findTold 32 = .ok (.aload 5, 2) := by decide +kernel
theorem dX4_findTold_34 : decode cX4_findTold 34 = .ok (.getfield 67, 3) := by decide +kernel
theorem dX4_findTold_37 : decode cX4_findTold 37 = .ok (.getfield 71, 3) := by decide +kernel
theorem dX4_findTold_40 : decode cX4_findTold 40 = .ok (.ifCond .le 39, 3) := by decide +kernel
theorem dX4_findTold_43 : decode cX4_findTold 43 = .ok (.iload_n 3, 1) := by decide +kernel
theorem dX4_findTold_44 : decode cX4_findTold 44 = .ok (.iconst 1, 1) := by decide +kernel
theorem dX4_findTold_45 : decode cX4_findTold 45 = .ok (.aload 5, 2) := by decide +kernel
theorem dX4_findTold_47 : decode cX4_findTold 47 = .ok (.getfield 76, 3) := by decide +kernel
theorem dX4_findTold_50 : decode cX4_findTold 50 = .ok (.ishl, 1) := by decide +kernel
theorem dX4_findTold_51 : decode cX4_findTold 51 = .ok (.ior, 1) := by decide +kernel
theorem dX4_findTold_52 : decode cX4_findTold 52 = .ok (.istore_n 3, 1) := by decide +kernel
theorem dX4_findTold_53 : decode cX4_findTold 53 = .ok (.aload 5, 2) := by decide +kernel
theorem dX4_findTold_55 : decode cX4_findTold 55 = .ok (.getfield 79, 3) := by decide +kernel
theorem dX4_findTold_58 : decode cX4_findTold 58 = .ok (.ifCond .eq 21, 3) := by decide +kernel
theorem dX4_findTold_61 : decode cX4_findTold 61 = .ok (.iload_n 1, 1) := by decide +kernel
theorem dX4_findTold_62 : decode cX4_findTold 62 = .ok (.iconst 1, 1) := by decide +kernel
theorem dX4_findTold_63 : decode cX4_findTold 63 = .ok (.aload 5, 2) := by decide +kernel
theorem dX4_findTold_65 : decode cX4_findTold 65 = .ok (.getfield 76, 3) := by decide +kernel
theorem dX4_findTold_68 : decode cX4_findTold 68 = .ok (.ishl, 1) := by decide +kernel
theorem dX4_findTold_69 : decode cX4_findTold 69 = .ok (.ior, 1) := by decide +kernel
theorem dX4_findTold_70 : decode cX4_findTold 70 = .ok (.istore_n 1, 1) := by decide +kernel
theorem dX4_findTold_71 : decode cX4_findTold 71 = .ok (.iload_n 2, 1) := by decide +kernel
theorem dX4_findTold_72 : decode cX4_findTold 72 = .ok (.aload 5, 2) := by decide +kernel
theorem dX4_findTold_74 : decode cX4_findTold 74 = .ok (.getfield 82, 3) := by decide +kernel
theorem dX4_findTold_77 : decode cX4_findTold 77 = .ok (.ior, 1) := by decide +kernel
theorem dX4_findTold_78 : decode cX4_findTold 78 = .ok (.istore_n 2, 1) := by decide +kernel
theorem dX4_findTold_79 : decode cX4_findTold 79 = .ok (.iinc 4 1, 3) := by decide +kernel
theorem dX4_findTold_82 : decode cX4_findTold 82 = .ok (.goto (-73), 3) := by decide +kernel
theorem dX4_findTold_85 : decode cX4_findTold 85 = .ok (.iload_n 1, 1) := by decide +kernel
theorem dX4_findTold_86 : decode cX4_findTold 86 = .ok (.iload_n 2, 1) := by decide +kernel
theorem dX4_findTold_87 : decode cX4_findTold 87 = .ok (.iload_n 3, 1) := by decide +kernel
theorem dX4_findTold_88 : decode cX4_findTold 88 = .ok (.iand, 1) := by decide +kernel
theorem dX4_findTold_89 : decode cX4_findTold 89 = .ok (.ior, 1) := by decide +kernel
theorem dX4_findTold_90 : decode cX4_findTold 90 = .ok (.ireturn, 1) := by decide +kernel
abbrev rm4_findTold : Room := { frames := 0, cells := 0, slots := 0, locals := 0 }
theorem hd4_findTold : yX4_findTold.cls ≠ "java/lang/invoke/MethodHandle" ∧ yX4_findTold.cls ≠ "java/lang/invoke/VarHandle" ∧ (parseMethodDescriptor yX4_findTold.desc).map (fun d => d.parameters.length) = some 0 := by decide +kernel
set_option maxHeartbeats 4000000 in
set_option maxRecDepth 20000 in
theorem ml4_findTold_9 {G : xG} {X : xX} (hC : xC G X "PlantServer$Subscription" cX4_findTold 6 rm4_findTold) (hr : xRt X (some .int)) (htab : xTab X []) (this : Nm) {ρ : Nm → Nat} (h0 : xR0 X ρ) (k n : Nat) (hk1 : k ≤ 0) (hk2 : n ≤ 0) (K : Int32 → Int32 → Int32 → Int32 → PH → Prop) (Q : Int32 → PH → Prop) (Xp : String → PH → Prop) : ∀ (f9 : Nat) (x9_1 : Int32) (x9_2 : Int32) (x9_3 : Int32) (x9_4 : Int32) (τ9 : PH), l4_findTold_9 this K Q f9 x9_1 x9_2 x9_3 x9_4 τ9 → (∀ (x9_1 : Int32) (x9_2 : Int32) (x9_3 : Int32) (x9_4 : Int32) (τ9 : PH), K x9_1 x9_2 x9_3 x9_4 τ9 → xJ G X (xT X (eI ρ Q) Xp G rm4_findTold) 6 ρ τ9 k n 85 [(0, .ref (ρ this)), (1, .int x9_1), (2, .int x9_2), (3, .int x9_3), (4, .int x9_4)] []) → xJ G X (xT X (eI ρ Q) Xp G rm4_findTold) 6 ρ τ9 k n 9 [(0, .ref (ρ this)), (1, .int x9_1), (2, .int x9_2), (3, .int x9_3), (4, .int x9_4)] [] := by
  intro f9
  induction f9 with
  | zero => intro x9_1 x9_2 x9_3 x9_4 τ9 h hKK; unfold l4_findTold_9 at h; exact h.elim
  | succ f9 ih =>
    intro x9_1 x9_2 x9_3 x9_4 τ9 h hKK
    unfold l4_findTold_9 at h
    refine x_iload hC 4 rfl dX4_findTold_9 ?_
    refine x_aload_n hC 0 rfl dX4_findTold_11 ?_
    obtain ⟨k1, h⟩ := h
    refine x_getI (n0 := this) hC (ci := 4) (T := TX4) (N := 14) (C := RX4) 8 k1 rfl rfl (by decide) rfl q247 dX4_findTold_12 ?_
    refine x_icmp_ge (tgt := 85) hC dX4_findTold_15 (by decide) (fun c1 => ?_) (fun c1 => ?_)
    · have h := h.1 c1
      exact hKK _ _ _ _ _ h
    · have h := h.2 c1
      refine x_aload_n hC 0 rfl dX4_findTold_18 ?_
      refine x_getR (n0 := this) hC (ci := 4) (T := TX4) (N := 14) (C := RX4) 5 k1 rfl rfl (by decide) rfl q243 dX4_findTold_19 ?_
      refine x_iload hC 4 rfl dX4_findTold_22 ?_
      obtain ⟨m1, hm1, h⟩ := h
      rw [show rv ρ (hR τ9 this 5) = Value.ref (ρ m1) from by rw [hm1]; rfl]
      obtain ⟨k2, h⟩ := h
      obtain ⟨v1, h⟩ := h
      refine x_aald11 (a := m1) hC k2 v1 dX4_findTold_24 ?_
      refine x_astoreQ (o := hR τ9 m1 (Int32.toNatClampNeg x9_4)) (L' := [(5, rv ρ (hR τ9 m1 (Int32.toNatClampNeg x9_4))), (0, .ref (ρ this)), (1, .int x9_1), (2, .int x9_2), (3, .int x9_3), (4, .int x9_4)]) hC dX4_findTold_25 (by decide) (by first | rfl | simp (decide := true) [rv_cat, cat_ref, cat_int]) ?_
      refine x_aloadQ (o := hR τ9 m1 (Int32.toNatClampNeg x9_4)) hC 0 rfl dX4_findTold_27 ?_
      refine x_ifnull (o := hR τ9 m1 (Int32.toNatClampNeg x9_4)) (tgt := 79) hC dX4_findTold_29 (by decide) (fun c2 => ?_) (fun m2 c2 => ?_)
      · have h := h.1 c2
        rw [show rv ρ (hR τ9 m1 (Int32.toNatClampNeg x9_4)) = Value.null from by rw [c2]; rfl]
        refine x_iinc (v' := x9_4 + 1) (L' := [(4, .int (x9_4 + 1)), (5, .null), (0, .ref (ρ this)), (1, .int x9_1), (2, .int x9_2), (3, .int x9_3)]) hC 5 rfl dX4_findTold_79 rfl (by decide) (by first | rfl | simp (decide := true) [rv_cat, cat_ref, cat_int]) ?_
        refine x_goto (tgt := 9) hC dX4_findTold_82 (by decide) ?_
        refine xJ.sub (L' := [(0, .ref (ρ this)), (1, .int x9_1), (2, .int x9_2), (3, .int x9_3), (4, .int (x9_4 + 1))]) [2, 3, 4, 5, 0] rfl ?_
        exact ih _ _ _ _ _ h hKK
      · have h := h.2 m2 c2
        rw [show rv ρ (hR τ9 m1 (Int32.toNatClampNeg x9_4)) = Value.ref (ρ m2) from by rw [c2]; rfl]
        refine x_aload hC 0 rfl dX4_findTold_32 ?_
        obtain ⟨k3, h⟩ := h
        refine x_getR (n0 := m2) hC (ci := 1) (T := TX1) (N := 12) (C := RX1) 5 k3 rfl rfl (by decide) rfl q358 dX4_findTold_34 ?_
        obtain ⟨m3, hm2, h⟩ := h
        rw [show rv ρ (hR τ9 m2 5) = Value.ref (ρ m3) from by rw [hm2]; rfl]
        obtain ⟨k4, h⟩ := h
        refine x_getI (n0 := m3) hC (ci := 3) (T := TX3) (N := 5) (C := RX3) 4 k4 rfl rfl (by decide) rfl q324 dX4_findTold_37 ?_
        refine x_if_le (tgt := 79) hC dX4_findTold_40 (by decide) (fun c3 => ?_) (fun c3 => ?_)
        · have h := h.1 c3
          refine x_iinc (v' := x9_4 + 1) (L' := [(4, .int (x9_4 + 1)), (5, .ref (ρ m2)), (0, .ref (ρ this)), (1, .int x9_1), (2, .int x9_2), (3, .int x9_3)]) hC 5 rfl dX4_findTold_79 rfl (by decide) (by first | rfl | simp (decide := true) [rv_cat, cat_ref, cat_int]) ?_
          refine x_goto (tgt := 9) hC dX4_findTold_82 (by decide) ?_
          refine xJ.sub (L' := [(0, .ref (ρ this)), (1, .int x9_1), (2, .int x9_2), (3, .int x9_3), (4, .int (x9_4 + 1))]) [2, 3, 4, 5, 0] rfl ?_
          exact ih _ _ _ _ _ h hKK
        · have h := h.2 c3
          refine x_iload_n hC 4 rfl dX4_findTold_43 ?_
          refine x_iconst (v := 1) hC dX4_findTold_44 (by decide) ?_
          refine x_aload hC 0 rfl dX4_findTold_45 ?_
          refine x_getI (n0 := m2) hC (ci := 1) (T := TX1) (N := 12) (C := RX1) 0 k3 rfl rfl (by decide) rfl q346 dX4_findTold_47 ?_
          refine x_ishl hC dX4_findTold_50 ?_
          refine x_ior hC dX4_findTold_51 ?_
          refine x_istore_n (L' := [(3, .int (x9_3 ||| (1 <<< ((hI τ9 m2 0) &&& 31)))), (5, .ref (ρ m2)), (0, .ref (ρ this)), (1, .int x9_1), (2, .int x9_2), (4, .int x9_4)]) hC dX4_findTold_52 (by decide) (by first | rfl | simp (decide := true) [rv_cat, cat_ref, cat_int]) ?_
          refine x_aload hC 1 rfl dX4_findTold_53 ?_
          refine x_getI (n0 := m2) hC (ci := 1) (T := TX1) (N := 12) (C := RX1) 6 k3 rfl rfl (by decide) rfl q361 dX4_findTold_55 ?_
          refine x_if_eq (tgt := 79) hC dX4_findTold_58 (by decide) (fun c4 => ?_) (fun c4 => ?_)
          · have h := h.1 c4
            refine x_iinc (v' := x9_4 + 1) (L' := [(4, .int (x9_4 + 1)), (3, .int (x9_3 ||| (1 <<< ((hI τ9 m2 0) &&& 31)))), (5, .ref (ρ m2)), (0, .ref (ρ this)), (1, .int x9_1), (2, .int x9_2)]) hC 5 rfl dX4_findTold_79 rfl (by decide) (by first | rfl | simp (decide := true) [rv_cat, cat_ref, cat_int]) ?_
            refine x_goto (tgt := 9) hC dX4_findTold_82 (by decide) ?_
            refine xJ.sub (L' := [(0, .ref (ρ this)), (1, .int x9_1), (2, .int x9_2), (3, .int (x9_3 ||| (1 <<< ((hI τ9 m2 0) &&& 31)))), (4, .int (x9_4 + 1))]) [3, 4, 5, 1, 0] rfl ?_
            exact ih _ _ _ _ _ h hKK
          · have h := h.2 c4
            refine x_iload_n hC 3 rfl dX4_findTold_61 ?_
            refine x_iconst (v := 1) hC dX4_findTold_62 (by decide) ?_
            refine x_aload hC 1 rfl dX4_findTold_63 ?_
            refine x_getI (n0 := m2) hC (ci := 1) (T := TX1) (N := 12) (C := RX1) 0 k3 rfl rfl (by decide) rfl q346 dX4_findTold_65 ?_
            refine x_ishl hC dX4_findTold_68 ?_
            refine x_ior hC dX4_findTold_69 ?_
            refine x_istore_n (L' := [(1, .int (x9_1 ||| (1 <<< ((hI τ9 m2 0) &&& 31)))), (3, .int (x9_3 ||| (1 <<< ((hI τ9 m2 0) &&& 31)))), (5, .ref (ρ m2)), (0, .ref (ρ this)), (2, .int x9_2), (4, .int x9_4)]) hC dX4_findTold_70 (by decide) (by first | rfl | simp (decide := true) [rv_cat, cat_ref, cat_int]) ?_
            refine x_iload_n hC 4 rfl dX4_findTold_71 ?_
            refine x_aload hC 2 rfl dX4_findTold_72 ?_
            refine x_getI (n0 := m2) hC (ci := 1) (T := TX1) (N := 12) (C := RX1) 7 k3 rfl rfl (by decide) rfl q364 dX4_findTold_74 ?_
            refine x_ior hC dX4_findTold_77 ?_
            refine x_istore_n (L' := [(2, .int (x9_2 ||| (hI τ9 m2 7))), (1, .int (x9_1 ||| (1 <<< ((hI τ9 m2 0) &&& 31)))), (3, .int (x9_3 ||| (1 <<< ((hI τ9 m2 0) &&& 31)))), (5, .ref (ρ m2)), (0, .ref (ρ this)), (4, .int x9_4)]) hC dX4_findTold_78 (by decide) (by first | rfl | simp (decide := true) [rv_cat, cat_ref, cat_int]) ?_
            refine x_iinc (v' := x9_4 + 1) (L' := [(4, .int (x9_4 + 1)), (2, .int (x9_2 ||| (hI τ9 m2 7))), (1, .int (x9_1 ||| (1 <<< ((hI τ9 m2 0) &&& 31)))), (3, .int (x9_3 ||| (1 <<< ((hI τ9 m2 0) &&& 31)))), (5, .ref (ρ m2)), (0, .ref (ρ this))]) hC 5 rfl dX4_findTold_79 rfl (by decide) (by first | rfl | simp (decide := true) [rv_cat, cat_ref, cat_int]) ?_
            refine x_goto (tgt := 9) hC dX4_findTold_82 (by decide) ?_
            refine xJ.sub (L' := [(0, .ref (ρ this)), (1, .int (x9_1 ||| (1 <<< ((hI τ9 m2 0) &&& 31)))), (2, .int (x9_2 ||| (hI τ9 m2 7))), (3, .int (x9_3 ||| (1 <<< ((hI τ9 m2 0) &&& 31)))), (4, .int (x9_4 + 1))]) [5, 2, 1, 3, 0] rfl ?_
            exact ih _ _ _ _ _ h hKK
set_option maxHeartbeats 4000000 in
set_option maxRecDepth 20000 in
theorem m4_findTold (l : Launch) (hl : l.stackTraces = false) (G : xG) (ρ : Nm → Nat) (this : Nm) (σ : PH) (Q : Int32 → PH → Prop) (h : w4_findTold this σ Q) : xMet l yX4_findTold (.code yX4_findTold cX4_findTold 6 (some .int)) rm4_findTold G ρ σ [.ref (ρ this)] (eI ρ Q) xNo := by
  refine xMet.of hl (by decide +kernel) (Nat.le_of_ble_eq_true rfl) (fun X hC hr hn htab h0 => ?_)
  have hC : xC G X "PlantServer$Subscription" cX4_findTold 6 rm4_findTold := hC
  unfold w4_findTold at h
  refine xJ.loc (L' := [(0, .ref (ρ this))]) rfl ?_
  refine x_iconst (v := 0) hC dX4_findTold_0 (by decide) ?_
  refine x_istore_n (L' := [(1, .int 0), (0, .ref (ρ this))]) hC dX4_findTold_1 (by decide) (by first | rfl | simp (decide := true) [rv_cat, cat_ref, cat_int]) ?_
  refine x_iconst (v := 0) hC dX4_findTold_2 (by decide) ?_
  refine x_istore_n (L' := [(2, .int 0), (1, .int 0), (0, .ref (ρ this))]) hC dX4_findTold_3 (by decide) (by first | rfl | simp (decide := true) [rv_cat, cat_ref, cat_int]) ?_
  refine x_iconst (v := 0) hC dX4_findTold_4 (by decide) ?_
  refine x_istore_n (L' := [(3, .int 0), (2, .int 0), (1, .int 0), (0, .ref (ρ this))]) hC dX4_findTold_5 (by decide) (by first | rfl | simp (decide := true) [rv_cat, cat_ref, cat_int]) ?_
  refine x_iconst (v := 0) hC dX4_findTold_6 (by decide) ?_
  refine x_istore (L' := [(4, .int 0), (3, .int 0), (2, .int 0), (1, .int 0), (0, .ref (ρ this))]) hC dX4_findTold_7 (by decide) (by first | rfl | simp (decide := true) [rv_cat, cat_ref, cat_int]) ?_
  refine xJ.sub (L' := [(0, .ref (ρ this)), (1, .int 0), (2, .int 0), (3, .int 0), (4, .int 0)]) [4, 3, 2, 1, 0] rfl ?_
  obtain ⟨f9, h⟩ := h
  refine ml4_findTold_9 hC hr htab this h0 (0) (0) (by decide) (by decide) _ Q _ f9 _ _ _ _ _ h (fun y1 y2 y3 y4 τ1 h => ?_)
  refine x_iload_n hC 1 rfl dX4_findTold_85 ?_
  refine x_iload_n hC 2 rfl dX4_findTold_86 ?_
  refine x_iload_n hC 3 rfl dX4_findTold_87 ?_
  refine x_iand hC dX4_findTold_88 ?_
  refine x_ior hC dX4_findTold_89 ?_
  exact x_iret hC hr dX4_findTold_90 (by decide) (by decide) ⟨rfl, _, rfl, h⟩
/-! PlantServer$Subscription.isSomethingDue -/
theorem dX4_isSomethingDue_0 : decode cX4_isSomethingDue 0 = .ok (.iload_n 1, 1) := by decide +kernel
theorem dX4_isSomethingDue_1 : decode cX4_isSomethingDue 1 = .ok (.ifCond .eq 10, 3) := by decide +kernel
theorem dX4_isSomethingDue_4 : decode cX4_isSomethingDue 4 = .ok (.aload_n 0, 1) := by decide +kernel
theorem dX4_isSomethingDue_5 : decode cX4_isSomethingDue 5 = .ok (.iconst 0, 1) := by decide +kernel
theorem dX4_isSomethingDue_6 : decode cX4_isSomethingDue 6 = .ok (.putfield 40, 3) := by decide +kernel
theorem dX4_isSomethingDue_9 : decode cX4_isSomethingDue 9 = .ok (.iconst 1, 1) := by decide +kernel
theorem dX4_isSomethingDue_10 : decode cX4_isSomethingDue 10 = .ok (.ireturn, 1) := by decide +kernel
theorem dX4_isSomethingDue_11 : decode cX4_isSomethingDue 11 = .ok (.aload_n 0, 1) := by decide +kernel
theorem dX4_isSomethingDue_12 : decode cX4_isSomethingDue 12 = .ok (.dup, 1) := by decide +kernel
theorem dX4_isSomethingDue_13 : decode cX4_isSomethingDue 13 = .ok (.getfield 40, 3) := by decide +kernel
theorem dX4_isSomethingDue_16 : decode cX4_isSomethingDue 16 = .ok (.iconst 1, 1) := by decide +kernel
theorem dX4_isSomethingDue_17 : decode cX4_isSomethingDue 17 = .ok (.iadd, 1) := by decide +kernel
theorem dX4_isSomethingDue_18 : decode cX4_isSomethingDue 18 = .ok (.putfield 40, 3) := by decide +kernel
theorem dX4_isSomethingDue_21 : decode cX4_isSomethingDue 21 = .ok (.aload_n 0, 1) := by decide +kernel
theorem dX4_isSomethingDue_22 : decode cX4_isSomethingDue 22 = .ok (.getfield 40, 3) := by decide +kernel
theorem dX4_isSomethingDue_25 : decode cX4_isSomethingDue 25 = .ok (.aload_n 0, 1) := by decide +kernel
theorem dX4_isSomethingDue_26 : decode cX4_isSomethingDue 26 = .ok (.getfield 55, 3) := by decide +kernel
theorem dX4_isSomethingDue_29 : decode cX4_isSomethingDue 29 = .ok (.if_icmp .lt 7, 3) := by decide +kernel
theorem dX4_isSomethingDue_32 : decode cX4_isSomethingDue 32 = .ok (.iconst 1, 1) := by decide +kernel
theorem dX4_isSomethingDue_33 : decode cX4_isSomethingDue 33 = .ok (.goto 4, 3) := by decide +kernel
theorem dX4_isSomethingDue_36 : decode cX4_isSomethingDue 36 = .ok (.iconst 0, 1) := by decide +kernel
theorem dX4_isSomethingDue_37 : decode cX4_isSomethingDue 37 = .ok (.ireturn, 1) := by decide +kernel
abbrev rm4_isSomethingDue : Room := { frames := 0, cells := 0, slots := 0, locals := 0 }
theorem hd4_isSomethingDue : yX4_isSomethingDue.cls ≠ "java/lang/invoke/MethodHandle" ∧ yX4_isSomethingDue.cls ≠ "java/lang/invoke/VarHandle" ∧ (parseMethodDescriptor yX4_isSomethingDue.desc).map (fun d => d.parameters.length) = some 1 := by decide +kernel
set_option maxHeartbeats 4000000 in
set_option maxRecDepth 20000 in
theorem m4_isSomethingDue (l : Launch) (hl : l.stackTraces = false) (G : xG) (ρ : Nm → Nat) (this : Nm) (p1 : Int32) (σ : PH) (Q : Int32 → PH → Prop) (h : w4_isSomethingDue this p1 σ Q) : xMet l yX4_isSomethingDue (.code yX4_isSomethingDue cX4_isSomethingDue 2 (some .boolean)) rm4_isSomethingDue G ρ σ [.ref (ρ this), .int p1] (eI ρ Q) xNo := by
  refine xMet.of hl (by decide +kernel) (Nat.le_of_ble_eq_true rfl) (fun X hC hr hn htab h0 => ?_)
  have hC : xC G X "PlantServer$Subscription" cX4_isSomethingDue 2 rm4_isSomethingDue := hC
  unfold w4_isSomethingDue at h
  refine xJ.loc (L' := [(0, .ref (ρ this)), (1, .int p1)]) rfl ?_
  refine x_iload_n hC 1 rfl dX4_isSomethingDue_0 ?_
  refine x_if_eq (tgt := 11) hC dX4_isSomethingDue_1 (by decide) (fun c1 => ?_) (fun c1 => ?_)
  · have h := h.1 c1
    refine x_aload_n hC 0 rfl dX4_isSomethingDue_11 ?_
    refine x_dup hC (by first | rfl | exact rv_cat) dX4_isSomethingDue_12 ?_
    obtain ⟨k1, h⟩ := h
    refine x_getI (n0 := this) hC (ci := 4) (T := TX4) (N := 14) (C := RX4) 12 k1 rfl rfl (by decide) rfl q254 dX4_isSomethingDue_13 ?_
    refine x_iconst (v := 1) hC dX4_isSomethingDue_16 (by decide) ?_
    refine x_iadd hC dX4_isSomethingDue_17 ?_
    refine x_putI (n0 := this) hC (ci := 4) (T := TX4) (N := 14) (C := RX4) 12 k1 rfl rfl (by decide) rfl q254 rfl (tyX4_ok 12 (by decide)) dX4_isSomethingDue_18 ?_
    refine xJ.nmH (fun σ1 e1 => ?_)
    have h := h σ1 e1
    have r1 : hR σ1 = hR σ ∧ hL σ1 = hL σ := by rw [e1]; exact ⟨rfl, rfl⟩
    refine x_aload_n hC 0 rfl dX4_isSomethingDue_21 ?_
    have k2 : hK σ1 this = 5 := by rw [e1]; exact k1
    refine x_getI (n0 := this) hC (ci := 4) (T := TX4) (N := 14) (C := RX4) 12 k2 rfl rfl (by decide) rfl q254 dX4_isSomethingDue_22 ?_
    refine x_aload_n hC 0 rfl dX4_isSomethingDue_25 ?_
    refine x_getI (n0 := this) hC (ci := 4) (T := TX4) (N := 14) (C := RX4) 1 k2 rfl rfl (by decide) rfl q238 dX4_isSomethingDue_26 ?_
    refine x_icmp_lt (tgt := 36) hC dX4_isSomethingDue_29 (by decide) (fun c2 => ?_) (fun c2 => ?_)
    · have h := h.1 c2
      refine x_iconst (v := 0) hC dX4_isSomethingDue_36 (by decide) ?_
      exact x_zret hC hr zb0 dX4_isSomethingDue_37 (by decide) (by decide) ⟨rfl, _, rfl, h⟩
    · have h := h.2 c2
      refine x_iconst (v := 1) hC dX4_isSomethingDue_32 (by decide) ?_
      refine x_goto (tgt := 37) hC dX4_isSomethingDue_33 (by decide) ?_
      exact x_zret hC hr zb1 dX4_isSomethingDue_37 (by decide) (by decide) ⟨rfl, _, rfl, h⟩
  · have h := h.2 c1
    refine x_aload_n hC 0 rfl dX4_isSomethingDue_4 ?_
    refine x_iconst (v := 0) hC dX4_isSomethingDue_5 (by decide) ?_
    obtain ⟨k3, h⟩ := h
    refine x_putI (n0 := this) hC (ci := 4) (T := TX4) (N := 14) (C := RX4) 12 k3 rfl rfl (by decide) rfl q254 rfl (tyX4_ok 12 (by decide)) dX4_isSomethingDue_6 ?_
    refine xJ.nmH (fun σ2 e2 => ?_)
    have h := h σ2 e2
    have r2 : hR σ2 = hR σ ∧ hL σ2 = hL σ := by rw [e2]; exact ⟨rfl, rfl⟩
    refine x_iconst (v := 1) hC dX4_isSomethingDue_9 (by decide) ?_
    exact x_zret hC hr zb1 dX4_isSomethingDue_10 (by decide) (by decide) ⟨rfl, _, rfl, h⟩
/-! PlantServer$Subscription.lose -/
theorem dX4_lose_0 : decode cX4_lose 0 = .ok (.aload_n 0, 1) := by decide +kernel
theorem dX4_lose_1 : decode cX4_lose 1 = .ok (.dup, 1) := by decide +kernel
theorem dX4_lose_2 : decode cX4_lose 2 = .ok (.getfield 43, 3) := by decide +kernel
theorem dX4_lose_5 : decode cX4_lose 5 = .ok (.iconst 1, 1) := by decide +kernel
theorem dX4_lose_6 : decode cX4_lose 6 = .ok (.iadd, 1) := by decide +kernel
theorem dX4_lose_7 : decode cX4_lose 7 = .ok (.putfield 43, 3) := by decide +kernel
theorem dX4_lose_10 : decode cX4_lose 10 = .ok (.aload_n 0, 1) := by decide +kernel
theorem dX4_lose_11 : decode cX4_lose 11 = .ok (.getfield 43, 3) := by decide +kernel
theorem dX4_lose_14 : decode cX4_lose 14 = .ok (.aload_n 0, 1) := by decide +kernel
theorem dX4_lose_15 : decode cX4_lose 15 = .ok (.getfield 58, 3) := by decide +kernel
theorem dX4_lose_18 : decode cX4_lose 18 = .ok (.if_icmp .lt 8, 3) := by decide +kernel
theorem dX4_lose_21 : decode cX4_lose 21 = .ok (.aload_n 0, 1) := by decide +kernel
theorem dX4_lose_22 : decode cX4_lose 22 = .ok (.iconst 0, 1) := by decide +kernel
theorem dX4_lose_23 : decode cX4_lose 23 = .ok (.putfield 23, 3) := by decide +kernel
theorem dX4_lose_26 : decode cX4_lose 26 = .ok (.return_, 1) := by decide +kernel
abbrev rm4_lose : Room := { frames := 0, cells := 0, slots := 0, locals := 0 }
theorem hd4_lose : yX4_lose.cls ≠ "java/lang/invoke/MethodHandle" ∧ yX4_lose.cls ≠ "java/lang/invoke/VarHandle" ∧ (parseMethodDescriptor yX4_lose.desc).map (fun d => d.parameters.length) = some 0 := by decide +kernel
set_option maxHeartbeats 4000000 in
set_option maxRecDepth 20000 in
theorem m4_lose (l : Launch) (hl : l.stackTraces = false) (G : xG) (ρ : Nm → Nat) (this : Nm) (σ : PH) (Q : PH → Prop) (h : w4_lose this σ Q) : xMet l yX4_lose (.code yX4_lose cX4_lose 1 none) rm4_lose G ρ σ [.ref (ρ this)] (eV ρ Q) xNo := by
  refine xMet.of hl (by decide +kernel) (Nat.le_of_ble_eq_true rfl) (fun X hC hr hn htab h0 => ?_)
  have hC : xC G X "PlantServer$Subscription" cX4_lose 1 rm4_lose := hC
  unfold w4_lose at h
  refine xJ.loc (L' := [(0, .ref (ρ this))]) rfl ?_
  refine x_aload_n hC 0 rfl dX4_lose_0 ?_
  refine x_dup hC (by first | rfl | exact rv_cat) dX4_lose_1 ?_
  obtain ⟨k1, h⟩ := h
  refine x_getI (n0 := this) hC (ci := 4) (T := TX4) (N := 14) (C := RX4) 13 k1 rfl rfl (by decide) rfl q255 dX4_lose_2 ?_
  refine x_iconst (v := 1) hC dX4_lose_5 (by decide) ?_
  refine x_iadd hC dX4_lose_6 ?_
  refine x_putI (n0 := this) hC (ci := 4) (T := TX4) (N := 14) (C := RX4) 13 k1 rfl rfl (by decide) rfl q255 rfl (tyX4_ok 13 (by decide)) dX4_lose_7 ?_
  refine xJ.nmH (fun σ1 e1 => ?_)
  have h := h σ1 e1
  have r1 : hR σ1 = hR σ ∧ hL σ1 = hL σ := by rw [e1]; exact ⟨rfl, rfl⟩
  refine x_aload_n hC 0 rfl dX4_lose_10 ?_
  have k2 : hK σ1 this = 5 := by rw [e1]; exact k1
  refine x_getI (n0 := this) hC (ci := 4) (T := TX4) (N := 14) (C := RX4) 13 k2 rfl rfl (by decide) rfl q255 dX4_lose_11 ?_
  refine x_aload_n hC 0 rfl dX4_lose_14 ?_
  refine x_getI (n0 := this) hC (ci := 4) (T := TX4) (N := 14) (C := RX4) 2 k2 rfl rfl (by decide) rfl q239 dX4_lose_15 ?_
  refine x_icmp_lt (tgt := 26) hC dX4_lose_18 (by decide) (fun c1 => ?_) (fun c1 => ?_)
  · have h := h.1 c1
    exact x_vret hC hr dX4_lose_26 (by decide) (by decide) ⟨rfl, rfl, h⟩
  · have h := h.2 c1
    refine x_aload_n hC 0 rfl dX4_lose_21 ?_
    refine x_iconst (v := 0) hC dX4_lose_22 (by decide) ?_
    refine x_putZ (n0 := this) hC (ci := 4) (T := TX4) (N := 14) (C := RX4) 7 k2 rfl rfl (by decide) rfl q245 rfl (tyX4_ok 7 (by decide)) zb0 dX4_lose_23 ?_
    refine xJ.nmH (fun σ2 e2 => ?_)
    have h := h σ2 e2
    have r2 : hR σ2 = hR σ ∧ hL σ2 = hL σ := by rw [e2]; exact ⟨r1.1, r1.2⟩
    exact x_vret hC hr dX4_lose_26 (by decide) (by decide) ⟨rfl, rfl, h⟩
