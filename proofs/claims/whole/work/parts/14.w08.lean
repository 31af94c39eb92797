/-! PlantServer.liveItem -/
theorem dX6_liveItem_0 : decode cX6_liveItem 0 = .ok (.iload_n 1, 1) := by decide +kernel
theorem dX6_liveItem_1 : decode cX6_liveItem 1 = .ok (.ifCond .lt 9, 3) := by decide +kernel
theorem dX6_liveItem_4 : decode cX6_liveItem 4 = .ok (.iload_n 1, 1) := by decide +kernel
theorem dX6_liveItem_5 : decode cX6_liveItem 5 = .ok (.bipush 16, 2) := by decide +kernel
theorem dX6_liveItem_7 : decode cX6_liveItem 7 = .ok (.if_icmp .lt 13, 3) := by decide +kernel
theorem dX6_liveItem_10 : decode cX6_liveItem 10 = .ok (.new 185, 3) := by decide +kernel
theorem dX6_liveItem_13 : decode cX6_liveItem 13 = .ok (.dup, 1) := by decide +kernel
theorem dX6_liveItem_14 : decode cX6_liveItem 14 = .ok (.ldc 194, 2) := by decide +kernel
theorem dX6_liveItem_16 : decode cX6_liveItem 16 = .ok (.invokespecial 189, 3) := by decide +kernel
theorem dX6_liveItem_19 : decode cX6_liveItem 19 = .ok (.athrow, 1) := by decide +kernel
theorem dX6_liveItem_20 : decode cX6_liveItem 20 = .ok (.aload_n 0, 1) := by decide +kernel
theorem dX6_liveItem_21 : decode cX6_liveItem 21 = .ok (.getfield 24, 3) := by decide +kernel
theorem dX6_liveItem_24 : decode cX6_liveItem 24 = .ok (.iload_n 1, 1) := by decide +kernel
theorem dX6_liveItem_25 : decode cX6_liveItem 25 = .ok (.aaload, 1) := by decide +kernel
theorem dX6_liveItem_26 : decode cX6_liveItem 26 = .ok (.astore_n 2, 1) := by decide +kernel
theorem dX6_liveItem_27 : decode cX6_liveItem 27 = .ok (.aload_n 2, 1) := by decide +kernel
theorem dX6_liveItem_28 : decode cX6_liveItem 28 = .ok (.ifnull 13, 3) := by decide +kernel
theorem dX6_liveItem_31 : decode cX6_liveItem 31 = .ok (.aload_n 2, 1) := by decide +kernel
theorem dX6_liveItem_32 : decode cX6_liveItem 32 = .ok (.getfield 114, 3) := by decide +kernel
theorem dX6_liveItem_35 : decode cX6_liveItem 35 = .ok (.getfield 77, 3) := by decide +kernel
theorem dX6_liveItem_38 : decode cX6_liveItem 38 = .ok (.ifCond .ne 13, 3) := by decide +kernel
theorem dX6_liveItem_41 : decode cX6_liveItem 41 = .ok (.new 185, 3) := by decide +kernel
theorem dX6_liveItem_44 : decode cX6_liveItem 44 = .ok (.dup, 1) := by decide +kernel
theorem dX6_liveItem_45 : decode cX6_liveItem 45 = .ok (.ldc 196, 2) := by decide +kernel
theorem dX6_liveItem_47 : decode cX6_liveItem 47 = .ok (.invokespecial 189, 3) := by decide +kernel
theorem dX6_liveItem_50 : decode cX6_liveItem 50 = .ok (.athrow, 1) := by decide +kernel
theorem dX6_liveItem_51 : decode cX6_liveItem 51 = .ok (.aload_n 2, 1) := by decide +kernel
theorem dX6_liveItem_52 : decode cX6_liveItem 52 = .ok (.areturn, 1) := by decide +kernel
abbrev rm6_liveItem : Room := { frames := 6, cells := 1, slots := 6, locals := 90 }
theorem hd6_liveItem : yX6_liveItem.cls ≠ "java/lang/invoke/MethodHandle" ∧ yX6_liveItem.cls ≠ "java/lang/invoke/VarHandle" ∧ (parseMethodDescriptor yX6_liveItem.desc).map (fun d => d.parameters.length) = some 1 := by decide +kernel
set_option maxHeartbeats 4000000 in
set_option maxRecDepth 20000 in
theorem m6_liveItem (l : Launch) (hl : l.stackTraces = false) (G : xG) (ρ : Nm → Nat) (this : Nm) (p1 : Int32) (σ : PH) (Q : Option Nm → PH → Prop) (Xp : String → PH → Prop) (h : w6_liveItem this p1 σ Q Xp) : xMet l yX6_liveItem (.code yX6_liveItem cX6_liveItem 3 (some (.object "PlantServer$Item"))) rm6_liveItem G ρ σ [.ref (ρ this), .int p1] (eR ρ Q) Xp := by
  refine xMet.of hl (by decide +kernel) (Nat.le_of_ble_eq_true rfl) (fun X hC hr hn htab h0 => ?_)
  have hC : xC G X "PlantServer" cX6_liveItem 3 rm6_liveItem := hC
  unfold w6_liveItem at h
  refine xJ.loc (L' := [(0, .ref (ρ this)), (1, .int p1)]) rfl ?_
  refine x_iload_n hC 1 rfl dX6_liveItem_0 ?_
  refine x_if_lt (tgt := 10) hC dX6_liveItem_1 (by decide) (fun c1 => ?_) (fun c1 => ?_)
  · have h := h.1 c1
    exact x_throw (E := xIO) (text := "there is no such item") (is := 194) hC h0 htab (by decide +kernel) (by decide +kernel) q98 q7 xhat_xIO xgood_xIO dX6_liveItem_10 dX6_liveItem_13 dX6_liveItem_14 dX6_liveItem_16 dX6_liveItem_19 (by decide) (by first | exact Nat.le_of_ble_eq_true rfl | (simp [rv_cat]; done) | (simp (decide := true) [rv_cat, cat_ref, cat_int]; done)) (by decide) (by decide) h
  · have h := h.2 c1
    refine x_iload_n hC 1 rfl dX6_liveItem_4 ?_
    refine x_bipush (v := 16) hC dX6_liveItem_5 (by decide) ?_
    refine x_icmp_lt (tgt := 20) hC dX6_liveItem_7 (by decide) (fun c2 => ?_) (fun c2 => ?_)
    · have h := h.1 c2
      refine x_aload_n hC 0 rfl dX6_liveItem_20 ?_
      obtain ⟨k1, h⟩ := h
      refine x_getR (n0 := this) hC (ci := 6) (T := TX6) (N := 9) (C := RX6) 3 k1 rfl rfl (by decide) rfl q53 dX6_liveItem_21 ?_
      refine x_iload_n hC 1 rfl dX6_liveItem_24 ?_
      obtain ⟨m1, hm1, h⟩ := h
      rw [show rv ρ (hR σ this 3) = Value.ref (ρ m1) from by rw [hm1]; rfl]
      obtain ⟨k2, h⟩ := h
      obtain ⟨v1, h⟩ := h
      refine x_aald11 (a := m1) hC k2 v1 dX6_liveItem_25 ?_
      refine x_astore_nQ (o := hR σ m1 (Int32.toNatClampNeg p1)) (L' := [(2, rv ρ (hR σ m1 (Int32.toNatClampNeg p1))), (0, .ref (ρ this)), (1, .int p1)]) hC dX6_liveItem_26 (by decide) (by first | rfl | simp (decide := true) [rv_cat, cat_ref, cat_int]) ?_
      refine x_aload_nQ (o := hR σ m1 (Int32.toNatClampNeg p1)) hC 0 rfl dX6_liveItem_27 ?_
      refine x_ifnull (o := hR σ m1 (Int32.toNatClampNeg p1)) (tgt := 41) hC dX6_liveItem_28 (by decide) (fun c3 => ?_) (fun m2 c3 => ?_)
      · have h := h.1 c3
        rw [show rv ρ (hR σ m1 (Int32.toNatClampNeg p1)) = Value.null from by rw [c3]; rfl]
        exact x_throw (E := xIO) (text := "the item is not there") (is := 196) hC h0 htab (by decide +kernel) (by decide +kernel) q98 q7 xhat_xIO xgood_xIO dX6_liveItem_41 dX6_liveItem_44 dX6_liveItem_45 dX6_liveItem_47 dX6_liveItem_50 (by decide) (by first | exact Nat.le_of_ble_eq_true rfl | (simp [rv_cat]; done) | (simp (decide := true) [rv_cat, cat_ref, cat_int]; done)) (by decide) (by decide) h
      · have h := h.2 m2 c3
        rw [show rv ρ (hR σ m1 (Int32.toNatClampNeg p1)) = Value.ref (ρ m2) from by rw [c3]; rfl]
        refine x_aload_n hC 0 rfl dX6_liveItem_31 ?_
        obtain ⟨k3, h⟩ := h
        refine x_getR (n0 := m2) hC (ci := 1) (T := TX1) (N := 12) (C := RX1) 1 k3 rfl rfl (by decide) rfl q349 dX6_liveItem_32 ?_
        obtain ⟨m3, hm2, h⟩ := h
        rw [show rv ρ (hR σ m2 1) = Value.ref (ρ m3) from by rw [hm2]; rfl]
        obtain ⟨k4, h⟩ := h
        refine x_getI (n0 := m3) hC (ci := 4) (T := TX4) (N := 14) (C := RX4) 7 k4 rfl rfl (by decide) rfl q246 dX6_liveItem_35 ?_
        refine x_if_ne (tgt := 51) hC dX6_liveItem_38 (by decide) (fun c4 => ?_) (fun c4 => ?_)
        · have h := h.1 c4
          refine x_aload_n hC 0 rfl dX6_liveItem_51 ?_
          refine xJ.stk (st' := [rv ρ (some m2)]) rfl ?_
          exact x_aret (o := some m2) hC hr dX6_liveItem_52 (by decide) (by decide) ⟨rfl, _, rfl, h⟩
        · have h := h.2 c4
          exact x_throw (E := xIO) (text := "the item is not there") (is := 196) hC h0 htab (by decide +kernel) (by decide +kernel) q98 q7 xhat_xIO xgood_xIO dX6_liveItem_41 dX6_liveItem_44 dX6_liveItem_45 dX6_liveItem_47 dX6_liveItem_50 (by decide) (by first | exact Nat.le_of_ble_eq_true rfl | (simp [rv_cat]; done) | (simp (decide := true) [rv_cat, cat_ref, cat_int]; done)) (by decide) (by decide) h
    · have h := h.2 c2
      exact x_throw (E := xIO) (text := "there is no such item") (is := 194) hC h0 htab (by decide +kernel) (by decide +kernel) q98 q7 xhat_xIO xgood_xIO dX6_liveItem_10 dX6_liveItem_13 dX6_liveItem_14 dX6_liveItem_16 dX6_liveItem_19 (by decide) (by first | exact Nat.le_of_ble_eq_true rfl | (simp [rv_cat]; done) | (simp (decide := true) [rv_cat, cat_ref, cat_int]; done)) (by decide) (by decide) h
/-! PlantServer.setReporting -/
theorem dX6_setReporting_0 : decode cX6_setReporting 0 = .ok (.aload_n 0, 1) := by decide +kernel
theorem dX6_setReporting_1 : decode cX6_setReporting 1 = .ok (.iload_n 1, 1) := by decide +kernel
theorem dX6_setReporting_2 : decode cX6_setReporting 2 = .ok (.invokevirtual 102, 3) := by decide +kernel
theorem dX6_setReporting_5 : decode cX6_setReporting 5 = .ok (.astore_n 3, 1) := by decide +kernel
theorem dX6_setReporting_6 : decode cX6_setReporting 6 = .ok (.aload_n 3, 1) := by decide +kernel
theorem dX6_setReporting_7 : decode cX6_setReporting 7 = .ok (.getfield 106, 3) := by decide +kernel
theorem dX6_setReporting_10 : decode cX6_setReporting 10 = .ok (.iload_n 2, 1) := by decide +kernel
theorem dX6_setReporting_11 : decode cX6_setReporting 11 = .ok (.if_icmp .eq 7, 3) := by decide +kernel
theorem dX6_setReporting_14 : decode cX6_setReporting 14 = .ok (.iconst 1, 1) := by decide +kernel
theorem dX6_setReporting_15 : decode cX6_setReporting 15 = .ok (.goto 4, 3) := by decide +kernel
theorem dX6_setReporting_18 : decode cX6_setReporting 18 = .ok (.iconst 0, 1) := by decide +kernel
theorem dX6_setReporting_19 : decode cX6_setReporting 19 = .ok (.istore 4, 2) := by decide +kernel
theorem dX6_setReporting_21 : decode cX6_setReporting 21 = .ok (.aload_n 3, 1) := by decide +kernel
theorem dX6_setReporting_22 : decode cX6_setReporting 22 = .ok (.iload_n 2, 1) := by decide +kernel
theorem dX6_setReporting_23 : decode cX6_setReporting 23 = .ok (.putfield 106, 3) := by decide +kernel
theorem dX6_setReporting_26 : decode cX6_setReporting 26 = .ok (.iload 4, 2) := by decide +kernel
theorem dX6_setReporting_28 : decode cX6_setReporting 28 = .ok (.ireturn, 1) := by decide +kernel
abbrev rm6_setReporting : Room := { frames := 7, cells := 1, slots := 6, locals := 112 }
theorem hd6_setReporting : yX6_setReporting.cls ≠ "java/lang/invoke/MethodHandle" ∧ yX6_setReporting.cls ≠ "java/lang/invoke/VarHandle" ∧ (parseMethodDescriptor yX6_setReporting.desc).map (fun d => d.parameters.length) = some 2 := by decide +kernel
set_option maxHeartbeats 4000000 in
set_option maxRecDepth 20000 in
theorem m6_setReporting (l : Launch) (hl : l.stackTraces = false) (G : xG) (ρ : Nm → Nat) (this : Nm) (p1 : Int32) (p2 : Int32) (σ : PH) (Q : Int32 → PH → Prop) (Xp : String → PH → Prop) (h : w6_setReporting this p1 p2 σ Q Xp) : xMet l yX6_setReporting (.code yX6_setReporting cX6_setReporting 5 (some .boolean)) rm6_setReporting G ρ σ [.ref (ρ this), .int p1, .int p2] (eI ρ Q) Xp := by
  refine xMet.of hl (by decide +kernel) (Nat.le_of_ble_eq_true rfl) (fun X hC hr hn htab h0 => ?_)
  have hC : xC G X "PlantServer" cX6_setReporting 5 rm6_setReporting := hC
  unfold w6_setReporting at h
  refine xJ.loc (L' := [(0, .ref (ρ this)), (1, .int p1), (2, .int p2)]) rfl ?_
  refine x_aload_n hC 0 rfl dX6_setReporting_0 ?_
  refine x_iload_n hC 1 rfl dX6_setReporting_1 ?_
  obtain ⟨k1, h⟩ := h
  refine x_callV (n0 := this) (as := [.int p1]) (rest := []) hC (ci := 6) (r := (RX6, TX6, 9)) k1 rfl (fun l hl => m6_liveItem l hl G ρ this p1 σ _ Xp h) q428 q430 s5 q1 q431 ⟨rfl, hd6_liveItem⟩ (by decide) ⟨(by decide), (by decide)⟩ (by first | exact Nat.le_of_ble_eq_true rfl | (simp [rv_cat]; done) | (simp (decide := true) [rv_cat, cat_ref, cat_int]; done)) rfl dX6_setReporting_2 (fun E σ9 hx => x_out hC h0 htab (by decide) (by decide) hx) (fun v1 σ1 ρ1 hp1 hag1 => ?_)
  obtain ⟨e9, r1, e8, h⟩ := hp1
  rw [e8, e9]
  refine xJ.nrm (k' := 1) (n' := 6) (pc' := 5) (st' := [rv ρ r1]) rfl rfl rfl rfl ?_
  refine x_astore_nQ (o := r1) (L' := [(3, rv ρ r1), (0, .ref (ρ this)), (1, .int p1), (2, .int p2)]) hC dX6_setReporting_5 (by decide) (by first | rfl | simp (decide := true) [rv_cat, cat_ref, cat_int]) ?_
  refine x_aload_nQ (o := r1) hC 0 rfl dX6_setReporting_6 ?_
  obtain ⟨m1, hm1, h⟩ := h
  rw [show rv ρ r1 = Value.ref (ρ m1) from by rw [hm1]; rfl]
  obtain ⟨k2, h⟩ := h
  refine x_getI (n0 := m1) hC (ci := 1) (T := TX1) (N := 12) (C := RX1) 6 k2 rfl rfl (by decide) rfl q362 dX6_setReporting_7 ?_
  refine x_iload_n hC 3 rfl dX6_setReporting_10 ?_
  refine x_icmp_eq (tgt := 18) hC dX6_setReporting_11 (by decide) (fun c1 => ?_) (fun c1 => ?_)
  · have h := h.1 c1
    refine x_iconst (v := 0) hC dX6_setReporting_18 (by decide) ?_
    refine x_istore (L' := [(4, .int 0), (3, .ref (ρ m1)), (0, .ref (ρ this)), (1, .int p1), (2, .int p2)]) hC dX6_setReporting_19 (by decide) (by first | rfl | simp (decide := true) [rv_cat, cat_ref, cat_int]) ?_
    refine x_aload_n hC 1 rfl dX6_setReporting_21 ?_
    refine x_iload_n hC 4 rfl dX6_setReporting_22 ?_
    obtain ⟨zh1, h⟩ := h
    refine x_putZ (n0 := m1) hC (ci := 1) (T := TX1) (N := 12) (C := RX1) 6 k2 rfl rfl (by decide) rfl q362 rfl (tyX1_ok 6 (by decide)) zh1 dX6_setReporting_23 ?_
    refine xJ.nmH (fun σ2 e1 => ?_)
    have h := h σ2 e1
    have r2 : hR σ2 = hR σ1 ∧ hL σ2 = hL σ1 := by rw [e1]; exact ⟨rfl, rfl⟩
    refine x_iload hC 0 rfl dX6_setReporting_26 ?_
    exact x_zret hC hr zb0 dX6_setReporting_28 (by decide) (by decide) ⟨rfl, _, rfl, h⟩
  · have h := h.2 c1
    refine x_iconst (v := 1) hC dX6_setReporting_14 (by decide) ?_
    refine x_goto (tgt := 19) hC dX6_setReporting_15 (by decide) ?_
    refine x_istore (L' := [(4, .int 1), (3, .ref (ρ m1)), (0, .ref (ρ this)), (1, .int p1), (2, .int p2)]) hC dX6_setReporting_19 (by decide) (by first | rfl | simp (decide := true) [rv_cat, cat_ref, cat_int]) ?_
    refine x_aload_n hC 1 rfl dX6_setReporting_21 ?_
    refine x_iload_n hC 4 rfl dX6_setReporting_22 ?_
    obtain ⟨zh2, h⟩ := h
    refine x_putZ (n0 := m1) hC (ci := 1) (T := TX1) (N := 12) (C := RX1) 6 k2 rfl rfl (by decide) rfl q362 rfl (tyX1_ok 6 (by decide)) zh2 dX6_setReporting_23 ?_
    refine xJ.nmH (fun σ3 e2 => ?_)
    have h := h σ3 e2
    have r3 : hR σ3 = hR σ1 ∧ hL σ3 = hL σ1 := by rw [e2]; exact ⟨rfl, rfl⟩
    refine x_iload hC 0 rfl dX6_setReporting_26 ?_
    exact x_zret hC hr zb1 dX6_setReporting_28 (by decide) (by decide) ⟨rfl, _, rfl, h⟩
/-! PlantServerLaw.setReporting -/
theorem dL_setReporting_0 : decode cL_setReporting 0 = .ok (.aload_n 3, 1) := by decide +kernel
theorem dL_setReporting_1 : decode cL_setReporting 1 = .ok (.iconst 0, 1) := by decide +kernel
theorem dL_setReporting_2 : decode cL_setReporting 2 = .ok (.aload_n 0, 1) := by decide +kernel
theorem dL_setReporting_3 : decode cL_setReporting 3 = .ok (.iload_n 1, 1) := by decide +kernel
theorem dL_setReporting_4 : decode cL_setReporting 4 = .ok (.iload_n 2, 1) := by decide +kernel
theorem dL_setReporting_5 : decode cL_setReporting 5 = .ok (.invokevirtual 31, 3) := by decide +kernel
theorem dL_setReporting_8 : decode cL_setReporting 8 = .ok (.ifCond .eq 7, 3) := by decide +kernel
theorem dL_setReporting_11 : decode cL_setReporting 11 = .ok (.lconst 1, 1) := by decide +kernel
theorem dL_setReporting_12 : decode cL_setReporting 12 = .ok (.goto 4, 3) := by decide +kernel
theorem dL_setReporting_15 : decode cL_setReporting 15 = .ok (.lconst 0, 1) := by decide +kernel
theorem dL_setReporting_16 : decode cL_setReporting 16 = .ok (.lastore, 1) := by decide +kernel
theorem dL_setReporting_17 : decode cL_setReporting 17 = .ok (.goto 7, 3) := by decide +kernel
theorem dL_setReporting_20 : decode cL_setReporting 20 = .ok (.astore 4, 2) := by decide +kernel
theorem dL_setReporting_22 : decode cL_setReporting 22 = .ok (.iconst 1, 1) := by decide +kernel
theorem dL_setReporting_23 : decode cL_setReporting 23 = .ok (.ireturn, 1) := by decide +kernel
theorem dL_setReporting_24 : decode cL_setReporting 24 = .ok (.iconst 0, 1) := by decide +kernel
theorem dL_setReporting_25 : decode cL_setReporting 25 = .ok (.ireturn, 1) := by decide +kernel
abbrev rmL_setReporting : Room := { frames := 8, cells := 1, slots := 6, locals := 136 }
theorem hdL_setReporting : yL_setReporting.cls ≠ "java/lang/invoke/MethodHandle" ∧ yL_setReporting.cls ≠ "java/lang/invoke/VarHandle" ∧ (parseMethodDescriptor yL_setReporting.desc).map (fun d => d.parameters.length) = some 4 := by decide +kernel
set_option maxHeartbeats 4000000 in
set_option maxRecDepth 20000 in
theorem mL_setReporting (l : Launch) (hl : l.stackTraces = false) (G : xG) (ρ : Nm → Nat) (a1 : Nm) (p2 : Int32) (p3 : Int32) (a4 : Nm) (σ : PH) (Q : Int32 → PH → Prop) (h : wL_setReporting a1 p2 p3 a4 σ Q) : xMet l yL_setReporting (.codeWith yL_setReporting cL_setReporting 5 (some .int) [(0, 17, 20, 13)]) rmL_setReporting G ρ σ [.ref (ρ a1), .int p2, .int p3, .ref (ρ a4)] (eI ρ Q) xNo := by
  refine xMet.ofW hl (by decide +kernel) (Nat.le_of_ble_eq_true rfl) (fun X hC hr hn htab h0 => ?_)
  have hC : xC G X "PlantServerLaw" cL_setReporting 5 rmL_setReporting := hC
  unfold wL_setReporting at h
  refine xJ.loc (L' := [(0, .ref (ρ a1)), (1, .int p2), (2, .int p3), (3, .ref (ρ a4))]) rfl ?_
  refine x_aload_n hC 3 rfl dL_setReporting_0 ?_
  refine x_iconst (v := 0) hC dL_setReporting_1 (by decide) ?_
  refine x_aload_n hC 0 rfl dL_setReporting_2 ?_
  refine x_iload_n hC 1 rfl dL_setReporting_3 ?_
  refine x_iload_n hC 2 rfl dL_setReporting_4 ?_
  obtain ⟨k1, h⟩ := h
  refine x_callV (n0 := a1) (as := [.int p2, .int p3]) (rest := [.int 0, .ref (ρ a4)]) hC (ci := 6) (r := (RX6, TX6, 9)) k1 rfl (fun l hl => m6_setReporting l hl G ρ a1 p2 p3 σ _ _ h) q424 q425 q426 q1 q427 ⟨rfl, hd6_setReporting⟩ (by decide) ⟨(by decide), (by decide)⟩ (by first | exact Nat.le_of_ble_eq_true rfl | (simp [rv_cat]; done) | (simp (decide := true) [rv_cat, cat_ref, cat_int]; done)) rfl dL_setReporting_5 (fun E σ2 hx => ?_) (fun v1 σ1 ρ1 hp1 hag1 => ?_)
  · have hE9 := hx.2
    have he := hE9
    have h := hx.1 he
    subst he
    refine x_catch hC [] [] (0, 17, 20, 13) htab (by intro z hz; simp at hz) (by decide) (by decide) q89 xcast_xIO (fun qx1 => ?_)
    refine xJ.nrm (k' := 1) (n' := 6) (pc' := 20) (st' := [.ref qx1]) rfl rfl rfl rfl ?_
    refine x_astore (L' := [(4, .ref qx1), (0, .ref (ρ a1)), (1, .int p2), (2, .int p3), (3, .ref (ρ a4))]) hC dL_setReporting_20 (by decide) (by first | rfl | simp (decide := true) [rv_cat, cat_ref, cat_int]) ?_
    refine x_iconst (v := 1) hC dL_setReporting_22 (by decide) ?_
    exact x_iret hC hr dL_setReporting_23 (by decide) (by decide) ⟨rfl, _, rfl, h⟩
  · obtain ⟨e9, r1, e8, h⟩ := hp1
    rw [e8, e9]
    refine xJ.nrm (k' := 1) (n' := 6) (pc' := 8) (st' := [.int r1, .int 0, .ref (ρ a4)]) rfl rfl rfl rfl ?_
    refine x_if_eq (tgt := 15) hC dL_setReporting_8 (by decide) (fun c1 => ?_) (fun c1 => ?_)
    · have h := h.1 c1
      refine x_lconst (v := 0) hC dL_setReporting_15 (by decide) ?_
      obtain ⟨k2, h⟩ := h
      obtain ⟨v2, h⟩ := h
      refine x_last (a := a4) hC k2 v2 dL_setReporting_16 ?_
      refine xJ.nmH (fun σ3 e1 => ?_)
      have h := h σ3 e1
      have r2 : hR σ3 = hR σ1 ∧ hL σ3 = hL σ1 := by rw [e1]; exact ⟨rfl, rfl⟩
      refine x_goto (tgt := 24) hC dL_setReporting_17 (by decide) ?_
      refine x_iconst (v := 0) hC dL_setReporting_24 (by decide) ?_
      exact x_iret hC hr dL_setReporting_25 (by decide) (by decide) ⟨rfl, _, rfl, h⟩
    · have h := h.2 c1
      refine x_lconst (v := 1) hC dL_setReporting_11 (by decide) ?_
      refine x_goto (tgt := 16) hC dL_setReporting_12 (by decide) ?_
      obtain ⟨k3, h⟩ := h
      obtain ⟨v3, h⟩ := h
      refine x_last (a := a4) hC k3 v3 dL_setReporting_16 ?_
      refine xJ.nmH (fun σ4 e2 => ?_)
      have h := h σ4 e2
      have r3 : hR σ4 = hR σ1 ∧ hL σ4 = hL σ1 := by rw [e2]; exact ⟨rfl, rfl⟩
      refine x_goto (tgt := 24) hC dL_setReporting_17 (by decide) ?_
      refine x_iconst (v := 0) hC dL_setReporting_24 (by decide) ?_
      exact x_iret hC hr dL_setReporting_25 (by decide) (by decide) ⟨rfl, _, rfl, h⟩
/-! PlantServerModel.isItem -/
theorem dX7_isItem_0 : decode cX7_isItem 0 = .ok (.iload_n 1, 1) := by decide +kernel
theorem dX7_isItem_1 : decode cX7_isItem 1 = .ok (.iconst 0, 1) := by decide +kernel
theorem dX7_isItem_2 : decode cX7_isItem 2 = .ok (.aload_n 0, 1) := by decide +kernel
theorem dX7_isItem_3 : decode cX7_isItem 3 = .ok (.getfield 115, 3) := by decide +kernel
theorem dX7_isItem_6 : decode cX7_isItem 6 = .ok (.iconst 1, 1) := by decide +kernel
theorem dX7_isItem_7 : decode cX7_isItem 7 = .ok (.isub, 1) := by decide +kernel
theorem dX7_isItem_8 : decode cX7_isItem 8 = .ok (.invokestatic 108, 3) := by decide +kernel
theorem dX7_isItem_11 : decode cX7_isItem 11 = .ok (.ifCond .eq 21, 3) := by decide +kernel
theorem dX7_isItem_14 : decode cX7_isItem 14 = .ok (.aload_n 0, 1) := by decide +kernel
theorem dX7_isItem_15 : decode cX7_isItem 15 = .ok (.getfield 13, 3) := by decide +kernel
theorem dX7_isItem_18 : decode cX7_isItem 18 = .ok (.aload_n 0, 1) := by decide +kernel
theorem dX7_isItem_19 : decode cX7_isItem 19 = .ok (.getfield 47, 3) := by decide +kernel
theorem dX7_isItem_22 : decode cX7_isItem 22 = .ok (.iload_n 1, 1) := by decide +kernel
theorem dX7_isItem_23 : decode cX7_isItem 23 = .ok (.iaload, 1) := by decide +kernel
theorem dX7_isItem_24 : decode cX7_isItem 24 = .ok (.baload, 1) := by decide +kernel
theorem dX7_isItem_25 : decode cX7_isItem 25 = .ok (.ifCond .eq 7, 3) := by decide +kernel
theorem dX7_isItem_28 : decode cX7_isItem 28 = .ok (.iconst 1, 1) := by decide +kernel
theorem dX7_isItem_29 : decode cX7_isItem 29 = .ok (.goto 4, 3) := by decide +kernel
theorem dX7_isItem_32 : decode cX7_isItem 32 = .ok (.iconst 0, 1) := by decide +kernel
theorem dX7_isItem_33 : decode cX7_isItem 33 = .ok (.ireturn, 1) := by decide +kernel
abbrev rm7_isItem : Room := { frames := 1, cells := 0, slots := 0, locals := 22 }
theorem hd7_isItem : yX7_isItem.cls ≠ "java/lang/invoke/MethodHandle" ∧ yX7_isItem.cls ≠ "java/lang/invoke/VarHandle" ∧ (parseMethodDescriptor yX7_isItem.desc).map (fun d => d.parameters.length) = some 1 := by decide +kernel
set_option maxHeartbeats 4000000 in
set_option maxRecDepth 20000 in
theorem m7_isItem (l : Launch) (hl : l.stackTraces = false) (G : xG) (ρ : Nm → Nat) (this : Nm) (p1 : Int32) (σ : PH) (Q : Int32 → PH → Prop) (h : w7_isItem this p1 σ Q) : xMet l yX7_isItem (.code yX7_isItem cX7_isItem 2 (some .boolean)) rm7_isItem G ρ σ [.ref (ρ this), .int p1] (eI ρ Q) xNo := by
  refine xMet.of hl (by decide +kernel) (Nat.le_of_ble_eq_true rfl) (fun X hC hr hn htab h0 => ?_)
  have hC : xC G X "PlantServerModel" cX7_isItem 2 rm7_isItem := hC
  unfold w7_isItem at h
  refine xJ.loc (L' := [(0, .ref (ρ this)), (1, .int p1)]) rfl ?_
  refine x_iload_n hC 1 rfl dX7_isItem_0 ?_
  refine x_iconst (v := 0) hC dX7_isItem_1 (by decide) ?_
  refine x_aload_n hC 0 rfl dX7_isItem_2 ?_
  obtain ⟨k1, h⟩ := h
  refine x_getI (n0 := this) hC (ci := 7) (T := TX7) (N := 36) (C := RX7) 15 k1 rfl rfl (by decide) rfl q704 dX7_isItem_3 ?_
  refine x_iconst (v := 1) hC dX7_isItem_6 (by decide) ?_
  refine x_isub hC dX7_isItem_7 ?_
  refine x_callS (as := [.int p1, .int 0, .int ((hI σ this 15) - 1)]) (rest := []) hC (fun l hl => m7_in l hl G ρ p1 0 ((hI σ this 15) - 1) σ _ h) q809 q810 q3 q811 hd7_in (by decide) ⟨(by decide), (by decide)⟩ (by first | exact Nat.le_of_ble_eq_true rfl | (simp [rv_cat]; done) | (simp (decide := true) [rv_cat, cat_ref, cat_int]; done)) rfl dX7_isItem_8 (fun E σ9 hx => False.elim hx) (fun v1 σ1 ρ1 hp1 hag1 => ?_)
  obtain ⟨e9, r1, e8, h⟩ := hp1
  rw [e8, e9]
  refine xJ.nrm (k' := 0) (n' := 0) (pc' := 11) (st' := [.int r1]) rfl rfl rfl rfl ?_
  refine x_if_eq (tgt := 32) hC dX7_isItem_11 (by decide) (fun c1 => ?_) (fun c1 => ?_)
  · have h := h.1 c1
    refine x_iconst (v := 0) hC dX7_isItem_32 (by decide) ?_
    exact x_zret hC hr zb0 dX7_isItem_33 (by decide) (by decide) ⟨rfl, _, rfl, h⟩
  · have h := h.2 c1
    refine x_aload_n hC 0 rfl dX7_isItem_14 ?_
    have k2 : hK σ1 this = 8 := (hag1 this (by rw [k1]; decide)).1.trans k1
    refine x_getR (n0 := this) hC (ci := 7) (T := TX7) (N := 36) (C := RX7) 4 k2 rfl rfl (by decide) rfl q693 dX7_isItem_15 ?_
    refine x_aload_n hC 0 rfl dX7_isItem_18 ?_
    refine x_getR (n0 := this) hC (ci := 7) (T := TX7) (N := 36) (C := RX7) 16 k2 rfl rfl (by decide) rfl q705 dX7_isItem_19 ?_
    refine x_iload_n hC 1 rfl dX7_isItem_22 ?_
    obtain ⟨m1, hm1, h⟩ := h
    rw [show rv ρ (hR σ1 this 16) = Value.ref (ρ m1) from by rw [hm1]; rfl]
    obtain ⟨k3, h⟩ := h
    obtain ⟨v2, h⟩ := h
    refine x_iald (a := m1) hC k3 v2 dX7_isItem_23 ?_
    obtain ⟨m2, hm2, h⟩ := h
    rw [show rv ρ (hR σ1 this 4) = Value.ref (ρ m2) from by rw [hm2]; rfl]
    obtain ⟨k4, h⟩ := h
    obtain ⟨v3, h⟩ := h
    refine x_zald (a := m2) hC k4 v3 dX7_isItem_24 ?_
    refine x_if_eq (tgt := 32) hC dX7_isItem_25 (by decide) (fun c2 => ?_) (fun c2 => ?_)
    · have h := h.1 c2
      refine x_iconst (v := 0) hC dX7_isItem_32 (by decide) ?_
      exact x_zret hC hr zb0 dX7_isItem_33 (by decide) (by decide) ⟨rfl, _, rfl, h⟩
    · have h := h.2 c2
      refine x_iconst (v := 1) hC dX7_isItem_28 (by decide) ?_
      refine x_goto (tgt := 33) hC dX7_isItem_29 (by decide) ?_
      exact x_zret hC hr zb1 dX7_isItem_33 (by decide) (by decide) ⟨rfl, _, rfl, h⟩
/-! PlantServerModel.setReporting -/
theorem dX7_setReporting_0 : decode cX7_setReporting 0 = .ok (.aload_n 0, 1) := by decide +kernel
theorem dX7_setReporting_1 : decode cX7_setReporting 1 = .ok (.aload_n 0, 1) := by decide +kernel
theorem dX7_setReporting_2 : decode cX7_setReporting 2 = .ok (.iload_n 1, 1) := by decide +kernel
theorem dX7_setReporting_3 : decode cX7_setReporting 3 = .ok (.invokevirtual 132, 3) := by decide +kernel
theorem dX7_setReporting_6 : decode cX7_setReporting 6 = .ok (.ifCond .eq 7, 3) := by decide +kernel
theorem dX7_setReporting_9 : decode cX7_setReporting 9 = .ok (.iconst 0, 1) := by decide +kernel
theorem dX7_setReporting_10 : decode cX7_setReporting 10 = .ok (.goto 4, 3) := by decide +kernel
theorem dX7_setReporting_13 : decode cX7_setReporting 13 = .ok (.iconst 1, 1) := by decide +kernel
theorem dX7_setReporting_14 : decode cX7_setReporting 14 = .ok (.putfield 104, 3) := by decide +kernel
theorem dX7_setReporting_17 : decode cX7_setReporting 17 = .ok (.aload_n 0, 1) := by decide +kernel
theorem dX7_setReporting_18 : decode cX7_setReporting 18 = .ok (.getfield 104, 3) := by decide +kernel
theorem dX7_setReporting_21 : decode cX7_setReporting 21 = .ok (.ifCond .le 5, 3) := by decide +kernel
theorem dX7_setReporting_24 : decode cX7_setReporting 24 = .ok (.iconst 0, 1) := by decide +kernel
theorem dX7_setReporting_25 : decode cX7_setReporting 25 = .ok (.ireturn, 1) := by decide +kernel
theorem dX7_setReporting_26 : decode cX7_setReporting 26 = .ok (.aload_n 0, 1) := by decide +kernel
theorem dX7_setReporting_27 : decode cX7_setReporting 27 = .ok (.getfield 68, 3) := by decide +kernel
theorem dX7_setReporting_30 : decode cX7_setReporting 30 = .ok (.iload_n 1, 1) := by decide +kernel
theorem dX7_setReporting_31 : decode cX7_setReporting 31 = .ok (.baload, 1) := by decide +kernel
theorem dX7_setReporting_32 : decode cX7_setReporting 32 = .ok (.istore_n 3, 1) := by decide +kernel
theorem dX7_setReporting_33 : decode cX7_setReporting 33 = .ok (.aload_n 0, 1) := by decide +kernel
theorem dX7_setReporting_34 : decode cX7_setReporting 34 = .ok (.getfield 68, 3) := by decide +kernel
theorem dX7_setReporting_37 : decode cX7_setReporting 37 = .ok (.iload_n 1, 1) := by decide +kernel
theorem dX7_setReporting_38 : decode cX7_setReporting 38 = .ok (.iload_n 2, 1) := by decide +kernel
theorem dX7_setReporting_39 : decode cX7_setReporting 39 = .ok (.bastore, 1) := by decide +kernel
theorem dX7_setReporting_40 : decode cX7_setReporting 40 = .ok (.iload_n 3, 1) := by decide +kernel
theorem dX7_setReporting_41 : decode cX7_setReporting 41 = .ok (.iload_n 2, 1) := by decide +kernel
theorem dX7_setReporting_42 : decode cX7_setReporting 42 = .ok (.if_icmp .eq 7, 3) := by decide +kernel
theorem dX7_setReporting_45 : decode cX7_setReporting 45 = .ok (.iconst 1, 1) := by decide +kernel
theorem dX7_setReporting_46 : decode cX7_setReporting 46 = .ok (.goto 4, 3) := by decide +kernel
theorem dX7_setReporting_49 : decode cX7_setReporting 49 = .ok (.iconst 0, 1) := by decide +kernel
theorem dX7_setReporting_50 : decode cX7_setReporting 50 = .ok (.ireturn, 1) := by decide +kernel
abbrev rm7_setReporting : Room := { frames := 2, cells := 0, slots := 0, locals := 43 }
theorem hd7_setReporting : yX7_setReporting.cls ≠ "java/lang/invoke/MethodHandle" ∧ yX7_setReporting.cls ≠ "java/lang/invoke/VarHandle" ∧ (parseMethodDescriptor yX7_setReporting.desc).map (fun d => d.parameters.length) = some 2 := by decide +kernel
set_option maxHeartbeats 4000000 in
set_option maxRecDepth 20000 in
theorem m7_setReporting (l : Launch) (hl : l.stackTraces = false) (G : xG) (ρ : Nm → Nat) (this : Nm) (p1 : Int32) (p2 : Int32) (σ : PH) (Q : Int32 → PH → Prop) (h : w7_setReporting this p1 p2 σ Q) : xMet l yX7_setReporting (.code yX7_setReporting cX7_setReporting 4 (some .boolean)) rm7_setReporting G ρ σ [.ref (ρ this), .int p1, .int p2] (eI ρ Q) xNo := by
  refine xMet.of hl (by decide +kernel) (Nat.le_of_ble_eq_true rfl) (fun X hC hr hn htab h0 => ?_)
  have hC : xC G X "PlantServerModel" cX7_setReporting 4 rm7_setReporting := hC
  unfold w7_setReporting at h
  refine xJ.loc (L' := [(0, .ref (ρ this)), (1, .int p1), (2, .int p2)]) rfl ?_
  refine x_aload_n hC 0 rfl dX7_setReporting_0 ?_
  refine x_aload_n hC 0 rfl dX7_setReporting_1 ?_
  refine x_iload_n hC 1 rfl dX7_setReporting_2 ?_
  obtain ⟨k1, h⟩ := h
  refine x_callV (n0 := this) (as := [.int p1]) (rest := [.ref (ρ this)]) hC (ci := 7) (r := (RX7, TX7, 36)) k1 rfl (fun l hl => m7_isItem l hl G ρ this p1 σ _ h) q844 q846 s18 q3 q847 ⟨rfl, hd7_isItem⟩ (by decide) ⟨(by decide), (by decide)⟩ (by first | exact Nat.le_of_ble_eq_true rfl | (simp [rv_cat]; done) | (simp (decide := true) [rv_cat, cat_ref, cat_int]; done)) rfl dX7_setReporting_3 (fun E σ9 hx => False.elim hx) (fun v1 σ1 ρ1 hp1 hag1 => ?_)
  obtain ⟨e9, r1, e8, h⟩ := hp1
  rw [e8, e9]
  refine xJ.nrm (k' := 0) (n' := 0) (pc' := 6) (st' := [.int r1, .ref (ρ this)]) rfl rfl rfl rfl ?_
  refine x_if_eq (tgt := 13) hC dX7_setReporting_6 (by decide) (fun c1 => ?_) (fun c1 => ?_)
  · have h := h.1 c1
    refine x_iconst (v := 1) hC dX7_setReporting_13 (by decide) ?_
    have k2 : hK σ1 this = 8 := (hag1 this (by rw [k1]; decide)).1.trans k1
    refine x_putI (n0 := this) hC (ci := 7) (T := TX7) (N := 36) (C := RX7) 0 k2 rfl rfl (by decide) rfl q689 rfl (tyX7_ok 0 (by decide)) dX7_setReporting_14 ?_
    refine xJ.nmH (fun σ2 e1 => ?_)
    have h := h σ2 e1
    have r2 : hR σ2 = hR σ1 ∧ hL σ2 = hL σ1 := by rw [e1]; exact ⟨rfl, rfl⟩
    refine x_aload_n hC 0 rfl dX7_setReporting_17 ?_
    have k3 : hK σ2 this = 8 := by rw [e1]; exact k2
    refine x_getI (n0 := this) hC (ci := 7) (T := TX7) (N := 36) (C := RX7) 0 k3 rfl rfl (by decide) rfl q689 dX7_setReporting_18 ?_
    refine x_if_le (tgt := 26) hC dX7_setReporting_21 (by decide) (fun c2 => ?_) (fun c2 => ?_)
    · have h := h.1 c2
      refine x_aload_n hC 0 rfl dX7_setReporting_26 ?_
      refine x_getR (n0 := this) hC (ci := 7) (T := TX7) (N := 36) (C := RX7) 23 k3 rfl rfl (by decide) rfl q712 dX7_setReporting_27 ?_
      rw [r2.1]
      refine x_iload_n hC 1 rfl dX7_setReporting_30 ?_
      obtain ⟨m1, hm1, h⟩ := h
      rw [show rv ρ (hR σ1 this 23) = Value.ref (ρ m1) from by rw [hm1]; rfl]
      obtain ⟨k4, h⟩ := h
      obtain ⟨v2, h⟩ := h
      refine x_zald (a := m1) hC k4 (by rw [r2.2]; exact v2) dX7_setReporting_31 ?_
      refine x_istore_n (L' := [(3, .int (hI σ2 m1 (Int32.toNatClampNeg p1))), (0, .ref (ρ this)), (1, .int p1), (2, .int p2)]) hC dX7_setReporting_32 (by decide) (by first | rfl | simp (decide := true) [rv_cat, cat_ref, cat_int]) ?_
      refine x_aload_n hC 1 rfl dX7_setReporting_33 ?_
      refine x_getR (n0 := this) hC (ci := 7) (T := TX7) (N := 36) (C := RX7) 23 k3 rfl rfl (by decide) rfl q712 dX7_setReporting_34 ?_
      rw [r2.1]
      rw [show rv ρ (hR σ1 this 23) = Value.ref (ρ m1) from by rw [hm1]; rfl]
      refine x_iload_n hC 2 rfl dX7_setReporting_37 ?_
      refine x_iload_n hC 3 rfl dX7_setReporting_38 ?_
      obtain ⟨zh1, h⟩ := h
      refine x_zast (a := m1) hC zh1 k4 (by rw [r2.2]; exact v2) dX7_setReporting_39 ?_
      refine xJ.nmH (fun σ3 e2 => ?_)
      have h := h σ3 e2
      have r3 : hR σ3 = hR σ1 ∧ hL σ3 = hL σ1 := by rw [e2]; exact ⟨r2.1, r2.2⟩
      refine x_iload_n hC 0 rfl dX7_setReporting_40 ?_
      refine x_iload_n hC 3 rfl dX7_setReporting_41 ?_
      refine x_icmp_eq (tgt := 49) hC dX7_setReporting_42 (by decide) (fun c3 => ?_) (fun c3 => ?_)
      · have h := h.1 c3
        refine x_iconst (v := 0) hC dX7_setReporting_49 (by decide) ?_
        exact x_zret hC hr zb0 dX7_setReporting_50 (by decide) (by decide) ⟨rfl, _, rfl, h⟩
      · have h := h.2 c3
        refine x_iconst (v := 1) hC dX7_setReporting_45 (by decide) ?_
        refine x_goto (tgt := 50) hC dX7_setReporting_46 (by decide) ?_
        exact x_zret hC hr zb1 dX7_setReporting_50 (by decide) (by decide) ⟨rfl, _, rfl, h⟩
    · have h := h.2 c2
      refine x_iconst (v := 0) hC dX7_setReporting_24 (by decide) ?_
      exact x_zret hC hr zb0 dX7_setReporting_25 (by decide) (by decide) ⟨rfl, _, rfl, h⟩
  · have h := h.2 c1
    refine x_iconst (v := 0) hC dX7_setReporting_9 (by decide) ?_
    refine x_goto (tgt := 14) hC dX7_setReporting_10 (by decide) ?_
    have k5 : hK σ1 this = 8 := (hag1 this (by rw [k1]; decide)).1.trans k1
    refine x_putI (n0 := this) hC (ci := 7) (T := TX7) (N := 36) (C := RX7) 0 k5 rfl rfl (by decide) rfl q689 rfl (tyX7_ok 0 (by decide)) dX7_setReporting_14 ?_
    refine xJ.nmH (fun σ4 e3 => ?_)
    have h := h σ4 e3
    have r4 : hR σ4 = hR σ1 ∧ hL σ4 = hL σ1 := by rw [e3]; exact ⟨rfl, rfl⟩
    refine x_aload_n hC 0 rfl dX7_setReporting_17 ?_
    have k6 : hK σ4 this = 8 := by rw [e3]; exact k5
    refine x_getI (n0 := this) hC (ci := 7) (T := TX7) (N := 36) (C := RX7) 0 k6 rfl rfl (by decide) rfl q689 dX7_setReporting_18 ?_
    refine x_if_le (tgt := 26) hC dX7_setReporting_21 (by decide) (fun c4 => ?_) (fun c4 => ?_)
    · have h := h.1 c4
      refine x_aload_n hC 0 rfl dX7_setReporting_26 ?_
      refine x_getR (n0 := this) hC (ci := 7) (T := TX7) (N := 36) (C := RX7) 23 k6 rfl rfl (by decide) rfl q712 dX7_setReporting_27 ?_
      rw [r4.1]
      refine x_iload_n hC 1 rfl dX7_setReporting_30 ?_
      obtain ⟨m2, hm2, h⟩ := h
      rw [show rv ρ (hR σ1 this 23) = Value.ref (ρ m2) from by rw [hm2]; rfl]
      obtain ⟨k7, h⟩ := h
      obtain ⟨v3, h⟩ := h
      refine x_zald (a := m2) hC k7 (by rw [r4.2]; exact v3) dX7_setReporting_31 ?_
      refine x_istore_n (L' := [(3, .int (hI σ4 m2 (Int32.toNatClampNeg p1))), (0, .ref (ρ this)), (1, .int p1), (2, .int p2)]) hC dX7_setReporting_32 (by decide) (by first | rfl | simp (decide := true) [rv_cat, cat_ref, cat_int]) ?_
      refine x_aload_n hC 1 rfl dX7_setReporting_33 ?_
      refine x_getR (n0 := this) hC (ci := 7) (T := TX7) (N := 36) (C := RX7) 23 k6 rfl rfl (by decide) rfl q712 dX7_setReporting_34 ?_
      rw [r4.1]
      rw [show rv ρ (hR σ1 this 23) = Value.ref (ρ m2) from by rw [hm2]; rfl]
      refine x_iload_n hC 2 rfl dX7_setReporting_37 ?_
      refine x_iload_n hC 3 rfl dX7_setReporting_38 ?_
      obtain ⟨zh2, h⟩ := h
      refine x_zast (a := m2) hC zh2 k7 (by rw [r4.2]; exact v3) dX7_setReporting_39 ?_
      refine xJ.nmH (fun σ5 e4 => ?_)
      have h := h σ5 e4
      have r5 : hR σ5 = hR σ1 ∧ hL σ5 = hL σ1 := by rw [e4]; exact ⟨r4.1, r4.2⟩
      refine x_iload_n hC 0 rfl dX7_setReporting_40 ?_
      refine x_iload_n hC 3 rfl dX7_setReporting_41 ?_
      refine x_icmp_eq (tgt := 49) hC dX7_setReporting_42 (by decide) (fun c5 => ?_) (fun c5 => ?_)
      · have h := h.1 c5
        refine x_iconst (v := 0) hC dX7_setReporting_49 (by decide) ?_
        exact x_zret hC hr zb0 dX7_setReporting_50 (by decide) (by decide) ⟨rfl, _, rfl, h⟩
      · have h := h.2 c5
        refine x_iconst (v := 1) hC dX7_setReporting_45 (by decide) ?_
        refine x_goto (tgt := 50) hC dX7_setReporting_46 (by decide) ?_
        exact x_zret hC hr zb1 dX7_setReporting_50 (by decide) (by decide) ⟨rfl, _, rfl, h⟩
    · have h := h.2 c4
      refine x_iconst (v := 0) hC dX7_setReporting_24 (by decide) ?_
      exact x_zret hC hr zb0 dX7_setReporting_25 (by decide) (by decide) ⟨rfl, _, rfl, h⟩
/-! PlantServer$Item.setTrigger -/
theorem dX1_setTrigger_0 : decode cX1_setTrigger 0 = .ok (.iconst 1, 1) := by decide +kernel
theorem dX1_setTrigger_1 : decode cX1_setTrigger 1 = .ok (.iload_n 1, 1) := by decide +kernel
theorem dX1_setTrigger_2 : decode cX1_setTrigger 2 = .ok (.ishl, 1) := by decide +kernel
theorem dX1_setTrigger_3 : decode cX1_setTrigger 3 = .ok (.istore_n 3, 1) := by decide +kernel
theorem dX1_setTrigger_4 : decode cX1_setTrigger 4 = .ok (.aload_n 0, 1) := by decide +kernel
theorem dX1_setTrigger_5 : decode cX1_setTrigger 5 = .ok (.getfield 13, 3) := by decide +kernel
theorem dX1_setTrigger_8 : decode cX1_setTrigger 8 = .ok (.iload_n 3, 1) := by decide +kernel
theorem dX1_setTrigger_9 : decode cX1_setTrigger 9 = .ok (.iand, 1) := by decide +kernel
theorem dX1_setTrigger_10 : decode cX1_setTrigger 10 = .ok (.ifCond .eq 7, 3) := by decide +kernel
theorem dX1_setTrigger_13 : decode cX1_setTrigger 13 = .ok (.iconst 1, 1) := by decide +kernel
theorem dX1_setTrigger_14 : decode cX1_setTrigger 14 = .ok (.goto 4, 3) := by decide +kernel
theorem dX1_setTrigger_17 : decode cX1_setTrigger 17 = .ok (.iconst 0, 1) := by decide +kernel
theorem dX1_setTrigger_18 : decode cX1_setTrigger 18 = .ok (.istore 4, 2) := by decide +kernel
theorem dX1_setTrigger_20 : decode cX1_setTrigger 20 = .ok (.iload 4, 2) := by decide +kernel
theorem dX1_setTrigger_22 : decode cX1_setTrigger 22 = .ok (.iload_n 2, 1) := by decide +kernel
theorem dX1_setTrigger_23 : decode cX1_setTrigger 23 = .ok (.if_icmp .ne 5, 3) := by decide +kernel
theorem dX1_setTrigger_26 : decode cX1_setTrigger 26 = .ok (.iconst 0, 1) := by decide +kernel
theorem dX1_setTrigger_27 : decode cX1_setTrigger 27 = .ok (.ireturn, 1) := by decide +kernel
theorem dX1_setTrigger_28 : decode cX1_setTrigger 28 = .ok (.aload_n 0, 1) := by decide +kernel
theorem dX1_setTrigger_29 : decode cX1_setTrigger 29 = .ok (.dup, 1) := by decide +kernel
theorem dX1_setTrigger_30 : decode cX1_setTrigger 30 = .ok (.getfield 13, 3) := by decide +kernel
theorem dX1_setTrigger_33 : decode cX1_setTrigger 33 = .ok (.iload_n 3, 1) := by decide +kernel
theorem dX1_setTrigger_34 : decode cX1_setTrigger 34 = .ok (.ixor, 1) := by decide +kernel
theorem dX1_setTrigger_35 : decode cX1_setTrigger 35 = .ok (.putfield 13, 3) := by decide +kernel
theorem dX1_setTrigger_38 : decode cX1_setTrigger 38 = .ok (.iconst 1, 1) := by decide +kernel
theorem dX1_setTrigger_39 : decode cX1_setTrigger 39 = .ok (.ireturn, 1) := by decide +kernel
abbrev rm1_setTrigger : Room := { frames := 0, cells := 0, slots := 0, locals := 0 }
theorem hd1_setTrigger : yX1_setTrigger.cls ≠ "java/lang/invoke/MethodHandle" ∧ yX1_setTrigger.cls ≠ "java/lang/invoke/VarHandle" ∧ (parseMethodDescriptor yX1_setTrigger.desc).map (fun d => d.parameters.length) = some 2 := by decide +kernel
set_option maxHeartbeats 4000000 in
set_option maxRecDepth 20000 in
theorem m1_setTrigger (l : Launch) (hl : l.stackTraces = false) (G : xG) (ρ : Nm → Nat) (this : Nm) (p1 : Int32) (p2 : Int32) (σ : PH) (Q : Int32 → PH → Prop) (h : w1_setTrigger this p1 p2 σ Q) : xMet l yX1_setTrigger (.code yX1_setTrigger cX1_setTrigger 5 (some .boolean)) rm1_setTrigger G ρ σ [.ref (ρ this), .int p1, .int p2] (eI ρ Q) xNo := by
  refine xMet.of hl (by decide +kernel) (Nat.le_of_ble_eq_true rfl) (fun X hC hr hn htab h0 => ?_)
  have hC : xC G X "PlantServer$Item" cX1_setTrigger 5 rm1_setTrigger := hC
  unfold w1_setTrigger at h
  refine xJ.loc (L' := [(0, .ref (ρ this)), (1, .int p1), (2, .int p2)]) rfl ?_
  refine x_iconst (v := 1) hC dX1_setTrigger_0 (by decide) ?_
  refine x_iload_n hC 1 rfl dX1_setTrigger_1 ?_
  refine x_ishl hC dX1_setTrigger_2 ?_
  refine x_istore_n (L' := [(3, .int (1 <<< (p1 &&& 31))), (0, .ref (ρ this)), (1, .int p1), (2, .int p2)]) hC dX1_setTrigger_3 (by decide) (by first | rfl | simp (decide := true) [rv_cat, cat_ref, cat_int]) ?_
  refine x_aload_n hC 1 rfl dX1_setTrigger_4 ?_
  obtain ⟨k1, h⟩ := h
  refine x_getI (n0 := this) hC (ci := 1) (T := TX1) (N := 12) (C := RX1) 7 k1 rfl rfl (by decide) rfl q363 dX1_setTrigger_5 ?_
  refine x_iload_n hC 0 rfl dX1_setTrigger_8 ?_
  refine x_iand hC dX1_setTrigger_9 ?_
  refine x_if_eq (tgt := 17) hC dX1_setTrigger_10 (by decide) (fun c1 => ?_) (fun c1 => ?_)
  · have h := h.1 c1
    refine x_iconst (v := 0) hC dX1_setTrigger_17 (by decide) ?_
    refine x_istore (L' := [(4, .int 0), (3, .int (1 <<< (p1 &&& 31))), (0, .ref (ρ this)), (1, .int p1), (2, .int p2)]) hC dX1_setTrigger_18 (by decide) (by first | rfl | simp (decide := true) [rv_cat, cat_ref, cat_int]) ?_
    refine x_iload hC 0 rfl dX1_setTrigger_20 ?_
    refine x_iload_n hC 4 rfl dX1_setTrigger_22 ?_
    refine x_icmp_ne (tgt := 28) hC dX1_setTrigger_23 (by decide) (fun c2 => ?_) (fun c2 => ?_)
    · have h := h.1 c2
      refine x_aload_n hC 2 rfl dX1_setTrigger_28 ?_
      refine x_dup hC (by first | rfl | exact rv_cat) dX1_setTrigger_29 ?_
      refine x_getI (n0 := this) hC (ci := 1) (T := TX1) (N := 12) (C := RX1) 7 k1 rfl rfl (by decide) rfl q363 dX1_setTrigger_30 ?_
      refine x_iload_n hC 1 rfl dX1_setTrigger_33 ?_
      refine x_ixor hC dX1_setTrigger_34 ?_
      refine x_putI (n0 := this) hC (ci := 1) (T := TX1) (N := 12) (C := RX1) 7 k1 rfl rfl (by decide) rfl q363 rfl (tyX1_ok 7 (by decide)) dX1_setTrigger_35 ?_
      refine xJ.nmH (fun σ1 e1 => ?_)
      have h := h σ1 e1
      have r1 : hR σ1 = hR σ ∧ hL σ1 = hL σ := by rw [e1]; exact ⟨rfl, rfl⟩
      refine x_iconst (v := 1) hC dX1_setTrigger_38 (by decide) ?_
      exact x_zret hC hr zb1 dX1_setTrigger_39 (by decide) (by decide) ⟨rfl, _, rfl, h⟩
    · have h := h.2 c2
      refine x_iconst (v := 0) hC dX1_setTrigger_26 (by decide) ?_
      exact x_zret hC hr zb0 dX1_setTrigger_27 (by decide) (by decide) ⟨rfl, _, rfl, h⟩
  · have h := h.2 c1
    refine x_iconst (v := 1) hC dX1_setTrigger_13 (by decide) ?_
    refine x_goto (tgt := 18) hC dX1_setTrigger_14 (by decide) ?_
    refine x_istore (L' := [(4, .int 1), (3, .int (1 <<< (p1 &&& 31))), (0, .ref (ρ this)), (1, .int p1), (2, .int p2)]) hC dX1_setTrigger_18 (by decide) (by first | rfl | simp (decide := true) [rv_cat, cat_ref, cat_int]) ?_
    refine x_iload hC 0 rfl dX1_setTrigger_20 ?_
    refine x_iload_n hC 4 rfl dX1_setTrigger_22 ?_
    refine x_icmp_ne (tgt := 28) hC dX1_setTrigger_23 (by decide) (fun c3 => ?_) (fun c3 => ?_)
    · have h := h.1 c3
      refine x_aload_n hC 2 rfl dX1_setTrigger_28 ?_
      refine x_dup hC (by first | rfl | exact rv_cat) dX1_setTrigger_29 ?_
      refine x_getI (n0 := this) hC (ci := 1) (T := TX1) (N := 12) (C := RX1) 7 k1 rfl rfl (by decide) rfl q363 dX1_setTrigger_30 ?_
      refine x_iload_n hC 1 rfl dX1_setTrigger_33 ?_
      refine x_ixor hC dX1_setTrigger_34 ?_
      refine x_putI (n0 := this) hC (ci := 1) (T := TX1) (N := 12) (C := RX1) 7 k1 rfl rfl (by decide) rfl q363 rfl (tyX1_ok 7 (by decide)) dX1_setTrigger_35 ?_
      refine xJ.nmH (fun σ2 e2 => ?_)
      have h := h σ2 e2
      have r2 : hR σ2 = hR σ ∧ hL σ2 = hL σ := by rw [e2]; exact ⟨rfl, rfl⟩
      refine x_iconst (v := 1) hC dX1_setTrigger_38 (by decide) ?_
      exact x_zret hC hr zb1 dX1_setTrigger_39 (by decide) (by decide) ⟨rfl, _, rfl, h⟩
    · have h := h.2 c3
      refine x_iconst (v := 0) hC dX1_setTrigger_26 (by decide) ?_
      exact x_zret hC hr zb0 dX1_setTrigger_27 (by decide) (by decide) ⟨rfl, _, rfl, h⟩
/-! PlantServer.link -/
theorem dX6_link_0 : decode cX6_link 0 = .ok (.aload_n 0, 1) := by decide +kernel
theorem dX6_link_1 : decode cX6_link 1 = .ok (.iload_n 1, 1) := by decide +kernel
theorem dX6_link_2 : decode cX6_link 2 = .ok (.invokevirtual 102, 3) := by decide +kernel
theorem dX6_link_5 : decode cX6_link 5 = .ok (.astore 4, 2) := by decide +kernel
theorem dX6_link_7 : decode cX6_link 7 = .ok (.aload_n 0, 1) := by decide +kernel
theorem dX6_link_8 : decode cX6_link 8 = .ok (.iload_n 2, 1) := by decide +kernel
theorem dX6_link_9 : decode cX6_link 9 = .ok (.invokevirtual 102, 3) := by decide +kernel
theorem dX6_link_12 : decode cX6_link 12 = .ok (.astore 5, 2) := by decide +kernel
theorem dX6_link_14 : decode cX6_link 14 = .ok (.aload 4, 2) := by decide +kernel
theorem dX6_link_16 : decode cX6_link 16 = .ok (.aload 5, 2) := by decide +kernel
theorem dX6_link_18 : decode cX6_link 18 = .ok (.if_acmp .ne 13, 3) := by decide +kernel
theorem dX6_link_21 : decode cX6_link 21 = .ok (.new 109, 3) := by decide +kernel
theorem dX6_link_24 : decode cX6_link 24 = .ok (.dup, 1) := by decide +kernel
theorem dX6_link_25 : decode cX6_link 25 = .ok (.ldc 111, 2) := by decide +kernel
theorem dX6_link_27 : decode cX6_link 27 = .ok (.invokespecial 113, 3) := by decide +kernel
theorem dX6_link_30 : decode cX6_link 30 = .ok (.athrow, 1) := by decide +kernel
theorem dX6_link_31 : decode cX6_link 31 = .ok (.aload 4, 2) := by decide +kernel
theorem dX6_link_33 : decode cX6_link 33 = .ok (.getfield 114, 3) := by decide +kernel
theorem dX6_link_36 : decode cX6_link 36 = .ok (.aload 5, 2) := by decide +kernel
theorem dX6_link_38 : decode cX6_link 38 = .ok (.getfield 114, 3) := by decide +kernel
theorem dX6_link_41 : decode cX6_link 41 = .ok (.if_acmp .eq 13, 3) := by decide +kernel
theorem dX6_link_44 : decode cX6_link 44 = .ok (.new 109, 3) := by decide +kernel
theorem dX6_link_47 : decode cX6_link 47 = .ok (.dup, 1) := by decide +kernel
theorem dX6_link_48 : decode cX6_link 48 = .ok (.ldc 118, 2) := by decide +kernel
theorem dX6_link_50 : decode cX6_link 50 = .ok (.invokespecial 113, 3) := by decide +kernel
theorem dX6_link_53 : decode cX6_link 53 = .ok (.athrow, 1) := by decide +kernel
theorem dX6_link_54 : decode cX6_link 54 = .ok (.aload 4, 2) := by decide +kernel
theorem dX6_link_56 : decode cX6_link 56 = .ok (.aload 5, 2) := by decide +kernel
theorem dX6_link_58 : decode cX6_link 58 = .ok (.getfield 120, 3) := by decide +kernel
theorem dX6_link_61 : decode cX6_link 61 = .ok (.iload_n 3, 1) := by decide +kernel
theorem dX6_link_62 : decode cX6_link 62 = .ok (.invokevirtual 123, 3) := by decide +kernel
theorem dX6_link_65 : decode cX6_link 65 = .ok (.ireturn, 1) := by decide +kernel
abbrev rm6_link : Room := { frames := 7, cells := 3, slots := 18, locals := 112 }
theorem hd6_link : yX6_link.cls ≠ "java/lang/invoke/MethodHandle" ∧ yX6_link.cls ≠ "java/lang/invoke/VarHandle" ∧ (parseMethodDescriptor yX6_link.desc).map (fun d => d.parameters.length) = some 3 := by decide +kernel
set_option maxHeartbeats 4000000 in
set_option maxRecDepth 20000 in
theorem m6_link (l : Launch) (hl : l.stackTraces = false) (G : xG) (ρ : Nm → Nat) (this : Nm) (p1 : Int32) (p2 : Int32) (p3 : Int32) (σ : PH) (Q : Int32 → PH → Prop) (Xp : String → PH → Prop) (h : w6_link this p1 p2 p3 σ Q Xp) : xMet l yX6_link (.code yX6_link cX6_link 6 (some .boolean)) rm6_link G ρ σ [.ref (ρ this), .int p1, .int p2, .int p3] (eI ρ Q) Xp := by
  refine xMet.of hl (by decide +kernel) (Nat.le_of_ble_eq_true rfl) (fun X hC hr hn htab h0 => ?_)
  have hC : xC G X "PlantServer" cX6_link 6 rm6_link := hC
  unfold w6_link at h
  refine xJ.loc (L' := [(0, .ref (ρ this)), (1, .int p1), (2, .int p2), (3, .int p3)]) rfl ?_
  refine x_aload_n hC 0 rfl dX6_link_0 ?_
  refine x_iload_n hC 1 rfl dX6_link_1 ?_
  obtain ⟨k1, h⟩ := h
  refine x_callV (n0 := this) (as := [.int p1]) (rest := []) hC (ci := 6) (r := (RX6, TX6, 9)) k1 rfl (fun l hl => m6_liveItem l hl G ρ this p1 σ _ Xp h) q428 q430 s5 q1 q431 ⟨rfl, hd6_liveItem⟩ (by decide) ⟨(by decide), (by decide)⟩ (by first | exact Nat.le_of_ble_eq_true rfl | (simp [rv_cat]; done) | (simp (decide := true) [rv_cat, cat_ref, cat_int]; done)) rfl dX6_link_2 (fun E σ9 hx => x_out hC h0 htab (by decide) (by decide) hx) (fun v1 σ1 ρ1 hp1 hag1 => ?_)
  obtain ⟨e9, r1, e8, h⟩ := hp1
  rw [e8, e9]
  refine xJ.nrm (k' := 1) (n' := 6) (pc' := 5) (st' := [rv ρ r1]) rfl rfl rfl rfl ?_
  refine x_astoreQ (o := r1) (L' := [(4, rv ρ r1), (0, .ref (ρ this)), (1, .int p1), (2, .int p2), (3, .int p3)]) hC dX6_link_5 (by decide) (by first | rfl | simp (decide := true) [rv_cat, cat_ref, cat_int]) ?_
  refine x_aload_n hC 1 rfl dX6_link_7 ?_
  refine x_iload_n hC 3 rfl dX6_link_8 ?_
  have k2 : hK σ1 this = 7 := (hag1 this (by rw [k1]; decide)).1.trans k1
  refine x_callV (n0 := this) (as := [.int p2]) (rest := []) hC (ci := 6) (r := (RX6, TX6, 9)) k2 rfl (fun l hl => m6_liveItem l hl G ρ this p2 σ1 _ Xp h) q428 q430 s5 q1 q431 ⟨rfl, hd6_liveItem⟩ (by decide) ⟨(by decide), (by decide)⟩ (by first | exact Nat.le_of_ble_eq_true rfl | (simp [rv_cat]; done) | (simp (decide := true) [rv_cat, cat_ref, cat_int]; done)) rfl dX6_link_9 (fun E σ9 hx => x_out hC h0 htab (by decide) (by decide) hx) (fun v2 σ2 ρ2 hp2 hag2 => ?_)
  obtain ⟨e9, r2, e8, h⟩ := hp2
  rw [e8, e9]
  refine xJ.nrm (k' := 2) (n' := 12) (pc' := 12) (st' := [rv ρ r2]) rfl rfl rfl rfl ?_
  refine x_astoreQ (o := r2) (L' := [(5, rv ρ r2), (4, rv ρ r1), (0, .ref (ρ this)), (1, .int p1), (2, .int p2), (3, .int p3)]) hC dX6_link_12 (by decide) (by first | rfl | simp (decide := true) [rv_cat, cat_ref, cat_int]) ?_
  refine x_aloadQ (o := r1) hC 1 rfl dX6_link_14 ?_
  refine x_aloadQ (o := r2) hC 0 rfl dX6_link_16 ?_
  obtain ⟨m1, hm1, h⟩ := h
  rw [show rv ρ r2 = Value.ref (ρ m1) from by rw [hm1]; rfl]
  obtain ⟨m2, hm2, h⟩ := h
  rw [show rv ρ r1 = Value.ref (ρ m2) from by rw [hm2]; rfl]
  obtain ⟨z1, h⟩ := h
  obtain ⟨z2, h⟩ := h
  refine x_acmp_ne (a := m2) (b := m1) (tgt := 31) hC z1 z2 dX6_link_18 (by decide) (fun c1 => ?_) (fun c1 => ?_)
  · have h := h.2 c1
    refine x_aload hC 1 rfl dX6_link_31 ?_
    obtain ⟨k3, h⟩ := h
    refine x_getR (n0 := m2) hC (ci := 1) (T := TX1) (N := 12) (C := RX1) 1 k3 rfl rfl (by decide) rfl q349 dX6_link_33 ?_
    refine x_aload hC 0 rfl dX6_link_36 ?_
    obtain ⟨k4, h⟩ := h
    refine x_getR (n0 := m1) hC (ci := 1) (T := TX1) (N := 12) (C := RX1) 1 k4 rfl rfl (by decide) rfl q349 dX6_link_38 ?_
    obtain ⟨m3, hm3, h⟩ := h
    rw [show rv ρ (hR σ2 m1 1) = Value.ref (ρ m3) from by rw [hm3]; rfl]
    obtain ⟨m4, hm4, h⟩ := h
    rw [show rv ρ (hR σ2 m2 1) = Value.ref (ρ m4) from by rw [hm4]; rfl]
    obtain ⟨z3, h⟩ := h
    obtain ⟨z4, h⟩ := h
    refine x_acmp_eq (a := m4) (b := m3) (tgt := 54) hC z3 z4 dX6_link_41 (by decide) (fun c2 => ?_) (fun c2 => ?_)
    · have h := h.1 c2
      refine x_aload hC 1 rfl dX6_link_54 ?_
      refine x_aload hC 0 rfl dX6_link_56 ?_
      refine x_getI (n0 := m1) hC (ci := 1) (T := TX1) (N := 12) (C := RX1) 0 k4 rfl rfl (by decide) rfl q347 dX6_link_58 ?_
      refine x_iload_n hC 5 rfl dX6_link_61 ?_
      refine x_callV (n0 := m2) (as := [.int (hI σ2 m1 0), .int p3]) (rest := []) hC (ci := 1) (r := (RX1, TX1, 12)) k3 rfl (fun l hl => m1_setTrigger l hl G ρ m2 (hI σ2 m1 0) p3 σ2 _ h) q443 q444 q445 q12 q446 ⟨rfl, hd1_setTrigger⟩ (by decide) ⟨(by decide), (by decide)⟩ (by first | exact Nat.le_of_ble_eq_true rfl | (simp [rv_cat]; done) | (simp (decide := true) [rv_cat, cat_ref, cat_int]; done)) rfl dX6_link_62 (fun E σ9 hx => False.elim hx) (fun v3 σ3 ρ3 hp3 hag3 => ?_)
      obtain ⟨e9, r3, e8, h⟩ := hp3
      rw [e8, e9]
      refine xJ.nrm (k' := 2) (n' := 12) (pc' := 65) (st' := [.int r3]) rfl rfl rfl rfl ?_
      obtain ⟨zh1, h⟩ := h
      exact x_zret hC hr zh1 dX6_link_65 (by decide) (by decide) ⟨rfl, _, rfl, h⟩
    · have h := h.2 c2
      exact x_throw (E := xIA) (text := "the items are of unlike subscriptions") (is := 118) hC h0 htab (by decide +kernel) (by decide +kernel) q170 q8 xhat_xIA xgood_xIA dX6_link_44 dX6_link_47 dX6_link_48 dX6_link_50 dX6_link_53 (by decide) (by first | exact Nat.le_of_ble_eq_true rfl | (simp [rv_cat]; done) | (simp (decide := true) [rv_cat, cat_ref, cat_int]; done)) (by decide) (by decide) h
  · have h := h.1 c1
    exact x_throw (E := xIA) (text := "an item does not trigger itself") (is := 111) hC h0 htab (by decide +kernel) (by decide +kernel) q170 q8 xhat_xIA xgood_xIA dX6_link_21 dX6_link_24 dX6_link_25 dX6_link_27 dX6_link_30 (by decide) (by first | exact Nat.le_of_ble_eq_true rfl | (simp [rv_cat]; done) | (simp (decide := true) [rv_cat, cat_ref, cat_int]; done)) (by decide) (by decide) h
/-! PlantServerLaw.link -/
theorem dL_link_0 : decode cL_link 0 = .ok (.aload 4, 2) := by decide +kernel
theorem dL_link_2 : decode cL_link 2 = .ok (.iconst 0, 1) := by decide +kernel
theorem dL_link_3 : decode cL_link 3 = .ok (.aload_n 0, 1) := by decide +kernel
theorem dL_link_4 : decode cL_link 4 = .ok (.iload_n 1, 1) := by decide +kernel
theorem dL_link_5 : decode cL_link 5 = .ok (.iload_n 2, 1) := by decide +kernel
theorem dL_link_6 : decode cL_link 6 = .ok (.iload_n 3, 1) := by decide +kernel
theorem dL_link_7 : decode cL_link 7 = .ok (.invokevirtual 35, 3) := by decide +kernel
theorem dL_link_10 : decode cL_link 10 = .ok (.ifCond .eq 7, 3) := by decide +kernel
theorem dL_link_13 : decode cL_link 13 = .ok (.lconst 1, 1) := by decide +kernel
theorem dL_link_14 : decode cL_link 14 = .ok (.goto 4, 3) := by decide +kernel
theorem dL_link_17 : decode cL_link 17 = .ok (.lconst 0, 1) := by decide +kernel
theorem dL_link_18 : decode cL_link 18 = .ok (.lastore, 1) := by decide +kernel
theorem dL_link_19 : decode cL_link 19 = .ok (.goto 11, 3) := by decide +kernel
theorem dL_link_22 : decode cL_link 22 = .ok (.astore 5, 2) := by decide +kernel
theorem dL_link_24 : decode cL_link 24 = .ok (.iconst 1, 1) := by decide +kernel
theorem dL_link_25 : decode cL_link 25 = .ok (.ireturn, 1) := by decide +kernel
theorem dL_link_26 : decode cL_link 26 = .ok (.astore 5, 2) := by decide +kernel
theorem dL_link_28 : decode cL_link 28 = .ok (.iconst 2, 1) := by decide +kernel
theorem dL_link_29 : decode cL_link 29 = .ok (.ireturn, 1) := by decide +kernel
theorem dL_link_30 : decode cL_link 30 = .ok (.iconst 0, 1) := by decide +kernel
theorem dL_link_31 : decode cL_link 31 = .ok (.ireturn, 1) := by decide +kernel
abbrev rmL_link : Room := { frames := 8, cells := 3, slots := 18, locals := 137 }
theorem hdL_link : yL_link.cls ≠ "java/lang/invoke/MethodHandle" ∧ yL_link.cls ≠ "java/lang/invoke/VarHandle" ∧ (parseMethodDescriptor yL_link.desc).map (fun d => d.parameters.length) = some 5 := by decide +kernel
set_option maxHeartbeats 4000000 in
set_option maxRecDepth 20000 in
theorem mL_link (l : Launch) (hl : l.stackTraces = false) (G : xG) (ρ : Nm → Nat) (a1 : Nm) (p2 : Int32) (p3 : Int32) (p4 : Int32) (a5 : Nm) (σ : PH) (Q : Int32 → PH → Prop) (h : wL_link a1 p2 p3 p4 a5 σ Q) : xMet l yL_link (.codeWith yL_link cL_link 6 (some .int) [(0, 19, 22, 13), (0, 19, 26, 15)]) rmL_link G ρ σ [.ref (ρ a1), .int p2, .int p3, .int p4, .ref (ρ a5)] (eI ρ Q) xNo := by
  refine xMet.ofW hl (by decide +kernel) (Nat.le_of_ble_eq_true rfl) (fun X hC hr hn htab h0 => ?_)
  have hC : xC G X "PlantServerLaw" cL_link 6 rmL_link := hC
  unfold wL_link at h
  refine xJ.loc (L' := [(0, .ref (ρ a1)), (1, .int p2), (2, .int p3), (3, .int p4), (4, .ref (ρ a5))]) rfl ?_
  refine x_aload hC 4 rfl dL_link_0 ?_
  refine x_iconst (v := 0) hC dL_link_2 (by decide) ?_
  refine x_aload_n hC 0 rfl dL_link_3 ?_
  refine x_iload_n hC 1 rfl dL_link_4 ?_
  refine x_iload_n hC 2 rfl dL_link_5 ?_
  refine x_iload_n hC 3 rfl dL_link_6 ?_
  obtain ⟨k1, h⟩ := h
  refine x_callV (n0 := a1) (as := [.int p2, .int p3, .int p4]) (rest := [.int 0, .ref (ρ a5)]) hC (ci := 6) (r := (RX6, TX6, 9)) k1 rfl (fun l hl => m6_link l hl G ρ a1 p2 p3 p4 σ _ _ h) q437 q438 q439 q1 q440 ⟨rfl, hd6_link⟩ (by decide) ⟨(by decide), (by decide)⟩ (by first | exact Nat.le_of_ble_eq_true rfl | (simp [rv_cat]; done) | (simp (decide := true) [rv_cat, cat_ref, cat_int]; done)) rfl dL_link_7 (fun E σ2 hx => ?_) (fun v1 σ1 ρ1 hp1 hag1 => ?_)
  · have hE9 := hx.2.2
    rcases hE9 with he | he
    · have h := hx.1 he
      subst he
      refine x_catch hC [] [(0, 19, 26, 15)] (0, 19, 22, 13) htab (by intro z hz; simp at hz) (by decide) (by decide) q89 xcast_xIO (fun qx1 => ?_)
      refine xJ.nrm (k' := 3) (n' := 18) (pc' := 22) (st' := [.ref qx1]) rfl rfl rfl rfl ?_
      refine x_astore (L' := [(5, .ref qx1), (0, .ref (ρ a1)), (1, .int p2), (2, .int p3), (3, .int p4), (4, .ref (ρ a5))]) hC dL_link_22 (by decide) (by first | rfl | simp (decide := true) [rv_cat, cat_ref, cat_int]) ?_
      refine x_iconst (v := 1) hC dL_link_24 (by decide) ?_
      exact x_iret hC hr dL_link_25 (by decide) (by decide) ⟨rfl, _, rfl, h⟩
    · have h := hx.2.1 he
      subst he
      refine x_catch hC [(0, 19, 22, 13)] [] (0, 19, 26, 15) htab (xpass1 (E := xIA) q89 (by decide) (by decide +kernel)) (by decide) (by decide) q90 xcast_xIA (fun qx2 => ?_)
      refine xJ.nrm (k' := 3) (n' := 18) (pc' := 26) (st' := [.ref qx2]) rfl rfl rfl rfl ?_
      refine x_astore (L' := [(5, .ref qx2), (0, .ref (ρ a1)), (1, .int p2), (2, .int p3), (3, .int p4), (4, .ref (ρ a5))]) hC dL_link_26 (by decide) (by first | rfl | simp (decide := true) [rv_cat, cat_ref, cat_int]) ?_
      refine x_iconst (v := 2) hC dL_link_28 (by decide) ?_
      exact x_iret hC hr dL_link_29 (by decide) (by decide) ⟨rfl, _, rfl, h⟩
  · obtain ⟨e9, r1, e8, h⟩ := hp1
    rw [e8, e9]
    refine xJ.nrm (k' := 3) (n' := 18) (pc' := 10) (st' := [.int r1, .int 0, .ref (ρ a5)]) rfl rfl rfl rfl ?_
    refine x_if_eq (tgt := 17) hC dL_link_10 (by decide) (fun c1 => ?_) (fun c1 => ?_)
    · have h := h.1 c1
      refine x_lconst (v := 0) hC dL_link_17 (by decide) ?_
      obtain ⟨k2, h⟩ := h
      obtain ⟨v2, h⟩ := h
      refine x_last (a := a5) hC k2 v2 dL_link_18 ?_
      refine xJ.nmH (fun σ3 e1 => ?_)
      have h := h σ3 e1
      have r2 : hR σ3 = hR σ1 ∧ hL σ3 = hL σ1 := by rw [e1]; exact ⟨rfl, rfl⟩
      refine x_goto (tgt := 30) hC dL_link_19 (by decide) ?_
      refine x_iconst (v := 0) hC dL_link_30 (by decide) ?_
      exact x_iret hC hr dL_link_31 (by decide) (by decide) ⟨rfl, _, rfl, h⟩
    · have h := h.2 c1
      refine x_lconst (v := 1) hC dL_link_13 (by decide) ?_
      refine x_goto (tgt := 18) hC dL_link_14 (by decide) ?_
      obtain ⟨k3, h⟩ := h
      obtain ⟨v3, h⟩ := h
      refine x_last (a := a5) hC k3 v3 dL_link_18 ?_
      refine xJ.nmH (fun σ4 e2 => ?_)
      have h := h σ4 e2
      have r3 : hR σ4 = hR σ1 ∧ hL σ4 = hL σ1 := by rw [e2]; exact ⟨rfl, rfl⟩
      refine x_goto (tgt := 30) hC dL_link_19 (by decide) ?_
      refine x_iconst (v := 0) hC dL_link_30 (by decide) ?_
      exact x_iret hC hr dL_link_31 (by decide) (by decide) ⟨rfl, _, rfl, h⟩
