/-! PlantServer.openSubscription -/
theorem dX6_openSubscription_0 : decode cX6_openSubscription 0 = .ok (.iload_n 1, 1) := by decide +kernel
theorem dX6_openSubscription_1 : decode cX6_openSubscription 1 = .ok (.ifCond .lt 8, 3) := by decide +kernel
theorem dX6_openSubscription_4 : decode cX6_openSubscription 4 = .ok (.iload_n 1, 1) := by decide +kernel
theorem dX6_openSubscription_5 : decode cX6_openSubscription 5 = .ok (.iconst 4, 1) := by decide +kernel
theorem dX6_openSubscription_6 : decode cX6_openSubscription 6 = .ok (.if_icmp .lt 13, 3) := by decide +kernel
theorem dX6_openSubscription_9 : decode cX6_openSubscription 9 = .ok (.new 185, 3) := by decide +kernel
theorem dX6_openSubscription_12 : decode cX6_openSubscription 12 = .ok (.dup, 1) := by decide +kernel
theorem dX6_openSubscription_13 : decode cX6_openSubscription 13 = .ok (.ldc 190, 2) := by decide +kernel
theorem dX6_openSubscription_15 : decode cX6_openSubscription 15 = .ok (.invokespecial 189, 3) := by decide +kernel
theorem dX6_openSubscription_18 : decode cX6_openSubscription 18 = .ok (.athrow, 1) := by decide +kernel
theorem dX6_openSubscription_19 : decode cX6_openSubscription 19 = .ok (.aload_n 0, 1) := by decide +kernel
theorem dX6_openSubscription_20 : decode cX6_openSubscription 20 = .ok (.getfield 15, 3) := by decide +kernel
theorem dX6_openSubscription_23 : decode cX6_openSubscription 23 = .ok (.iload_n 1, 1) := by decide +kernel
theorem dX6_openSubscription_24 : decode cX6_openSubscription 24 = .ok (.aaload, 1) := by decide +kernel
theorem dX6_openSubscription_25 : decode cX6_openSubscription 25 = .ok (.astore_n 2, 1) := by decide +kernel
theorem dX6_openSubscription_26 : decode cX6_openSubscription 26 = .ok (.aload_n 2, 1) := by decide +kernel
theorem dX6_openSubscription_27 : decode cX6_openSubscription 27 = .ok (.ifnull 10, 3) := by decide +kernel
theorem dX6_openSubscription_30 : decode cX6_openSubscription 30 = .ok (.aload_n 2, 1) := by decide +kernel
theorem dX6_openSubscription_31 : decode cX6_openSubscription 31 = .ok (.getfield 77, 3) := by decide +kernel
theorem dX6_openSubscription_34 : decode cX6_openSubscription 34 = .ok (.ifCond .ne 13, 3) := by decide +kernel
theorem dX6_openSubscription_37 : decode cX6_openSubscription 37 = .ok (.new 185, 3) := by decide +kernel
theorem dX6_openSubscription_40 : decode cX6_openSubscription 40 = .ok (.dup, 1) := by decide +kernel
theorem dX6_openSubscription_41 : decode cX6_openSubscription 41 = .ok (.ldc 192, 2) := by decide +kernel
theorem dX6_openSubscription_43 : decode cX6_openSubscription 43 = .ok (.invokespecial 189, 3) := by decide +kernel
theorem dX6_openSubscription_46 : decode cX6_openSubscription 46 = .ok (.athrow, 1) := by decide +kernel
theorem dX6_openSubscription_47 : decode cX6_openSubscription 47 = .ok (.aload_n 2, 1) := by decide +kernel
theorem dX6_openSubscription_48 : decode cX6_openSubscription 48 = .ok (.areturn, 1) := by decide +kernel
abbrev rm6_openSubscription : Room := { frames := 6, cells := 1, slots := 6, locals := 90 }
theorem hd6_openSubscription : yX6_openSubscription.cls ≠ "java/lang/invoke/MethodHandle" ∧ yX6_openSubscription.cls ≠ "java/lang/invoke/VarHandle" ∧ (parseMethodDescriptor yX6_openSubscription.desc).map (fun d => d.parameters.length) = some 1 := by decide +kernel
set_option maxHeartbeats 4000000 in
set_option maxRecDepth 20000 in
theorem m6_openSubscription (l : Launch) (hl : l.stackTraces = false) (G : xG) (ρ : Nm → Nat) (this : Nm) (p1 : Int32) (σ : PH) (Q : Option Nm → PH → Prop) (Xp : String → PH → Prop) (h : w6_openSubscription this p1 σ Q Xp) : xMet l yX6_openSubscription (.code yX6_openSubscription cX6_openSubscription 3 (some (.object "PlantServer$Subscription"))) rm6_openSubscription G ρ σ [.ref (ρ this), .int p1] (eR ρ Q) Xp := by
  refine xMet.of hl (by decide +kernel) (Nat.le_of_ble_eq_true rfl) (fun X hC hr hn htab h0 => ?_)
  have hC : xC G X "PlantServer" cX6_openSubscription 3 rm6_openSubscription := hC
  unfold w6_openSubscription at h
  refine xJ.loc (L' := [(0, .ref (ρ this)), (1, .int p1)]) rfl ?_
  refine x_iload_n hC 1 rfl dX6_openSubscription_0 ?_
  refine x_if_lt (tgt := 9) hC dX6_openSubscription_1 (by decide) (fun c1 => ?_) (fun c1 => ?_)
  · have h := h.1 c1
    exact x_throw (E := xIO) (text := "there is no such subscription") (is := 190) hC h0 htab (by decide +kernel) (by decide +kernel) q98 q7 xhat_xIO xgood_xIO dX6_openSubscription_9 dX6_openSubscription_12 dX6_openSubscription_13 dX6_openSubscription_15 dX6_openSubscription_18 (by decide) (by first | exact Nat.le_of_ble_eq_true rfl | (simp [rv_cat]; done) | (simp (decide := true) [rv_cat, cat_ref, cat_int]; done)) (by decide) (by decide) h
  · have h := h.2 c1
    refine x_iload_n hC 1 rfl dX6_openSubscription_4 ?_
    refine x_iconst (v := 4) hC dX6_openSubscription_5 (by decide) ?_
    refine x_icmp_lt (tgt := 19) hC dX6_openSubscription_6 (by decide) (fun c2 => ?_) (fun c2 => ?_)
    · have h := h.1 c2
      refine x_aload_n hC 0 rfl dX6_openSubscription_19 ?_
      obtain ⟨k1, h⟩ := h
      refine x_getR (n0 := this) hC (ci := 6) (T := TX6) (N := 9) (C := RX6) 1 k1 rfl rfl (by decide) rfl q51 dX6_openSubscription_20 ?_
      refine x_iload_n hC 1 rfl dX6_openSubscription_23 ?_
      obtain ⟨m1, hm1, h⟩ := h
      rw [show rv ρ (hR σ this 1) = Value.ref (ρ m1) from by rw [hm1]; rfl]
      obtain ⟨k2, h⟩ := h
      obtain ⟨v1, h⟩ := h
      refine x_aald13 (a := m1) hC k2 v1 dX6_openSubscription_24 ?_
      refine x_astore_nQ (o := hR σ m1 (Int32.toNatClampNeg p1)) (L' := [(2, rv ρ (hR σ m1 (Int32.toNatClampNeg p1))), (0, .ref (ρ this)), (1, .int p1)]) hC dX6_openSubscription_25 (by decide) (by first | rfl | simp (decide := true) [rv_cat, cat_ref, cat_int]) ?_
      refine x_aload_nQ (o := hR σ m1 (Int32.toNatClampNeg p1)) hC 0 rfl dX6_openSubscription_26 ?_
      refine x_ifnull (o := hR σ m1 (Int32.toNatClampNeg p1)) (tgt := 37) hC dX6_openSubscription_27 (by decide) (fun c3 => ?_) (fun m2 c3 => ?_)
      · have h := h.1 c3
        rw [show rv ρ (hR σ m1 (Int32.toNatClampNeg p1)) = Value.null from by rw [c3]; rfl]
        exact x_throw (E := xIO) (text := "the subscription is not open") (is := 192) hC h0 htab (by decide +kernel) (by decide +kernel) q98 q7 xhat_xIO xgood_xIO dX6_openSubscription_37 dX6_openSubscription_40 dX6_openSubscription_41 dX6_openSubscription_43 dX6_openSubscription_46 (by decide) (by first | exact Nat.le_of_ble_eq_true rfl | (simp [rv_cat]; done) | (simp (decide := true) [rv_cat, cat_ref, cat_int]; done)) (by decide) (by decide) h
      · have h := h.2 m2 c3
        rw [show rv ρ (hR σ m1 (Int32.toNatClampNeg p1)) = Value.ref (ρ m2) from by rw [c3]; rfl]
        refine x_aload_n hC 0 rfl dX6_openSubscription_30 ?_
        obtain ⟨k3, h⟩ := h
        refine x_getI (n0 := m2) hC (ci := 4) (T := TX4) (N := 14) (C := RX4) 7 k3 rfl rfl (by decide) rfl q246 dX6_openSubscription_31 ?_
        refine x_if_ne (tgt := 47) hC dX6_openSubscription_34 (by decide) (fun c4 => ?_) (fun c4 => ?_)
        · have h := h.1 c4
          refine x_aload_n hC 0 rfl dX6_openSubscription_47 ?_
          refine xJ.stk (st' := [rv ρ (some m2)]) rfl ?_
          exact x_aret (o := some m2) hC hr dX6_openSubscription_48 (by decide) (by decide) ⟨rfl, _, rfl, h⟩
        · have h := h.2 c4
          exact x_throw (E := xIO) (text := "the subscription is not open") (is := 192) hC h0 htab (by decide +kernel) (by decide +kernel) q98 q7 xhat_xIO xgood_xIO dX6_openSubscription_37 dX6_openSubscription_40 dX6_openSubscription_41 dX6_openSubscription_43 dX6_openSubscription_46 (by decide) (by first | exact Nat.le_of_ble_eq_true rfl | (simp [rv_cat]; done) | (simp (decide := true) [rv_cat, cat_ref, cat_int]; done)) (by decide) (by decide) h
    · have h := h.2 c2
      exact x_throw (E := xIO) (text := "there is no such subscription") (is := 190) hC h0 htab (by decide +kernel) (by decide +kernel) q98 q7 xhat_xIO xgood_xIO dX6_openSubscription_9 dX6_openSubscription_12 dX6_openSubscription_13 dX6_openSubscription_15 dX6_openSubscription_18 (by decide) (by first | exact Nat.le_of_ble_eq_true rfl | (simp [rv_cat]; done) | (simp (decide := true) [rv_cat, cat_ref, cat_int]; done)) (by decide) (by decide) h
/-! PlantServer.close -/
theorem dX6_close_0 : decode cX6_close 0 = .ok (.aload_n 0, 1) := by decide +kernel
theorem dX6_close_1 : decode cX6_close 1 = .ok (.iload_n 1, 1) := by decide +kernel
theorem dX6_close_2 : decode cX6_close 2 = .ok (.invokevirtual 73, 3) := by decide +kernel
theorem dX6_close_5 : decode cX6_close 5 = .ok (.astore_n 2, 1) := by decide +kernel
theorem dX6_close_6 : decode cX6_close 6 = .ok (.aload_n 2, 1) := by decide +kernel
theorem dX6_close_7 : decode cX6_close 7 = .ok (.iconst 0, 1) := by decide +kernel
theorem dX6_close_8 : decode cX6_close 8 = .ok (.putfield 77, 3) := by decide +kernel
theorem dX6_close_11 : decode cX6_close 11 = .ok (.aload_n 2, 1) := by decide +kernel
theorem dX6_close_12 : decode cX6_close 12 = .ok (.getfield 81, 3) := by decide +kernel
theorem dX6_close_15 : decode cX6_close 15 = .ok (.ireturn, 1) := by decide +kernel
abbrev rm6_close : Room := { frames := 7, cells := 1, slots := 6, locals := 112 }
theorem hd6_close : yX6_close.cls ≠ "java/lang/invoke/MethodHandle" ∧ yX6_close.cls ≠ "java/lang/invoke/VarHandle" ∧ (parseMethodDescriptor yX6_close.desc).map (fun d => d.parameters.length) = some 1 := by decide +kernel
set_option maxHeartbeats 4000000 in
set_option maxRecDepth 20000 in
theorem m6_close (l : Launch) (hl : l.stackTraces = false) (G : xG) (ρ : Nm → Nat) (this : Nm) (p1 : Int32) (σ : PH) (Q : Int32 → PH → Prop) (Xp : String → PH → Prop) (h : w6_close this p1 σ Q Xp) : xMet l yX6_close (.code yX6_close cX6_close 3 (some .int)) rm6_close G ρ σ [.ref (ρ this), .int p1] (eI ρ Q) Xp := by
  refine xMet.of hl (by decide +kernel) (Nat.le_of_ble_eq_true rfl) (fun X hC hr hn htab h0 => ?_)
  have hC : xC G X "PlantServer" cX6_close 3 rm6_close := hC
  unfold w6_close at h
  refine xJ.loc (L' := [(0, .ref (ρ this)), (1, .int p1)]) rfl ?_
  refine x_aload_n hC 0 rfl dX6_close_0 ?_
  refine x_iload_n hC 1 rfl dX6_close_1 ?_
  obtain ⟨k1, h⟩ := h
  refine x_callV (n0 := this) (as := [.int p1]) (rest := []) hC (ci := 6) (r := (RX6, TX6, 9)) k1 rfl (fun l hl => m6_openSubscription l hl G ρ this p1 σ _ Xp h) q296 q298 s2 q1 q299 ⟨rfl, hd6_openSubscription⟩ (by decide) ⟨(by decide), (by decide)⟩ (by first | exact Nat.le_of_ble_eq_true rfl | (simp [rv_cat]; done) | (simp (decide := true) [rv_cat, cat_ref, cat_int]; done)) rfl dX6_close_2 (fun E σ9 hx => x_out hC h0 htab (by decide) (by decide) hx) (fun v1 σ1 ρ1 hp1 hag1 => ?_)
  obtain ⟨e9, r1, e8, h⟩ := hp1
  rw [e8, e9]
  refine xJ.nrm (k' := 1) (n' := 6) (pc' := 5) (st' := [rv ρ r1]) rfl rfl rfl rfl ?_
  refine x_astore_nQ (o := r1) (L' := [(2, rv ρ r1), (0, .ref (ρ this)), (1, .int p1)]) hC dX6_close_5 (by decide) (by first | rfl | simp (decide := true) [rv_cat, cat_ref, cat_int]) ?_
  refine x_aload_nQ (o := r1) hC 0 rfl dX6_close_6 ?_
  refine x_iconst (v := 0) hC dX6_close_7 (by decide) ?_
  obtain ⟨m1, hm1, h⟩ := h
  rw [show rv ρ r1 = Value.ref (ρ m1) from by rw [hm1]; rfl]
  obtain ⟨k2, h⟩ := h
  refine x_putZ (n0 := m1) hC (ci := 4) (T := TX4) (N := 14) (C := RX4) 7 k2 rfl rfl (by decide) rfl q246 rfl (tyX4_ok 7 (by decide)) zb0 dX6_close_8 ?_
  refine xJ.nmH (fun σ2 e1 => ?_)
  have h := h σ2 e1
  have r2 : hR σ2 = hR σ1 ∧ hL σ2 = hL σ1 := by rw [e1]; exact ⟨rfl, rfl⟩
  refine x_aload_n hC 0 rfl dX6_close_11 ?_
  have k3 : hK σ2 m1 = 5 := by rw [e1]; exact k2
  refine x_getI (n0 := m1) hC (ci := 4) (T := TX4) (N := 14) (C := RX4) 8 k3 rfl rfl (by decide) rfl q248 dX6_close_12 ?_
  exact x_iret hC hr dX6_close_15 (by decide) (by decide) ⟨rfl, _, rfl, h⟩
/-! PlantServerLaw.close -/
theorem dL_close_0 : decode cL_close 0 = .ok (.aload_n 2, 1) := by decide +kernel
theorem dL_close_1 : decode cL_close 1 = .ok (.iconst 0, 1) := by decide +kernel
theorem dL_close_2 : decode cL_close 2 = .ok (.aload_n 0, 1) := by decide +kernel
theorem dL_close_3 : decode cL_close 3 = .ok (.iload_n 1, 1) := by decide +kernel
theorem dL_close_4 : decode cL_close 4 = .ok (.invokevirtual 23, 3) := by decide +kernel
theorem dL_close_7 : decode cL_close 7 = .ok (.i2l, 1) := by decide +kernel
theorem dL_close_8 : decode cL_close 8 = .ok (.lastore, 1) := by decide +kernel
theorem dL_close_9 : decode cL_close 9 = .ok (.goto 6, 3) := by decide +kernel
theorem dL_close_12 : decode cL_close 12 = .ok (.astore_n 3, 1) := by decide +kernel
theorem dL_close_13 : decode cL_close 13 = .ok (.iconst 1, 1) := by decide +kernel
theorem dL_close_14 : decode cL_close 14 = .ok (.ireturn, 1) := by decide +kernel
theorem dL_close_15 : decode cL_close 15 = .ok (.iconst 0, 1) := by decide +kernel
theorem dL_close_16 : decode cL_close 16 = .ok (.ireturn, 1) := by decide +kernel
abbrev rmL_close : Room := { frames := 8, cells := 1, slots := 6, locals := 134 }
theorem hdL_close : yL_close.cls ≠ "java/lang/invoke/MethodHandle" ∧ yL_close.cls ≠ "java/lang/invoke/VarHandle" ∧ (parseMethodDescriptor yL_close.desc).map (fun d => d.parameters.length) = some 3 := by decide +kernel
set_option maxHeartbeats 4000000 in
set_option maxRecDepth 20000 in
theorem mL_close (l : Launch) (hl : l.stackTraces = false) (G : xG) (ρ : Nm → Nat) (a1 : Nm) (p2 : Int32) (a3 : Nm) (σ : PH) (Q : Int32 → PH → Prop) (h : wL_close a1 p2 a3 σ Q) : xMet l yL_close (.codeWith yL_close cL_close 4 (some .int) [(0, 9, 12, 13)]) rmL_close G ρ σ [.ref (ρ a1), .int p2, .ref (ρ a3)] (eI ρ Q) xNo := by
  refine xMet.ofW hl (by decide +kernel) (Nat.le_of_ble_eq_true rfl) (fun X hC hr hn htab h0 => ?_)
  have hC : xC G X "PlantServerLaw" cL_close 4 rmL_close := hC
  unfold wL_close at h
  refine xJ.loc (L' := [(0, .ref (ρ a1)), (1, .int p2), (2, .ref (ρ a3))]) rfl ?_
  refine x_aload_n hC 2 rfl dL_close_0 ?_
  refine x_iconst (v := 0) hC dL_close_1 (by decide) ?_
  refine x_aload_n hC 0 rfl dL_close_2 ?_
  refine x_iload_n hC 1 rfl dL_close_3 ?_
  obtain ⟨k1, h⟩ := h
  refine x_callV (n0 := a1) (as := [.int p2]) (rest := [.int 0, .ref (ρ a3)]) hC (ci := 6) (r := (RX6, TX6, 9)) k1 rfl (fun l hl => m6_close l hl G ρ a1 p2 σ _ _ h) q292 q293 q294 q1 q295 ⟨rfl, hd6_close⟩ (by decide) ⟨(by decide), (by decide)⟩ (by first | exact Nat.le_of_ble_eq_true rfl | (simp [rv_cat]; done) | (simp (decide := true) [rv_cat, cat_ref, cat_int]; done)) rfl dL_close_4 (fun E σ2 hx => ?_) (fun v1 σ1 ρ1 hp1 hag1 => ?_)
  · have hE9 := hx.2
    have he := hE9
    have h := hx.1 he
    subst he
    refine x_catch hC [] [] (0, 9, 12, 13) htab (by intro z hz; simp at hz) (by decide) (by decide) q89 xcast_xIO (fun qx1 => ?_)
    refine xJ.nrm (k' := 1) (n' := 6) (pc' := 12) (st' := [.ref qx1]) rfl rfl rfl rfl ?_
    refine x_astore_n (L' := [(3, .ref qx1), (0, .ref (ρ a1)), (1, .int p2), (2, .ref (ρ a3))]) hC dL_close_12 (by decide) (by first | rfl | simp (decide := true) [rv_cat, cat_ref, cat_int]) ?_
    refine x_iconst (v := 1) hC dL_close_13 (by decide) ?_
    exact x_iret hC hr dL_close_14 (by decide) (by decide) ⟨rfl, _, rfl, h⟩
  · obtain ⟨e9, r1, e8, h⟩ := hp1
    rw [e8, e9]
    refine xJ.nrm (k' := 1) (n' := 6) (pc' := 7) (st' := [.int r1, .int 0, .ref (ρ a3)]) rfl rfl rfl rfl ?_
    refine x_i2l hC dL_close_7 ?_
    obtain ⟨k2, h⟩ := h
    obtain ⟨v2, h⟩ := h
    refine x_last (a := a3) hC k2 v2 dL_close_8 ?_
    refine xJ.nmH (fun σ3 e1 => ?_)
    have h := h σ3 e1
    have r2 : hR σ3 = hR σ1 ∧ hL σ3 = hL σ1 := by rw [e1]; exact ⟨rfl, rfl⟩
    refine x_goto (tgt := 15) hC dL_close_9 (by decide) ?_
    refine x_iconst (v := 0) hC dL_close_15 (by decide) ?_
    exact x_iret hC hr dL_close_16 (by decide) (by decide) ⟨rfl, _, rfl, h⟩
/-! PlantServerModel.isSubscription -/
theorem dX7_isSubscription_0 : decode cX7_isSubscription 0 = .ok (.iload_n 1, 1) := by decide +kernel
theorem dX7_isSubscription_1 : decode cX7_isSubscription 1 = .ok (.iconst 0, 1) := by decide +kernel
theorem dX7_isSubscription_2 : decode cX7_isSubscription 2 = .ok (.aload_n 0, 1) := by decide +kernel
theorem dX7_isSubscription_3 : decode cX7_isSubscription 3 = .ok (.getfield 112, 3) := by decide +kernel
theorem dX7_isSubscription_6 : decode cX7_isSubscription 6 = .ok (.iconst 1, 1) := by decide +kernel
theorem dX7_isSubscription_7 : decode cX7_isSubscription 7 = .ok (.isub, 1) := by decide +kernel
theorem dX7_isSubscription_8 : decode cX7_isSubscription 8 = .ok (.invokestatic 108, 3) := by decide +kernel
theorem dX7_isSubscription_11 : decode cX7_isSubscription 11 = .ok (.ifCond .eq 16, 3) := by decide +kernel
theorem dX7_isSubscription_14 : decode cX7_isSubscription 14 = .ok (.aload_n 0, 1) := by decide +kernel
theorem dX7_isSubscription_15 : decode cX7_isSubscription 15 = .ok (.getfield 13, 3) := by decide +kernel
theorem dX7_isSubscription_18 : decode cX7_isSubscription 18 = .ok (.iload_n 1, 1) := by decide +kernel
theorem dX7_isSubscription_19 : decode cX7_isSubscription 19 = .ok (.baload, 1) := by decide +kernel
theorem dX7_isSubscription_20 : decode cX7_isSubscription 20 = .ok (.ifCond .eq 7, 3) := by decide +kernel
theorem dX7_isSubscription_23 : decode cX7_isSubscription 23 = .ok (.iconst 1, 1) := by decide +kernel
theorem dX7_isSubscription_24 : decode cX7_isSubscription 24 = .ok (.goto 4, 3) := by decide +kernel
theorem dX7_isSubscription_27 : decode cX7_isSubscription 27 = .ok (.iconst 0, 1) := by decide +kernel
theorem dX7_isSubscription_28 : decode cX7_isSubscription 28 = .ok (.ireturn, 1) := by decide +kernel
abbrev rm7_isSubscription : Room := { frames := 1, cells := 0, slots := 0, locals := 22 }
theorem hd7_isSubscription : yX7_isSubscription.cls ≠ "java/lang/invoke/MethodHandle" ∧ yX7_isSubscription.cls ≠ "java/lang/invoke/VarHandle" ∧ (parseMethodDescriptor yX7_isSubscription.desc).map (fun d => d.parameters.length) = some 1 := by decide +kernel
set_option maxHeartbeats 4000000 in
set_option maxRecDepth 20000 in
theorem m7_isSubscription (l : Launch) (hl : l.stackTraces = false) (G : xG) (ρ : Nm → Nat) (this : Nm) (p1 : Int32) (σ : PH) (Q : Int32 → PH → Prop) (h : w7_isSubscription this p1 σ Q) : xMet l yX7_isSubscription (.code yX7_isSubscription cX7_isSubscription 2 (some .boolean)) rm7_isSubscription G ρ σ [.ref (ρ this), .int p1] (eI ρ Q) xNo := by
  refine xMet.of hl (by decide +kernel) (Nat.le_of_ble_eq_true rfl) (fun X hC hr hn htab h0 => ?_)
  have hC : xC G X "PlantServerModel" cX7_isSubscription 2 rm7_isSubscription := hC
  unfold w7_isSubscription at h
  refine xJ.loc (L' := [(0, .ref (ρ this)), (1, .int p1)]) rfl ?_
  refine x_iload_n hC 1 rfl dX7_isSubscription_0 ?_
  refine x_iconst (v := 0) hC dX7_isSubscription_1 (by decide) ?_
  refine x_aload_n hC 0 rfl dX7_isSubscription_2 ?_
  obtain ⟨k1, h⟩ := h
  refine x_getI (n0 := this) hC (ci := 7) (T := TX7) (N := 36) (C := RX7) 3 k1 rfl rfl (by decide) rfl q692 dX7_isSubscription_3 ?_
  refine x_iconst (v := 1) hC dX7_isSubscription_6 (by decide) ?_
  refine x_isub hC dX7_isSubscription_7 ?_
  refine x_callS (as := [.int p1, .int 0, .int ((hI σ this 3) - 1)]) (rest := []) hC (fun l hl => m7_in l hl G ρ p1 0 ((hI σ this 3) - 1) σ _ h) q809 q810 q3 q811 hd7_in (by decide) ⟨(by decide), (by decide)⟩ (by first | exact Nat.le_of_ble_eq_true rfl | (simp [rv_cat]; done) | (simp (decide := true) [rv_cat, cat_ref, cat_int]; done)) rfl dX7_isSubscription_8 (fun E σ9 hx => False.elim hx) (fun v1 σ1 ρ1 hp1 hag1 => ?_)
  obtain ⟨e9, r1, e8, h⟩ := hp1
  rw [e8, e9]
  refine xJ.nrm (k' := 0) (n' := 0) (pc' := 11) (st' := [.int r1]) rfl rfl rfl rfl ?_
  refine x_if_eq (tgt := 27) hC dX7_isSubscription_11 (by decide) (fun c1 => ?_) (fun c1 => ?_)
  · have h := h.1 c1
    refine x_iconst (v := 0) hC dX7_isSubscription_27 (by decide) ?_
    exact x_zret hC hr zb0 dX7_isSubscription_28 (by decide) (by decide) ⟨rfl, _, rfl, h⟩
  · have h := h.2 c1
    refine x_aload_n hC 0 rfl dX7_isSubscription_14 ?_
    have k2 : hK σ1 this = 8 := (hag1 this (by rw [k1]; decide)).1.trans k1
    refine x_getR (n0 := this) hC (ci := 7) (T := TX7) (N := 36) (C := RX7) 4 k2 rfl rfl (by decide) rfl q693 dX7_isSubscription_15 ?_
    refine x_iload_n hC 1 rfl dX7_isSubscription_18 ?_
    obtain ⟨m1, hm1, h⟩ := h
    rw [show rv ρ (hR σ1 this 4) = Value.ref (ρ m1) from by rw [hm1]; rfl]
    obtain ⟨k3, h⟩ := h
    obtain ⟨v2, h⟩ := h
    refine x_zald (a := m1) hC k3 v2 dX7_isSubscription_19 ?_
    refine x_if_eq (tgt := 27) hC dX7_isSubscription_20 (by decide) (fun c2 => ?_) (fun c2 => ?_)
    · have h := h.1 c2
      refine x_iconst (v := 0) hC dX7_isSubscription_27 (by decide) ?_
      exact x_zret hC hr zb0 dX7_isSubscription_28 (by decide) (by decide) ⟨rfl, _, rfl, h⟩
    · have h := h.2 c2
      refine x_iconst (v := 1) hC dX7_isSubscription_23 (by decide) ?_
      refine x_goto (tgt := 28) hC dX7_isSubscription_24 (by decide) ?_
      exact x_zret hC hr zb1 dX7_isSubscription_28 (by decide) (by decide) ⟨rfl, _, rfl, h⟩
/-! PlantServerModel.close -/
theorem dX7_close_0 : decode cX7_close 0 = .ok (.aload_n 0, 1) := by decide +kernel
theorem dX7_close_1 : decode cX7_close 1 = .ok (.aload_n 0, 1) := by decide +kernel
theorem dX7_close_2 : decode cX7_close 2 = .ok (.iload_n 1, 1) := by decide +kernel
theorem dX7_close_3 : decode cX7_close 3 = .ok (.invokevirtual 125, 3) := by decide +kernel
theorem dX7_close_6 : decode cX7_close 6 = .ok (.ifCond .eq 7, 3) := by decide +kernel
theorem dX7_close_9 : decode cX7_close 9 = .ok (.iconst 0, 1) := by decide +kernel
theorem dX7_close_10 : decode cX7_close 10 = .ok (.goto 4, 3) := by decide +kernel
theorem dX7_close_13 : decode cX7_close 13 = .ok (.iconst 1, 1) := by decide +kernel
theorem dX7_close_14 : decode cX7_close 14 = .ok (.putfield 104, 3) := by decide +kernel
theorem dX7_close_17 : decode cX7_close 17 = .ok (.aload_n 0, 1) := by decide +kernel
theorem dX7_close_18 : decode cX7_close 18 = .ok (.getfield 104, 3) := by decide +kernel
theorem dX7_close_21 : decode cX7_close 21 = .ok (.ifCond .le 5, 3) := by decide +kernel
theorem dX7_close_24 : decode cX7_close 24 = .ok (.iconst 0, 1) := by decide +kernel
theorem dX7_close_25 : decode cX7_close 25 = .ok (.ireturn, 1) := by decide +kernel
theorem dX7_close_26 : decode cX7_close 26 = .ok (.iconst 0, 1) := by decide +kernel
theorem dX7_close_27 : decode cX7_close 27 = .ok (.istore_n 2, 1) := by decide +kernel
theorem dX7_close_28 : decode cX7_close 28 = .ok (.iconst 0, 1) := by decide +kernel
theorem dX7_close_29 : decode cX7_close 29 = .ok (.istore_n 3, 1) := by decide +kernel
theorem dX7_close_30 : decode cX7_close 30 = .ok (.iload_n 3, 1) := by decide +kernel
theorem dX7_close_31 : decode cX7_close 31 = .ok (.aload_n 0, 1) := by decide +kernel
theorem dX7_close_32 : decode cX7_close 32 = .ok (.getfield 115, 3) := by decide +kernel
theorem dX7_close_35 : decode cX7_close 35 = .ok (.if_icmp .ge 27, 3) := by decide +kernel
theorem dX7_close_38 : decode cX7_close 38 = .ok (.iload_n 2, 1) := by decide +kernel
theorem dX7_close_39 : decode cX7_close 39 = .ok (.aload_n 0, 1) := by decide +kernel
theorem dX7_close_40 : decode cX7_close 40 = .ok (.getfield 47, 3) := by decide +kernel
theorem dX7_close_43 : decode cX7_close 43 = .ok (.iload_n 3, 1) := by decide +kernel
theorem dX7_close_44 : decode cX7_close 44 = .ok (.iaload, 1) := by decide +kernel
theorem dX7_close_45 : decode cX7_close 45 = .ok (.iload_n 1, 1) := by decide +kernel
theorem dX7_close_46 : decode cX7_close 46 = .ok (.if_icmp .ne 7, 3) := by decide +kernel
theorem dX7_close_49 : decode cX7_close 49 = .ok (.iconst 1, 1) := by decide +kernel
theorem dX7_close_50 : decode cX7_close 50 = .ok (.goto 4, 3) := by decide +kernel
theorem dX7_close_53 : decode cX7_close 53 = .ok (.iconst 0, 1) := by decide +kernel
theorem dX7_close_54 : decode cX7_close 54 = .ok (.iadd, 1) := by decide +kernel
theorem dX7_close_55 : decode cX7_close 55 = .ok (.istore_n 2, 1) := by decide +kernel
theorem dX7_close_56 : decode cX7_close 56 = .ok (.iinc 3 1, 3) := by decide +kernel
theorem dX7_close_59 : decode cX7_close 59 = .ok (.goto (-29), 3) := by decide +kernel
theorem dX7_close_62 : decode cX7_close 62 = .ok (.aload_n 0, 1) := by decide +kernel
theorem dX7_close_63 : decode cX7_close 63 = .ok (.getfield 13, 3) := by decide +kernel
theorem dX7_close_66 : decode cX7_close 66 = .ok (.iload_n 1, 1) := by decide +kernel
theorem dX7_close_67 : decode cX7_close 67 = .ok (.iconst 0, 1) := by decide +kernel
theorem dX7_close_68 : decode cX7_close 68 = .ok (.bastore, 1) := by decide +kernel
theorem dX7_close_69 : decode cX7_close 69 = .ok (.iload_n 2, 1) := by decide +kernel
theorem dX7_close_70 : decode cX7_close 70 = .ok (.ireturn, 1) := by decide +kernel
abbrev rm7_close : Room := { frames := 2, cells := 0, slots := 0, locals := 43 }
theorem hd7_close : yX7_close.cls ≠ "java/lang/invoke/MethodHandle" ∧ yX7_close.cls ≠ "java/lang/invoke/VarHandle" ∧ (parseMethodDescriptor yX7_close.desc).map (fun d => d.parameters.length) = some 1 := by decide +kernel
set_option maxHeartbeats 4000000 in
set_option maxRecDepth 20000 in
theorem ml7_close_30 {G : xG} {X : xX} (hC : xC G X "PlantServerModel" cX7_close 4 rm7_close) (hr : xRt X (some .int)) (htab : xTab X []) (this : Nm) (p1 : Int32) {ρ : Nm → Nat} (h0 : xR0 X ρ) (k n : Nat) (hk1 : k ≤ 0) (hk2 : n ≤ 0) (K : Int32 → Int32 → PH → Prop) (Q : Int32 → PH → Prop) (Xp : String → PH → Prop) : ∀ (f30 : Nat) (x30_2 : Int32) (x30_3 : Int32) (τ30 : PH), l7_close_30 this p1 K Q f30 x30_2 x30_3 τ30 → (∀ (x30_2 : Int32) (x30_3 : Int32) (τ30 : PH), K x30_2 x30_3 τ30 → xJ G X (xT X (eI ρ Q) Xp G rm7_close) 4 ρ τ30 k n 62 [(0, .ref (ρ this)), (1, .int p1), (2, .int x30_2), (3, .int x30_3)] []) → xJ G X (xT X (eI ρ Q) Xp G rm7_close) 4 ρ τ30 k n 30 [(0, .ref (ρ this)), (1, .int p1), (2, .int x30_2), (3, .int x30_3)] [] := by
  intro f30
  induction f30 with
  | zero => intro x30_2 x30_3 τ30 h hKK; unfold l7_close_30 at h; exact h.elim
  | succ f30 ih =>
    intro x30_2 x30_3 τ30 h hKK
    unfold l7_close_30 at h
    refine x_iload_n hC 3 rfl dX7_close_30 ?_
    refine x_aload_n hC 0 rfl dX7_close_31 ?_
    obtain ⟨k4, h⟩ := h
    refine x_getI (n0 := this) hC (ci := 7) (T := TX7) (N := 36) (C := RX7) 15 k4 rfl rfl (by decide) rfl q704 dX7_close_32 ?_
    refine x_icmp_ge (tgt := 62) hC dX7_close_35 (by decide) (fun c3 => ?_) (fun c3 => ?_)
    · have h := h.1 c3
      exact hKK _ _ _ h
    · have h := h.2 c3
      refine x_iload_n hC 2 rfl dX7_close_38 ?_
      refine x_aload_n hC 0 rfl dX7_close_39 ?_
      refine x_getR (n0 := this) hC (ci := 7) (T := TX7) (N := 36) (C := RX7) 16 k4 rfl rfl (by decide) rfl q705 dX7_close_40 ?_
      refine x_iload_n hC 3 rfl dX7_close_43 ?_
      obtain ⟨m1, hm1, h⟩ := h
      rw [show rv ρ (hR τ30 this 16) = Value.ref (ρ m1) from by rw [hm1]; rfl]
      obtain ⟨k5, h⟩ := h
      obtain ⟨v2, h⟩ := h
      refine x_iald (a := m1) hC k5 v2 dX7_close_44 ?_
      refine x_iload_n hC 1 rfl dX7_close_45 ?_
      refine x_icmp_ne (tgt := 53) hC dX7_close_46 (by decide) (fun c4 => ?_) (fun c4 => ?_)
      · have h := h.1 c4
        refine x_iconst (v := 0) hC dX7_close_53 (by decide) ?_
        refine x_iadd hC dX7_close_54 ?_
        refine x_istore_n (L' := [(2, .int (x30_2 + 0)), (0, .ref (ρ this)), (1, .int p1), (3, .int x30_3)]) hC dX7_close_55 (by decide) (by first | rfl | simp (decide := true) [rv_cat, cat_ref, cat_int]) ?_
        refine x_iinc (v' := x30_3 + 1) (L' := [(3, .int (x30_3 + 1)), (2, .int (x30_2 + 0)), (0, .ref (ρ this)), (1, .int p1)]) hC 3 rfl dX7_close_56 rfl (by decide) (by first | rfl | simp (decide := true) [rv_cat, cat_ref, cat_int]) ?_
        refine x_goto (tgt := 30) hC dX7_close_59 (by decide) ?_
        refine xJ.sub (L' := [(0, .ref (ρ this)), (1, .int p1), (2, .int (x30_2 + 0)), (3, .int (x30_3 + 1))]) [2, 3, 1, 0] rfl ?_
        exact ih _ _ _ h hKK
      · have h := h.2 c4
        refine x_iconst (v := 1) hC dX7_close_49 (by decide) ?_
        refine x_goto (tgt := 54) hC dX7_close_50 (by decide) ?_
        refine x_iadd hC dX7_close_54 ?_
        refine x_istore_n (L' := [(2, .int (x30_2 + 1)), (0, .ref (ρ this)), (1, .int p1), (3, .int x30_3)]) hC dX7_close_55 (by decide) (by first | rfl | simp (decide := true) [rv_cat, cat_ref, cat_int]) ?_
        refine x_iinc (v' := x30_3 + 1) (L' := [(3, .int (x30_3 + 1)), (2, .int (x30_2 + 1)), (0, .ref (ρ this)), (1, .int p1)]) hC 3 rfl dX7_close_56 rfl (by decide) (by first | rfl | simp (decide := true) [rv_cat, cat_ref, cat_int]) ?_
        refine x_goto (tgt := 30) hC dX7_close_59 (by decide) ?_
        refine xJ.sub (L' := [(0, .ref (ρ this)), (1, .int p1), (2, .int (x30_2 + 1)), (3, .int (x30_3 + 1))]) [2, 3, 1, 0] rfl ?_
        exact ih _ _ _ h hKK
set_option maxHeartbeats 4000000 in
set_option maxRecDepth 20000 in
theorem m7_close (l : Launch) (hl : l.stackTraces = false) (G : xG) (ρ : Nm → Nat) (this : Nm) (p1 : Int32) (σ : PH) (Q : Int32 → PH → Prop) (h : w7_close this p1 σ Q) : xMet l yX7_close (.code yX7_close cX7_close 4 (some .int)) rm7_close G ρ σ [.ref (ρ this), .int p1] (eI ρ Q) xNo := by
  refine xMet.of hl (by decide +kernel) (Nat.le_of_ble_eq_true rfl) (fun X hC hr hn htab h0 => ?_)
  have hC : xC G X "PlantServerModel" cX7_close 4 rm7_close := hC
  unfold w7_close at h
  refine xJ.loc (L' := [(0, .ref (ρ this)), (1, .int p1)]) rfl ?_
  refine x_aload_n hC 0 rfl dX7_close_0 ?_
  refine x_aload_n hC 0 rfl dX7_close_1 ?_
  refine x_iload_n hC 1 rfl dX7_close_2 ?_
  obtain ⟨k1, h⟩ := h
  refine x_callV (n0 := this) (as := [.int p1]) (rest := [.ref (ρ this)]) hC (ci := 7) (r := (RX7, TX7, 36)) k1 rfl (fun l hl => m7_isSubscription l hl G ρ this p1 σ _ h) q820 q822 s14 q3 q823 ⟨rfl, hd7_isSubscription⟩ (by decide) ⟨(by decide), (by decide)⟩ (by first | exact Nat.le_of_ble_eq_true rfl | (simp [rv_cat]; done) | (simp (decide := true) [rv_cat, cat_ref, cat_int]; done)) rfl dX7_close_3 (fun E σ9 hx => False.elim hx) (fun v1 σ1 ρ1 hp1 hag1 => ?_)
  obtain ⟨e9, r1, e8, h⟩ := hp1
  rw [e8, e9]
  refine xJ.nrm (k' := 0) (n' := 0) (pc' := 6) (st' := [.int r1, .ref (ρ this)]) rfl rfl rfl rfl ?_
  refine x_if_eq (tgt := 13) hC dX7_close_6 (by decide) (fun c1 => ?_) (fun c1 => ?_)
  · have h := h.1 c1
    refine x_iconst (v := 1) hC dX7_close_13 (by decide) ?_
    have k2 : hK σ1 this = 8 := (hag1 this (by rw [k1]; decide)).1.trans k1
    refine x_putI (n0 := this) hC (ci := 7) (T := TX7) (N := 36) (C := RX7) 0 k2 rfl rfl (by decide) rfl q689 rfl (tyX7_ok 0 (by decide)) dX7_close_14 ?_
    refine xJ.nmH (fun σ2 e1 => ?_)
    have h := h σ2 e1
    have r2 : hR σ2 = hR σ1 ∧ hL σ2 = hL σ1 := by rw [e1]; exact ⟨rfl, rfl⟩
    refine x_aload_n hC 0 rfl dX7_close_17 ?_
    have k3 : hK σ2 this = 8 := by rw [e1]; exact k2
    refine x_getI (n0 := this) hC (ci := 7) (T := TX7) (N := 36) (C := RX7) 0 k3 rfl rfl (by decide) rfl q689 dX7_close_18 ?_
    refine x_if_le (tgt := 26) hC dX7_close_21 (by decide) (fun c2 => ?_) (fun c2 => ?_)
    · have h := h.1 c2
      refine x_iconst (v := 0) hC dX7_close_26 (by decide) ?_
      refine x_istore_n (L' := [(2, .int 0), (0, .ref (ρ this)), (1, .int p1)]) hC dX7_close_27 (by decide) (by first | rfl | simp (decide := true) [rv_cat, cat_ref, cat_int]) ?_
      refine x_iconst (v := 0) hC dX7_close_28 (by decide) ?_
      refine x_istore_n (L' := [(3, .int 0), (2, .int 0), (0, .ref (ρ this)), (1, .int p1)]) hC dX7_close_29 (by decide) (by first | rfl | simp (decide := true) [rv_cat, cat_ref, cat_int]) ?_
      refine xJ.sub (L' := [(0, .ref (ρ this)), (1, .int p1), (2, .int 0), (3, .int 0)]) [2, 3, 1, 0] rfl ?_
      obtain ⟨f30, h⟩ := h
      refine ml7_close_30 hC hr htab this p1 h0 (0) (0) (by decide) (by decide) _ Q _ f30 _ _ _ h (fun y1 y2 τ1 h => ?_)
      refine x_aload_n hC 0 rfl dX7_close_62 ?_
      obtain ⟨k6, h⟩ := h
      refine x_getR (n0 := this) hC (ci := 7) (T := TX7) (N := 36) (C := RX7) 4 k6 rfl rfl (by decide) rfl q693 dX7_close_63 ?_
      refine x_iload_n hC 1 rfl dX7_close_66 ?_
      refine x_iconst (v := 0) hC dX7_close_67 (by decide) ?_
      obtain ⟨m2, hm2, h⟩ := h
      rw [show rv ρ (hR τ1 this 4) = Value.ref (ρ m2) from by rw [hm2]; rfl]
      obtain ⟨k7, h⟩ := h
      obtain ⟨v3, h⟩ := h
      refine x_zast (a := m2) hC zb0 k7 v3 dX7_close_68 ?_
      refine xJ.nmH (fun σ3 e2 => ?_)
      have h := h σ3 e2
      have r3 : hR σ3 = hR τ1 ∧ hL σ3 = hL τ1 := by rw [e2]; exact ⟨rfl, rfl⟩
      refine x_iload_n hC 2 rfl dX7_close_69 ?_
      exact x_iret hC hr dX7_close_70 (by decide) (by decide) ⟨rfl, _, rfl, h⟩
    · have h := h.2 c2
      refine x_iconst (v := 0) hC dX7_close_24 (by decide) ?_
      exact x_iret hC hr dX7_close_25 (by decide) (by decide) ⟨rfl, _, rfl, h⟩
  · have h := h.2 c1
    refine x_iconst (v := 0) hC dX7_close_9 (by decide) ?_
    refine x_goto (tgt := 14) hC dX7_close_10 (by decide) ?_
    have k8 : hK σ1 this = 8 := (hag1 this (by rw [k1]; decide)).1.trans k1
    refine x_putI (n0 := this) hC (ci := 7) (T := TX7) (N := 36) (C := RX7) 0 k8 rfl rfl (by decide) rfl q689 rfl (tyX7_ok 0 (by decide)) dX7_close_14 ?_
    refine xJ.nmH (fun σ4 e3 => ?_)
    have h := h σ4 e3
    have r4 : hR σ4 = hR σ1 ∧ hL σ4 = hL σ1 := by rw [e3]; exact ⟨rfl, rfl⟩
    refine x_aload_n hC 0 rfl dX7_close_17 ?_
    have k9 : hK σ4 this = 8 := by rw [e3]; exact k8
    refine x_getI (n0 := this) hC (ci := 7) (T := TX7) (N := 36) (C := RX7) 0 k9 rfl rfl (by decide) rfl q689 dX7_close_18 ?_
    refine x_if_le (tgt := 26) hC dX7_close_21 (by decide) (fun c5 => ?_) (fun c5 => ?_)
    · have h := h.1 c5
      refine x_iconst (v := 0) hC dX7_close_26 (by decide) ?_
      refine x_istore_n (L' := [(2, .int 0), (0, .ref (ρ this)), (1, .int p1)]) hC dX7_close_27 (by decide) (by first | rfl | simp (decide := true) [rv_cat, cat_ref, cat_int]) ?_
      refine x_iconst (v := 0) hC dX7_close_28 (by decide) ?_
      refine x_istore_n (L' := [(3, .int 0), (2, .int 0), (0, .ref (ρ this)), (1, .int p1)]) hC dX7_close_29 (by decide) (by first | rfl | simp (decide := true) [rv_cat, cat_ref, cat_int]) ?_
      refine xJ.sub (L' := [(0, .ref (ρ this)), (1, .int p1), (2, .int 0), (3, .int 0)]) [2, 3, 1, 0] rfl ?_
      obtain ⟨f30, h⟩ := h
      refine ml7_close_30 hC hr htab this p1 h0 (0) (0) (by decide) (by decide) _ Q _ f30 _ _ _ h (fun y3 y4 τ2 h => ?_)
      refine x_aload_n hC 0 rfl dX7_close_62 ?_
      obtain ⟨k12, h⟩ := h
      refine x_getR (n0 := this) hC (ci := 7) (T := TX7) (N := 36) (C := RX7) 4 k12 rfl rfl (by decide) rfl q693 dX7_close_63 ?_
      refine x_iload_n hC 1 rfl dX7_close_66 ?_
      refine x_iconst (v := 0) hC dX7_close_67 (by decide) ?_
      obtain ⟨m4, hm4, h⟩ := h
      rw [show rv ρ (hR τ2 this 4) = Value.ref (ρ m4) from by rw [hm4]; rfl]
      obtain ⟨k13, h⟩ := h
      obtain ⟨v5, h⟩ := h
      refine x_zast (a := m4) hC zb0 k13 v5 dX7_close_68 ?_
      refine xJ.nmH (fun σ5 e4 => ?_)
      have h := h σ5 e4
      have r5 : hR σ5 = hR τ2 ∧ hL σ5 = hL τ2 := by rw [e4]; exact ⟨rfl, rfl⟩
      refine x_iload_n hC 2 rfl dX7_close_69 ?_
      exact x_iret hC hr dX7_close_70 (by decide) (by decide) ⟨rfl, _, rfl, h⟩
    · have h := h.2 c5
      refine x_iconst (v := 0) hC dX7_close_24 (by decide) ?_
      exact x_iret hC hr dX7_close_25 (by decide) (by decide) ⟨rfl, _, rfl, h⟩
/-! PlantServer$Queue.<init> -/
theorem dX3_init_0 : decode cX3_init 0 = .ok (.aload_n 0, 1) := by decide +kernel
theorem dX3_init_1 : decode cX3_init 1 = .ok (.invokespecial 3, 3) := by decide +kernel
theorem dX3_init_4 : decode cX3_init 4 = .ok (.aload_n 0, 1) := by decide +kernel
theorem dX3_init_5 : decode cX3_init 5 = .ok (.iconst 4, 1) := by decide +kernel
theorem dX3_init_6 : decode cX3_init 6 = .ok (.newarray .int, 2) := by decide +kernel
theorem dX3_init_8 : decode cX3_init 8 = .ok (.putfield 9, 3) := by decide +kernel
theorem dX3_init_11 : decode cX3_init 11 = .ok (.aload_n 0, 1) := by decide +kernel
theorem dX3_init_12 : decode cX3_init 12 = .ok (.iconst 4, 1) := by decide +kernel
theorem dX3_init_13 : decode cX3_init 13 = .ok (.newarray .boolean, 2) := by decide +kernel
theorem dX3_init_15 : decode cX3_init 15 = .ok (.putfield 15, 3) := by decide +kernel
theorem dX3_init_18 : decode cX3_init 18 = .ok (.aload_n 0, 1) := by decide +kernel
theorem dX3_init_19 : decode cX3_init 19 = .ok (.iconst 0, 1) := by decide +kernel
theorem dX3_init_20 : decode cX3_init 20 = .ok (.putfield 19, 3) := by decide +kernel
theorem dX3_init_23 : decode cX3_init 23 = .ok (.aload_n 0, 1) := by decide +kernel
theorem dX3_init_24 : decode cX3_init 24 = .ok (.iload_n 1, 1) := by decide +kernel
theorem dX3_init_25 : decode cX3_init 25 = .ok (.putfield 23, 3) := by decide +kernel
theorem dX3_init_28 : decode cX3_init 28 = .ok (.aload_n 0, 1) := by decide +kernel
theorem dX3_init_29 : decode cX3_init 29 = .ok (.iload_n 2, 1) := by decide +kernel
theorem dX3_init_30 : decode cX3_init 30 = .ok (.putfield 26, 3) := by decide +kernel
theorem dX3_init_33 : decode cX3_init 33 = .ok (.return_, 1) := by decide +kernel
abbrev rm3_init : Room := { frames := 1, cells := 2, slots := 8, locals := 20 }
theorem hd3_init : yX3_init.cls ≠ "java/lang/invoke/MethodHandle" ∧ yX3_init.cls ≠ "java/lang/invoke/VarHandle" ∧ (parseMethodDescriptor yX3_init.desc).map (fun d => d.parameters.length) = some 2 := by decide +kernel
set_option maxHeartbeats 4000000 in
set_option maxRecDepth 20000 in
theorem m3_init (l : Launch) (hl : l.stackTraces = false) (G : xG) (ρ : Nm → Nat) (this : Nm) (p1 : Int32) (p2 : Int32) (σ : PH) (Q : PH → Prop) (h : w3_init this p1 p2 σ Q) : xMet l yX3_init (.code yX3_init cX3_init 3 none) rm3_init G ρ σ [.ref (ρ this), .int p1, .int p2] (eVA Q) xNo := by
  refine xMet.of hl (by decide +kernel) (Nat.le_of_ble_eq_true rfl) (fun X hC hr hn htab h0 => ?_)
  have hC : xC G X "PlantServer$Queue" cX3_init 3 rm3_init := hC
  unfold w3_init at h
  refine xJ.loc (L' := [(0, .ref (ρ this)), (1, .int p1), (2, .int p2)]) rfl ?_
  refine x_aload_n hC 0 rfl dX3_init_0 ?_
  refine x_oinit hC q316 q23 q24 (by decide) (by first | exact Nat.le_of_ble_eq_true rfl | (simp [rv_cat]; done) | (simp (decide := true) [rv_cat, cat_ref, cat_int]; done)) dX3_init_1 ?_
  refine x_aload_n hC 0 rfl dX3_init_4 ?_
  refine x_iconst (v := 4) hC dX3_init_5 (by decide) ?_
  obtain ⟨n1, hz1, h⟩ := h
  obtain ⟨z1, h⟩ := h
  refine x_newa (kd := 9) (N := 4) (by decide) hC n1 hz1 .int rfl (by decide) (by decide) q49 (by decide) (by decide) dX3_init_6 (fun ρ1 hρ1 => ?_)
  rw [← hρ1 this z1]
  refine xJ.nmH (fun σ1 e1 => ?_)
  have h := h σ1 e1
  have k1 : hK σ1 n1 = 9 := by rw [e1]; exact sN_c
  obtain ⟨k2, h⟩ := h
  refine x_putRF (m0 := n1) (n0 := this) hC (ci := 3) (T := TX3) (N := 5) (C := RX3) 2 k2 rfl rfl (by decide) rfl q319 rfl rfl hn (tyX3_ok 2 (by decide)) rfl rfl (by rw [k1]; decide) dX3_init_8 ?_
  refine xJ.nmH (fun σ2 e2 => ?_)
  have h := h σ2 e2
  have r1 : hR σ2 = hR σ2 ∧ hL σ2 = hL σ1 := by rw [e2]; exact ⟨rfl, rfl⟩
  refine x_aload_n hC 0 rfl dX3_init_11 ?_
  refine x_iconst (v := 4) hC dX3_init_12 (by decide) ?_
  obtain ⟨n2, hz2, h⟩ := h
  have k3 : hK σ2 this = 4 := by rw [e2]; exact k2
  refine x_newa (kd := 10) (N := 4) (by decide) hC n2 hz2 .boolean rfl (by decide) (by decide) q338 (by decide) (by decide) dX3_init_13 (fun ρ2 hρ2 => ?_)
  rw [← hρ2 this (by rw [k3]; decide)]
  refine xJ.nmH (fun σ3 e3 => ?_)
  have h := h σ3 e3
  have k4 : hK σ3 n2 = 10 := by rw [e3]; exact sN_c
  have k5 : hK σ3 this = 4 := by rw [e3]; exact sN_k hz2 k3 (by decide)
  refine x_putRF (m0 := n2) (n0 := this) hC (ci := 3) (T := TX3) (N := 5) (C := RX3) 3 k5 rfl rfl (by decide) rfl q321 rfl rfl hn (tyX3_ok 3 (by decide)) rfl rfl (by rw [k4]; decide) dX3_init_15 ?_
  refine xJ.nmH (fun σ4 e4 => ?_)
  have h := h σ4 e4
  have r2 : hR σ4 = hR σ4 ∧ hL σ4 = hL σ3 := by rw [e4]; exact ⟨rfl, rfl⟩
  refine x_aload_n hC 0 rfl dX3_init_18 ?_
  refine x_iconst (v := 0) hC dX3_init_19 (by decide) ?_
  have k6 : hK σ4 this = 4 := by rw [e4]; exact k5
  refine x_putI (n0 := this) hC (ci := 3) (T := TX3) (N := 5) (C := RX3) 4 k6 rfl rfl (by decide) rfl q323 rfl (tyX3_ok 4 (by decide)) dX3_init_20 ?_
  refine xJ.nmH (fun σ5 e5 => ?_)
  have h := h σ5 e5
  have r3 : hR σ5 = hR σ4 ∧ hL σ5 = hL σ3 := by rw [e5]; exact ⟨r2.1, r2.2⟩
  refine x_aload_n hC 0 rfl dX3_init_23 ?_
  refine x_iload_n hC 1 rfl dX3_init_24 ?_
  have k7 : hK σ5 this = 4 := by rw [e5]; exact k6
  refine x_putIF (n0 := this) hC (ci := 3) (T := TX3) (N := 5) (C := RX3) 0 k7 rfl rfl (by decide) rfl q317 rfl rfl hn (tyX3_ok 0 (by decide)) dX3_init_25 ?_
  refine xJ.nmH (fun σ6 e6 => ?_)
  have h := h σ6 e6
  have r4 : hR σ6 = hR σ4 ∧ hL σ6 = hL σ3 := by rw [e6]; exact ⟨r3.1, r3.2⟩
  refine x_aload_n hC 0 rfl dX3_init_28 ?_
  refine x_iload_n hC 2 rfl dX3_init_29 ?_
  have k8 : hK σ6 this = 4 := by rw [e6]; exact k7
  obtain ⟨zh1, h⟩ := h
  refine x_putZF (n0 := this) hC (ci := 3) (T := TX3) (N := 5) (C := RX3) 1 k8 rfl rfl (by decide) rfl q318 rfl rfl hn (tyX3_ok 1 (by decide)) zh1 dX3_init_30 ?_
  refine xJ.nmH (fun σ7 e7 => ?_)
  have h := h σ7 e7
  have r5 : hR σ7 = hR σ4 ∧ hL σ7 = hL σ3 := by rw [e7]; exact ⟨r4.1, r4.2⟩
  exact x_vret hC hr dX3_init_33 (by decide) (by decide) ⟨rfl, h⟩
/-! PlantServer$Item.<init> -/
theorem dX1_init_0 : decode cX1_init 0 = .ok (.aload_n 0, 1) := by decide +kernel
theorem dX1_init_1 : decode cX1_init 1 = .ok (.invokespecial 1, 3) := by decide +kernel
theorem dX1_init_4 : decode cX1_init 4 = .ok (.aload_n 0, 1) := by decide +kernel
theorem dX1_init_5 : decode cX1_init 5 = .ok (.iconst 1, 1) := by decide +kernel
theorem dX1_init_6 : decode cX1_init 6 = .ok (.putfield 7, 3) := by decide +kernel
theorem dX1_init_9 : decode cX1_init 9 = .ok (.aload_n 0, 1) := by decide +kernel
theorem dX1_init_10 : decode cX1_init 10 = .ok (.iconst 0, 1) := by decide +kernel
theorem dX1_init_11 : decode cX1_init 11 = .ok (.putfield 13, 3) := by decide +kernel
theorem dX1_init_14 : decode cX1_init 14 = .ok (.aload_n 0, 1) := by decide +kernel
theorem dX1_init_15 : decode cX1_init 15 = .ok (.iconst 0, 1) := by decide +kernel
theorem dX1_init_16 : decode cX1_init 16 = .ok (.putfield 17, 3) := by decide +kernel
theorem dX1_init_19 : decode cX1_init 19 = .ok (.aload_n 0, 1) := by decide +kernel
theorem dX1_init_20 : decode cX1_init 20 = .ok (.iconst 0, 1) := by decide +kernel
theorem dX1_init_21 : decode cX1_init 21 = .ok (.putfield 20, 3) := by decide +kernel
theorem dX1_init_24 : decode cX1_init 24 = .ok (.aload_n 0, 1) := by decide +kernel
theorem dX1_init_25 : decode cX1_init 25 = .ok (.iconst 0, 1) := by decide +kernel
theorem dX1_init_26 : decode cX1_init 26 = .ok (.putfield 23, 3) := by decide +kernel
theorem dX1_init_29 : decode cX1_init 29 = .ok (.aload_n 0, 1) := by decide +kernel
theorem dX1_init_30 : decode cX1_init 30 = .ok (.iconst 0, 1) := by decide +kernel
theorem dX1_init_31 : decode cX1_init 31 = .ok (.putfield 26, 3) := by decide +kernel
theorem dX1_init_34 : decode cX1_init 34 = .ok (.aload_n 0, 1) := by decide +kernel
theorem dX1_init_35 : decode cX1_init 35 = .ok (.iload_n 1, 1) := by decide +kernel
theorem dX1_init_36 : decode cX1_init 36 = .ok (.putfield 29, 3) := by decide +kernel
theorem dX1_init_39 : decode cX1_init 39 = .ok (.aload_n 0, 1) := by decide +kernel
theorem dX1_init_40 : decode cX1_init 40 = .ok (.aload_n 2, 1) := by decide +kernel
theorem dX1_init_41 : decode cX1_init 41 = .ok (.putfield 32, 3) := by decide +kernel
theorem dX1_init_44 : decode cX1_init 44 = .ok (.aload_n 0, 1) := by decide +kernel
theorem dX1_init_45 : decode cX1_init 45 = .ok (.iload_n 3, 1) := by decide +kernel
theorem dX1_init_46 : decode cX1_init 46 = .ok (.putfield 36, 3) := by decide +kernel
theorem dX1_init_49 : decode cX1_init 49 = .ok (.aload_n 0, 1) := by decide +kernel
theorem dX1_init_50 : decode cX1_init 50 = .ok (.iload 5, 2) := by decide +kernel
theorem dX1_init_52 : decode cX1_init 52 = .ok (.putfield 39, 3) := by decide +kernel
theorem dX1_init_55 : decode cX1_init 55 = .ok (.aload_n 0, 1) := by decide +kernel
theorem dX1_init_56 : decode cX1_init 56 = .ok (.new 42, 3) := by decide +kernel
theorem dX1_init_59 : decode cX1_init 59 = .ok (.dup, 1) := by decide +kernel
theorem dX1_init_60 : decode cX1_init 60 = .ok (.iload 4, 2) := by decide +kernel
theorem dX1_init_62 : decode cX1_init 62 = .ok (.invokespecial 44, 3) := by decide +kernel
theorem dX1_init_65 : decode cX1_init 65 = .ok (.putfield 47, 3) := by decide +kernel
theorem dX1_init_68 : decode cX1_init 68 = .ok (.aload_n 0, 1) := by decide +kernel
theorem dX1_init_69 : decode cX1_init 69 = .ok (.aload 6, 2) := by decide +kernel
theorem dX1_init_71 : decode cX1_init 71 = .ok (.putfield 51, 3) := by decide +kernel
theorem dX1_init_74 : decode cX1_init 74 = .ok (.return_, 1) := by decide +kernel
abbrev rm1_init : Room := { frames := 2, cells := 1, slots := 2, locals := 41 }
theorem hd1_init : yX1_init.cls ≠ "java/lang/invoke/MethodHandle" ∧ yX1_init.cls ≠ "java/lang/invoke/VarHandle" ∧ (parseMethodDescriptor yX1_init.desc).map (fun d => d.parameters.length) = some 6 := by decide +kernel
set_option maxHeartbeats 4000000 in
set_option maxRecDepth 20000 in
theorem m1_init (l : Launch) (hl : l.stackTraces = false) (G : xG) (ρ : Nm → Nat) (this : Nm) (p1 : Int32) (a2 : Nm) (p3 : Int32) (p4 : Int32) (p5 : Int32) (a6 : Nm) (σ : PH) (Q : PH → Prop) (h : w1_init this p1 a2 p3 p4 p5 a6 σ Q) : xMet l yX1_init (.code yX1_init cX1_init 7 none) rm1_init G ρ σ [.ref (ρ this), .int p1, .ref (ρ a2), .int p3, .int p4, .int p5, .ref (ρ a6)] (eVA Q) xNo := by
  refine xMet.of hl (by decide +kernel) (Nat.le_of_ble_eq_true rfl) (fun X hC hr hn htab h0 => ?_)
  have hC : xC G X "PlantServer$Item" cX1_init 7 rm1_init := hC
  unfold w1_init at h
  refine xJ.loc (L' := [(0, .ref (ρ this)), (1, .int p1), (2, .ref (ρ a2)), (3, .int p3), (4, .int p4), (5, .int p5), (6, .ref (ρ a6))]) rfl ?_
  refine x_aload_n hC 0 rfl dX1_init_0 ?_
  refine x_oinit hC q342 q23 q24 (by decide) (by first | exact Nat.le_of_ble_eq_true rfl | (simp [rv_cat]; done) | (simp (decide := true) [rv_cat, cat_ref, cat_int]; done)) dX1_init_1 ?_
  refine x_aload_n hC 0 rfl dX1_init_4 ?_
  refine x_iconst (v := 1) hC dX1_init_5 (by decide) ?_
  obtain ⟨k1, h⟩ := h
  refine x_putZ (n0 := this) hC (ci := 1) (T := TX1) (N := 12) (C := RX1) 6 k1 rfl rfl (by decide) rfl q360 rfl (tyX1_ok 6 (by decide)) zb1 dX1_init_6 ?_
  refine xJ.nmH (fun σ1 e1 => ?_)
  have h := h σ1 e1
  have r1 : hR σ1 = hR σ ∧ hL σ1 = hL σ := by rw [e1]; exact ⟨rfl, rfl⟩
  refine x_aload_n hC 0 rfl dX1_init_9 ?_
  refine x_iconst (v := 0) hC dX1_init_10 (by decide) ?_
  have k2 : hK σ1 this = 2 := by rw [e1]; exact k1
  refine x_putI (n0 := this) hC (ci := 1) (T := TX1) (N := 12) (C := RX1) 7 k2 rfl rfl (by decide) rfl q363 rfl (tyX1_ok 7 (by decide)) dX1_init_11 ?_
  refine xJ.nmH (fun σ2 e2 => ?_)
  have h := h σ2 e2
  have r2 : hR σ2 = hR σ ∧ hL σ2 = hL σ := by rw [e2]; exact ⟨r1.1, r1.2⟩
  refine x_aload_n hC 0 rfl dX1_init_14 ?_
  refine x_iconst (v := 0) hC dX1_init_15 (by decide) ?_
  have k3 : hK σ2 this = 2 := by rw [e2]; exact k2
  refine x_putI (n0 := this) hC (ci := 1) (T := TX1) (N := 12) (C := RX1) 8 k3 rfl rfl (by decide) rfl q365 rfl (tyX1_ok 8 (by decide)) dX1_init_16 ?_
  refine xJ.nmH (fun σ3 e3 => ?_)
  have h := h σ3 e3
  have r3 : hR σ3 = hR σ ∧ hL σ3 = hL σ := by rw [e3]; exact ⟨r2.1, r2.2⟩
  refine x_aload_n hC 0 rfl dX1_init_19 ?_
  refine x_iconst (v := 0) hC dX1_init_20 (by decide) ?_
  have k4 : hK σ3 this = 2 := by rw [e3]; exact k3
  refine x_putI (n0 := this) hC (ci := 1) (T := TX1) (N := 12) (C := RX1) 9 k4 rfl rfl (by decide) rfl q367 rfl (tyX1_ok 9 (by decide)) dX1_init_21 ?_
  refine xJ.nmH (fun σ4 e4 => ?_)
  have h := h σ4 e4
  have r4 : hR σ4 = hR σ ∧ hL σ4 = hL σ := by rw [e4]; exact ⟨r3.1, r3.2⟩
  refine x_aload_n hC 0 rfl dX1_init_24 ?_
  refine x_iconst (v := 0) hC dX1_init_25 (by decide) ?_
  have k5 : hK σ4 this = 2 := by rw [e4]; exact k4
  refine x_putI (n0 := this) hC (ci := 1) (T := TX1) (N := 12) (C := RX1) 10 k5 rfl rfl (by decide) rfl q368 rfl (tyX1_ok 10 (by decide)) dX1_init_26 ?_
  refine xJ.nmH (fun σ5 e5 => ?_)
  have h := h σ5 e5
  have r5 : hR σ5 = hR σ ∧ hL σ5 = hL σ := by rw [e5]; exact ⟨r4.1, r4.2⟩
  refine x_aload_n hC 0 rfl dX1_init_29 ?_
  refine x_iconst (v := 0) hC dX1_init_30 (by decide) ?_
  have k6 : hK σ5 this = 2 := by rw [e5]; exact k5
  refine x_putI (n0 := this) hC (ci := 1) (T := TX1) (N := 12) (C := RX1) 11 k6 rfl rfl (by decide) rfl q370 rfl (tyX1_ok 11 (by decide)) dX1_init_31 ?_
  refine xJ.nmH (fun σ6 e6 => ?_)
  have h := h σ6 e6
  have r6 : hR σ6 = hR σ ∧ hL σ6 = hL σ := by rw [e6]; exact ⟨r5.1, r5.2⟩
  refine x_aload_n hC 0 rfl dX1_init_34 ?_
  refine x_iload_n hC 1 rfl dX1_init_35 ?_
  have k7 : hK σ6 this = 2 := by rw [e6]; exact k6
  refine x_putIF (n0 := this) hC (ci := 1) (T := TX1) (N := 12) (C := RX1) 0 k7 rfl rfl (by decide) rfl q345 rfl rfl hn (tyX1_ok 0 (by decide)) dX1_init_36 ?_
  refine xJ.nmH (fun σ7 e7 => ?_)
  have h := h σ7 e7
  have r7 : hR σ7 = hR σ ∧ hL σ7 = hL σ := by rw [e7]; exact ⟨r6.1, r6.2⟩
  refine x_aload_n hC 0 rfl dX1_init_39 ?_
  refine x_aload_n hC 2 rfl dX1_init_40 ?_
  have k8 : hK σ7 this = 2 := by rw [e7]; exact k7
  obtain ⟨z1, h⟩ := h
  refine x_putRF (m0 := a2) (n0 := this) hC (ci := 1) (T := TX1) (N := 12) (C := RX1) 1 k8 rfl rfl (by decide) rfl q348 rfl rfl hn (tyX1_ok 1 (by decide)) rfl rfl z1 dX1_init_41 ?_
  refine xJ.nmH (fun σ8 e8 => ?_)
  have h := h σ8 e8
  have r8 : hR σ8 = hR σ8 ∧ hL σ8 = hL σ := by rw [e8]; exact ⟨rfl, r7.2⟩
  refine x_aload_n hC 0 rfl dX1_init_44 ?_
  refine x_iload_n hC 3 rfl dX1_init_45 ?_
  have k9 : hK σ8 this = 2 := by rw [e8]; exact k8
  refine x_putIF (n0 := this) hC (ci := 1) (T := TX1) (N := 12) (C := RX1) 2 k9 rfl rfl (by decide) rfl q350 rfl rfl hn (tyX1_ok 2 (by decide)) dX1_init_46 ?_
  refine xJ.nmH (fun σ9 e9 => ?_)
  have h := h σ9 e9
  have r9 : hR σ9 = hR σ8 ∧ hL σ9 = hL σ := by rw [e9]; exact ⟨r8.1, r8.2⟩
  refine x_aload_n hC 0 rfl dX1_init_49 ?_
  refine x_iload hC 5 rfl dX1_init_50 ?_
  have k10 : hK σ9 this = 2 := by rw [e9]; exact k9
  refine x_putIF (n0 := this) hC (ci := 1) (T := TX1) (N := 12) (C := RX1) 3 k10 rfl rfl (by decide) rfl q353 rfl rfl hn (tyX1_ok 3 (by decide)) dX1_init_52 ?_
  refine xJ.nmH (fun σ10 e10 => ?_)
  have h := h σ10 e10
  have r10 : hR σ10 = hR σ8 ∧ hL σ10 = hL σ := by rw [e10]; exact ⟨r9.1, r9.2⟩
  refine x_aload_n hC 0 rfl dX1_init_55 ?_
  obtain ⟨n1, hz1, h⟩ := h
  have k11 : hK σ10 this = 2 := by rw [e10]; exact k10
  obtain ⟨z2, h⟩ := h
  refine x_new (ci := 5) (T := TX5) (N := 2) (C := RX5) hC n1 hz1 rfl xdf5 q343 q223 q11 (by decide) (by decide) dX1_init_56 (fun ρ1 hρ1 => ?_)
  refine xJ.sub (L' := [(0, .ref (ρ this)), (4, .int p4), (6, .ref (ρ a6))]) [0, 4, 6] rfl ?_
  rw [← hρ1 this (by rw [k11]; decide), ← hρ1 a6 z2]
  refine xJ.nmH (fun σ11 e11 => ?_)
  have h := h σ11 e11
  have k12 : hK σ11 n1 = 6 := by rw [e11]; exact sN_c
  refine x_dup hC (by first | rfl | exact rv_cat) dX1_init_59 ?_
  refine x_iload hC 1 rfl dX1_init_60 ?_
  refine x_callI (as := [.int p4]) (rest := [.ref (ρ1 n1), .ref (ρ1 this)]) hC (fun l hl => m5_init l hl G ρ1 n1 p4 σ11 _ h) q344 q225 q11 q226 rfl hd5_init (by decide) ⟨(by decide), (by decide)⟩ (by first | exact Nat.le_of_ble_eq_true rfl | (simp [rv_cat]; done) | (simp (decide := true) [rv_cat, cat_ref, cat_int]; done)) rfl dX1_init_62 (fun E σ9 hx => False.elim hx) (fun v1 σ12 ρ2 hp1 hag1 => ?_)
  obtain ⟨e9, e8, h⟩ := hp1
  rw [e8, e9]
  refine xJ.nrm (k' := 1) (n' := 2) (pc' := 65) (st' := [.ref (ρ1 n1), .ref (ρ1 this)]) rfl rfl rfl rfl ?_
  have k13 : hK σ11 this = 2 := by rw [e11]; exact sN_k hz1 k11 (by decide)
  have k14 : hK σ12 this = 2 := (hag1 this (by rw [k13]; decide)).1.trans k13
  have k15 : hK σ12 n1 = 6 := (hag1 n1 (by rw [k12]; decide)).1.trans k12
  refine x_putRF (m0 := n1) (n0 := this) hC (ci := 1) (T := TX1) (N := 12) (C := RX1) 4 k14 rfl rfl (by decide) rfl q354 rfl rfl hn (tyX1_ok 4 (by decide)) rfl rfl (by rw [k15]; decide) dX1_init_65 ?_
  refine xJ.nmH (fun σ13 e12 => ?_)
  have h := h σ13 e12
  have r11 : hR σ13 = hR σ13 ∧ hL σ13 = hL σ12 := by rw [e12]; exact ⟨rfl, rfl⟩
  refine x_aload_n hC 0 rfl dX1_init_68 ?_
  refine x_aload hC 2 rfl dX1_init_69 ?_
  have k16 : hK σ13 this = 2 := by rw [e12]; exact k14
  obtain ⟨z3, h⟩ := h
  refine x_putRF (m0 := a6) (n0 := this) hC (ci := 1) (T := TX1) (N := 12) (C := RX1) 5 k16 rfl rfl (by decide) rfl q357 rfl rfl hn (tyX1_ok 5 (by decide)) rfl rfl z3 dX1_init_71 ?_
  refine xJ.nmH (fun σ14 e13 => ?_)
  have h := h σ14 e13
  have r12 : hR σ14 = hR σ14 ∧ hL σ14 = hL σ12 := by rw [e13]; exact ⟨rfl, r11.2⟩
  exact x_vret hC hr dX1_init_74 (by decide) (by decide) ⟨rfl, h⟩
/-! PlantServer$Subscription.take -/
theorem dX4_take_0 : decode cX4_take 0 = .ok (.aload_n 0, 1) := by decide +kernel
theorem dX4_take_1 : decode cX4_take 1 = .ok (.getfield 27, 3) := by decide +kernel
theorem dX4_take_4 : decode cX4_take 4 = .ok (.bipush 16, 2) := by decide +kernel
theorem dX4_take_6 : decode cX4_take 6 = .ok (.if_icmp .ge 23, 3) := by decide +kernel
theorem dX4_take_9 : decode cX4_take 9 = .ok (.aload_n 0, 1) := by decide +kernel
theorem dX4_take_10 : decode cX4_take 10 = .ok (.getfield 11, 3) := by decide +kernel
theorem dX4_take_13 : decode cX4_take 13 = .ok (.aload_n 0, 1) := by decide +kernel
theorem dX4_take_14 : decode cX4_take 14 = .ok (.getfield 27, 3) := by decide +kernel
theorem dX4_take_17 : decode cX4_take 17 = .ok (.aload_n 1, 1) := by decide +kernel
theorem dX4_take_18 : decode cX4_take 18 = .ok (.aastore, 1) := by decide +kernel
theorem dX4_take_19 : decode cX4_take 19 = .ok (.aload_n 0, 1) := by decide +kernel
theorem dX4_take_20 : decode cX4_take 20 = .ok (.dup, 1) := by decide +kernel
theorem dX4_take_21 : decode cX4_take 21 = .ok (.getfield 27, 3) := by decide +kernel
theorem dX4_take_24 : decode cX4_take 24 = .ok (.iconst 1, 1) := by decide +kernel
theorem dX4_take_25 : decode cX4_take 25 = .ok (.iadd, 1) := by decide +kernel
theorem dX4_take_26 : decode cX4_take 26 = .ok (.putfield 27, 3) := by decide +kernel
theorem dX4_take_29 : decode cX4_take 29 = .ok (.return_, 1) := by decide +kernel
abbrev rm4_take : Room := { frames := 0, cells := 0, slots := 0, locals := 0 }
theorem hd4_take : yX4_take.cls ≠ "java/lang/invoke/MethodHandle" ∧ yX4_take.cls ≠ "java/lang/invoke/VarHandle" ∧ (parseMethodDescriptor yX4_take.desc).map (fun d => d.parameters.length) = some 1 := by decide +kernel
set_option maxHeartbeats 4000000 in
set_option maxRecDepth 20000 in
theorem m4_take (l : Launch) (hl : l.stackTraces = false) (G : xG) (ρ : Nm → Nat) (this : Nm) (a1 : Nm) (σ : PH) (Q : PH → Prop) (h : w4_take this a1 σ Q) : xMet l yX4_take (.code yX4_take cX4_take 2 none) rm4_take G ρ σ [.ref (ρ this), .ref (ρ a1)] (eV ρ Q) xNo := by
  refine xMet.of hl (by decide +kernel) (Nat.le_of_ble_eq_true rfl) (fun X hC hr hn htab h0 => ?_)
  have hC : xC G X "PlantServer$Subscription" cX4_take 2 rm4_take := hC
  unfold w4_take at h
  refine xJ.loc (L' := [(0, .ref (ρ this)), (1, .ref (ρ a1))]) rfl ?_
  refine x_aload_n hC 0 rfl dX4_take_0 ?_
  obtain ⟨k1, h⟩ := h
  refine x_getI (n0 := this) hC (ci := 4) (T := TX4) (N := 14) (C := RX4) 8 k1 rfl rfl (by decide) rfl q247 dX4_take_1 ?_
  refine x_bipush (v := 16) hC dX4_take_4 (by decide) ?_
  refine x_icmp_ge (tgt := 29) hC dX4_take_6 (by decide) (fun c1 => ?_) (fun c1 => ?_)
  · have h := h.1 c1
    exact x_vret hC hr dX4_take_29 (by decide) (by decide) ⟨rfl, rfl, h⟩
  · have h := h.2 c1
    refine x_aload_n hC 0 rfl dX4_take_9 ?_
    refine x_getR (n0 := this) hC (ci := 4) (T := TX4) (N := 14) (C := RX4) 5 k1 rfl rfl (by decide) rfl q243 dX4_take_10 ?_
    refine x_aload_n hC 0 rfl dX4_take_13 ?_
    refine x_getI (n0 := this) hC (ci := 4) (T := TX4) (N := 14) (C := RX4) 8 k1 rfl rfl (by decide) rfl q247 dX4_take_14 ?_
    refine x_aload_n hC 1 rfl dX4_take_17 ?_
    obtain ⟨m1, hm1, h⟩ := h
    rw [show rv ρ (hR σ this 5) = Value.ref (ρ m1) from by rw [hm1]; rfl]
    obtain ⟨k2, h⟩ := h
    obtain ⟨v1, h⟩ := h
    obtain ⟨k3, h⟩ := h
    refine x_aast11 (a := m1) (o := some a1) hC (fun m hm => by cases hm; exact k3) k2 v1 dX4_take_18 ?_
    refine xJ.nmH (fun σ1 e1 => ?_)
    have h := h σ1 e1
    have r1 : hR σ1 = hR σ1 ∧ hL σ1 = hL σ := by rw [e1]; exact ⟨rfl, rfl⟩
    refine x_aload_n hC 0 rfl dX4_take_19 ?_
    refine x_dup hC (by first | rfl | exact rv_cat) dX4_take_20 ?_
    have k4 : hK σ1 this = 5 := by rw [e1]; exact k1
    refine x_getI (n0 := this) hC (ci := 4) (T := TX4) (N := 14) (C := RX4) 8 k4 rfl rfl (by decide) rfl q247 dX4_take_21 ?_
    refine x_iconst (v := 1) hC dX4_take_24 (by decide) ?_
    refine x_iadd hC dX4_take_25 ?_
    refine x_putI (n0 := this) hC (ci := 4) (T := TX4) (N := 14) (C := RX4) 8 k4 rfl rfl (by decide) rfl q247 rfl (tyX4_ok 8 (by decide)) dX4_take_26 ?_
    refine xJ.nmH (fun σ2 e2 => ?_)
    have h := h σ2 e2
    have r2 : hR σ2 = hR σ1 ∧ hL σ2 = hL σ := by rw [e2]; exact ⟨r1.1, r1.2⟩
    exact x_vret hC hr dX4_take_29 (by decide) (by decide) ⟨rfl, rfl, h⟩
/-! PlantServer$Queue.append -/
theorem dX3_append_0 : decode cX3_append 0 = .ok (.aload_n 0, 1) := by decide +kernel
theorem dX3_append_1 : decode cX3_append 1 = .ok (.getfield 19, 3) := by decide +kernel
theorem dX3_append_4 : decode cX3_append 4 = .ok (.iconst 4, 1) := by decide +kernel
theorem dX3_append_5 : decode cX3_append 5 = .ok (.if_icmp .ge 33, 3) := by decide +kernel
theorem dX3_append_8 : decode cX3_append 8 = .ok (.aload_n 0, 1) := by decide +kernel
theorem dX3_append_9 : decode cX3_append 9 = .ok (.getfield 9, 3) := by decide +kernel
theorem dX3_append_12 : decode cX3_append 12 = .ok (.aload_n 0, 1) := by decide +kernel
theorem dX3_append_13 : decode cX3_append 13 = .ok (.getfield 19, 3) := by decide +kernel
theorem dX3_append_16 : decode cX3_append 16 = .ok (.iload_n 1, 1) := by decide +kernel
theorem dX3_append_17 : decode cX3_append 17 = .ok (.iastore, 1) := by decide +kernel
theorem dX3_append_18 : decode cX3_append 18 = .ok (.aload_n 0, 1) := by decide +kernel
theorem dX3_append_19 : decode cX3_append 19 = .ok (.getfield 15, 3) := by decide +kernel
theorem dX3_append_22 : decode cX3_append 22 = .ok (.aload_n 0, 1) := by decide +kernel
theorem dX3_append_23 : decode cX3_append 23 = .ok (.getfield 19, 3) := by decide +kernel
theorem dX3_append_26 : decode cX3_append 26 = .ok (.iload_n 2, 1) := by decide +kernel
theorem dX3_append_27 : decode cX3_append 27 = .ok (.bastore, 1) := by decide +kernel
theorem dX3_append_28 : decode cX3_append 28 = .ok (.aload_n 0, 1) := by decide +kernel
theorem dX3_append_29 : decode cX3_append 29 = .ok (.dup, 1) := by decide +kernel
theorem dX3_append_30 : decode cX3_append 30 = .ok (.getfield 19, 3) := by decide +kernel
theorem dX3_append_33 : decode cX3_append 33 = .ok (.iconst 1, 1) := by decide +kernel
theorem dX3_append_34 : decode cX3_append 34 = .ok (.iadd, 1) := by decide +kernel
theorem dX3_append_35 : decode cX3_append 35 = .ok (.putfield 19, 3) := by decide +kernel
theorem dX3_append_38 : decode cX3_append 38 = .ok (.return_, 1) := by decide +kernel
abbrev rm3_append : Room := { frames := 0, cells := 0, slots := 0, locals := 0 }
theorem hd3_append : yX3_append.cls ≠ "java/lang/invoke/MethodHandle" ∧ yX3_append.cls ≠ "java/lang/invoke/VarHandle" ∧ (parseMethodDescriptor yX3_append.desc).map (fun d => d.parameters.length) = some 2 := by decide +kernel
set_option maxHeartbeats 4000000 in
set_option maxRecDepth 20000 in
theorem m3_append (l : Launch) (hl : l.stackTraces = false) (G : xG) (ρ : Nm → Nat) (this : Nm) (p1 : Int32) (p2 : Int32) (σ : PH) (Q : PH → Prop) (h : w3_append this p1 p2 σ Q) : xMet l yX3_append (.code yX3_append cX3_append 3 none) rm3_append G ρ σ [.ref (ρ this), .int p1, .int p2] (eV ρ Q) xNo := by
  refine xMet.of hl (by decide +kernel) (Nat.le_of_ble_eq_true rfl) (fun X hC hr hn htab h0 => ?_)
  have hC : xC G X "PlantServer$Queue" cX3_append 3 rm3_append := hC
  unfold w3_append at h
  refine xJ.loc (L' := [(0, .ref (ρ this)), (1, .int p1), (2, .int p2)]) rfl ?_
  refine x_aload_n hC 0 rfl dX3_append_0 ?_
  obtain ⟨k1, h⟩ := h
  refine x_getI (n0 := this) hC (ci := 3) (T := TX3) (N := 5) (C := RX3) 4 k1 rfl rfl (by decide) rfl q323 dX3_append_1 ?_
  refine x_iconst (v := 4) hC dX3_append_4 (by decide) ?_
  refine x_icmp_ge (tgt := 38) hC dX3_append_5 (by decide) (fun c1 => ?_) (fun c1 => ?_)
  · have h := h.1 c1
    exact x_vret hC hr dX3_append_38 (by decide) (by decide) ⟨rfl, rfl, h⟩
  · have h := h.2 c1
    refine x_aload_n hC 0 rfl dX3_append_8 ?_
    refine x_getR (n0 := this) hC (ci := 3) (T := TX3) (N := 5) (C := RX3) 2 k1 rfl rfl (by decide) rfl q319 dX3_append_9 ?_
    refine x_aload_n hC 0 rfl dX3_append_12 ?_
    refine x_getI (n0 := this) hC (ci := 3) (T := TX3) (N := 5) (C := RX3) 4 k1 rfl rfl (by decide) rfl q323 dX3_append_13 ?_
    refine x_iload_n hC 1 rfl dX3_append_16 ?_
    obtain ⟨m1, hm1, h⟩ := h
    rw [show rv ρ (hR σ this 2) = Value.ref (ρ m1) from by rw [hm1]; rfl]
    obtain ⟨k2, h⟩ := h
    obtain ⟨v1, h⟩ := h
    refine x_iast (a := m1) hC k2 v1 dX3_append_17 ?_
    refine xJ.nmH (fun σ1 e1 => ?_)
    have h := h σ1 e1
    have r1 : hR σ1 = hR σ ∧ hL σ1 = hL σ := by rw [e1]; exact ⟨rfl, rfl⟩
    refine x_aload_n hC 0 rfl dX3_append_18 ?_
    have k3 : hK σ1 this = 4 := by rw [e1]; exact k1
    refine x_getR (n0 := this) hC (ci := 3) (T := TX3) (N := 5) (C := RX3) 3 k3 rfl rfl (by decide) rfl q321 dX3_append_19 ?_
    rw [r1.1]
    refine x_aload_n hC 0 rfl dX3_append_22 ?_
    refine x_getI (n0 := this) hC (ci := 3) (T := TX3) (N := 5) (C := RX3) 4 k3 rfl rfl (by decide) rfl q323 dX3_append_23 ?_
    refine x_iload_n hC 2 rfl dX3_append_26 ?_
    obtain ⟨m2, hm2, h⟩ := h
    rw [show rv ρ (hR σ this 3) = Value.ref (ρ m2) from by rw [hm2]; rfl]
    obtain ⟨k4, h⟩ := h
    obtain ⟨v2, h⟩ := h
    obtain ⟨zh1, h⟩ := h
    refine x_zast (a := m2) hC zh1 k4 (by rw [r1.2]; exact v2) dX3_append_27 ?_
    refine xJ.nmH (fun σ2 e2 => ?_)
    have h := h σ2 e2
    have r2 : hR σ2 = hR σ ∧ hL σ2 = hL σ := by rw [e2]; exact ⟨r1.1, r1.2⟩
    refine x_aload_n hC 0 rfl dX3_append_28 ?_
    refine x_dup hC (by first | rfl | exact rv_cat) dX3_append_29 ?_
    have k5 : hK σ2 this = 4 := by rw [e2]; exact k3
    refine x_getI (n0 := this) hC (ci := 3) (T := TX3) (N := 5) (C := RX3) 4 k5 rfl rfl (by decide) rfl q323 dX3_append_30 ?_
    refine x_iconst (v := 1) hC dX3_append_33 (by decide) ?_
    refine x_iadd hC dX3_append_34 ?_
    refine x_putI (n0 := this) hC (ci := 3) (T := TX3) (N := 5) (C := RX3) 4 k5 rfl rfl (by decide) rfl q323 rfl (tyX3_ok 4 (by decide)) dX3_append_35 ?_
    refine xJ.nmH (fun σ3 e3 => ?_)
    have h := h σ3 e3
    have r3 : hR σ3 = hR σ ∧ hL σ3 = hL σ := by rw [e3]; exact ⟨r2.1, r2.2⟩
    exact x_vret hC hr dX3_append_38 (by decide) (by decide) ⟨rfl, rfl, h⟩
