/-! PlantServer.messageWith -/
theorem dX6_messageWith_0 : decode cX6_messageWith 0 = .ok (.aload_n 0, 1) := by decide +kernel
theorem dX6_messageWith_1 : decode cX6_messageWith 1 = .ok (.iload_n 1, 1) := by decide +kernel
theorem dX6_messageWith_2 : decode cX6_messageWith 2 = .ok (.invokevirtual 73, 3) := by decide +kernel
theorem dX6_messageWith_5 : decode cX6_messageWith 5 = .ok (.iload_n 2, 1) := by decide +kernel
theorem dX6_messageWith_6 : decode cX6_messageWith 6 = .ok (.invokevirtual 145, 3) := by decide +kernel
theorem dX6_messageWith_9 : decode cX6_messageWith 9 = .ok (.astore 4, 2) := by decide +kernel
theorem dX6_messageWith_11 : decode cX6_messageWith 11 = .ok (.aload 4, 2) := by decide +kernel
theorem dX6_messageWith_13 : decode cX6_messageWith 13 = .ok (.ifnonnull 13, 3) := by decide +kernel
theorem dX6_messageWith_16 : decode cX6_messageWith 16 = .ok (.new 198, 3) := by decide +kernel
theorem dX6_messageWith_19 : decode cX6_messageWith 19 = .ok (.dup, 1) := by decide +kernel
theorem dX6_messageWith_20 : decode cX6_messageWith 20 = .ok (.ldc 200, 2) := by decide +kernel
theorem dX6_messageWith_22 : decode cX6_messageWith 22 = .ok (.invokespecial 202, 3) := by decide +kernel
theorem dX6_messageWith_25 : decode cX6_messageWith 25 = .ok (.athrow, 1) := by decide +kernel
theorem dX6_messageWith_26 : decode cX6_messageWith 26 = .ok (.iload_n 3, 1) := by decide +kernel
theorem dX6_messageWith_27 : decode cX6_messageWith 27 = .ok (.ifCond .lt 12, 3) := by decide +kernel
theorem dX6_messageWith_30 : decode cX6_messageWith 30 = .ok (.iload_n 3, 1) := by decide +kernel
theorem dX6_messageWith_31 : decode cX6_messageWith 31 = .ok (.aload 4, 2) := by decide +kernel
theorem dX6_messageWith_33 : decode cX6_messageWith 33 = .ok (.getfield 149, 3) := by decide +kernel
theorem dX6_messageWith_36 : decode cX6_messageWith 36 = .ok (.if_icmp .lt 13, 3) := by decide +kernel
theorem dX6_messageWith_39 : decode cX6_messageWith 39 = .ok (.new 198, 3) := by decide +kernel
theorem dX6_messageWith_42 : decode cX6_messageWith 42 = .ok (.dup, 1) := by decide +kernel
theorem dX6_messageWith_43 : decode cX6_messageWith 43 = .ok (.ldc 203, 2) := by decide +kernel
theorem dX6_messageWith_45 : decode cX6_messageWith 45 = .ok (.invokespecial 202, 3) := by decide +kernel
theorem dX6_messageWith_48 : decode cX6_messageWith 48 = .ok (.athrow, 1) := by decide +kernel
theorem dX6_messageWith_49 : decode cX6_messageWith 49 = .ok (.aload 4, 2) := by decide +kernel
theorem dX6_messageWith_51 : decode cX6_messageWith 51 = .ok (.areturn, 1) := by decide +kernel
abbrev rm6_messageWith : Room := { frames := 7, cells := 2, slots := 12, locals := 112 }
theorem hd6_messageWith : yX6_messageWith.cls ≠ "java/lang/invoke/MethodHandle" ∧ yX6_messageWith.cls ≠ "java/lang/invoke/VarHandle" ∧ (parseMethodDescriptor yX6_messageWith.desc).map (fun d => d.parameters.length) = some 3 := by decide +kernel
set_option maxHeartbeats 4000000 in
set_option maxRecDepth 20000 in
theorem m6_messageWith (l : Launch) (hl : l.stackTraces = false) (G : xG) (ρ : Nm → Nat) (this : Nm) (p1 : Int32) (p2 : Int32) (p3 : Int32) (σ : PH) (Q : Option Nm → PH → Prop) (Xp : String → PH → Prop) (h : w6_messageWith this p1 p2 p3 σ Q Xp) : xMet l yX6_messageWith (.code yX6_messageWith cX6_messageWith 5 (some (.object "PlantServer$Message"))) rm6_messageWith G ρ σ [.ref (ρ this), .int p1, .int p2, .int p3] (eR ρ Q) Xp := by
  refine xMet.of hl (by decide +kernel) (Nat.le_of_ble_eq_true rfl) (fun X hC hr hn htab h0 => ?_)
  have hC : xC G X "PlantServer" cX6_messageWith 5 rm6_messageWith := hC
  unfold w6_messageWith at h
  refine xJ.loc (L' := [(0, .ref (ρ this)), (1, .int p1), (2, .int p2), (3, .int p3)]) rfl ?_
  refine x_aload_n hC 0 rfl dX6_messageWith_0 ?_
  refine x_iload_n hC 1 rfl dX6_messageWith_1 ?_
  obtain ⟨k1, h⟩ := h
  refine x_callV (n0 := this) (as := [.int p1]) (rest := []) hC (ci := 6) (r := (RX6, TX6, 9)) k1 rfl (fun l hl => m6_openSubscription l hl G ρ this p1 σ _ Xp h) q274 q276 s2 q1 q277 ⟨rfl, hd6_openSubscription⟩ (by decide) ⟨(by decide), (by decide)⟩ (by first | exact Nat.le_of_ble_eq_true rfl | (simp [rv_cat]; done) | (simp (decide := true) [rv_cat, cat_ref, cat_int]; done)) rfl dX6_messageWith_2 (fun E σ9 hx => x_out hC h0 htab (by decide) (by decide) hx) (fun v1 σ1 ρ1 hp1 hag1 => ?_)
  obtain ⟨e9, r1, e8, h⟩ := hp1
  rw [e8, e9]
  refine xJ.nrm (k' := 1) (n' := 6) (pc' := 5) (st' := [rv ρ r1]) rfl rfl rfl rfl ?_
  refine x_iload_n hC 2 rfl dX6_messageWith_5 ?_
  obtain ⟨m1, hm1, h⟩ := h
  rw [show rv ρ r1 = Value.ref (ρ m1) from by rw [hm1]; rfl]
  obtain ⟨k2, h⟩ := h
  refine x_callV (n0 := m1) (as := [.int p2]) (rest := []) hC (ci := 4) (r := (RX4, TX4, 14)) k2 rfl (fun l hl => m4_find l hl G ρ m1 p2 σ1 _ h) q632 q633 q634 q11 q635 ⟨rfl, hd4_find⟩ (by decide) ⟨(by decide), (by decide)⟩ (by first | exact Nat.le_of_ble_eq_true rfl | (simp [rv_cat]; done) | (simp (decide := true) [rv_cat, cat_ref, cat_int]; done)) rfl dX6_messageWith_6 (fun E σ9 hx => False.elim hx) (fun v2 σ2 ρ2 hp2 hag2 => ?_)
  obtain ⟨e9, r2, e8, h⟩ := hp2
  rw [e8, e9]
  refine xJ.nrm (k' := 1) (n' := 6) (pc' := 9) (st' := [rv ρ r2]) rfl rfl rfl rfl ?_
  refine x_astoreQ (o := r2) (L' := [(4, rv ρ r2), (0, .ref (ρ this)), (1, .int p1), (2, .int p2), (3, .int p3)]) hC dX6_messageWith_9 (by decide) (by first | rfl | simp (decide := true) [rv_cat, cat_ref, cat_int]) ?_
  refine x_aloadQ (o := r2) hC 0 rfl dX6_messageWith_11 ?_
  refine x_ifnonnull (o := r2) (tgt := 26) hC dX6_messageWith_13 (by decide) (fun m2 c1 => ?_) (fun c1 => ?_)
  · have h := h.2 m2 c1
    rw [show rv ρ r2 = Value.ref (ρ m2) from by rw [c1]; rfl]
    refine x_iload_n hC 4 rfl dX6_messageWith_26 ?_
    refine x_if_lt (tgt := 39) hC dX6_messageWith_27 (by decide) (fun c2 => ?_) (fun c2 => ?_)
    · have h := h.1 c2
      exact x_throwN (text := "the message has no such place") (is := 203) hC h0 htab (by decide +kernel) q649 q8 dX6_messageWith_39 dX6_messageWith_42 dX6_messageWith_43 dX6_messageWith_45 dX6_messageWith_48 (by decide) (by first | exact Nat.le_of_ble_eq_true rfl | (simp [rv_cat]; done) | (simp (decide := true) [rv_cat, cat_ref, cat_int]; done)) (by decide) (by decide) h
    · have h := h.2 c2
      refine x_iload_n hC 4 rfl dX6_messageWith_30 ?_
      refine x_aload hC 0 rfl dX6_messageWith_31 ?_
      obtain ⟨k3, h⟩ := h
      refine x_getI (n0 := m2) hC (ci := 2) (T := TX2) (N := 5) (C := RX2) 4 k3 rfl rfl (by decide) rfl q574 dX6_messageWith_33 ?_
      refine x_icmp_lt (tgt := 49) hC dX6_messageWith_36 (by decide) (fun c3 => ?_) (fun c3 => ?_)
      · have h := h.1 c3
        refine x_aload hC 0 rfl dX6_messageWith_49 ?_
        refine xJ.stk (st' := [rv ρ (some m2)]) rfl ?_
        exact x_aret (o := some m2) hC hr dX6_messageWith_51 (by decide) (by decide) ⟨rfl, _, rfl, h⟩
      · have h := h.2 c3
        exact x_throwN (text := "the message has no such place") (is := 203) hC h0 htab (by decide +kernel) q649 q8 dX6_messageWith_39 dX6_messageWith_42 dX6_messageWith_43 dX6_messageWith_45 dX6_messageWith_48 (by decide) (by first | exact Nat.le_of_ble_eq_true rfl | (simp [rv_cat]; done) | (simp (decide := true) [rv_cat, cat_ref, cat_int]; done)) (by decide) (by decide) h
  · have h := h.1 c1
    rw [show rv ρ r2 = Value.null from by rw [c1]; rfl]
    exact x_throwN (text := "the message is not kept") (is := 200) hC h0 htab (by decide +kernel) q649 q8 dX6_messageWith_16 dX6_messageWith_19 dX6_messageWith_20 dX6_messageWith_22 dX6_messageWith_25 (by decide) (by first | exact Nat.le_of_ble_eq_true rfl | (simp [rv_cat]; done) | (simp (decide := true) [rv_cat, cat_ref, cat_int]; done)) (by decide) (by decide) h
/-! PlantServer.valueAt -/
theorem dX6_valueAt_0 : decode cX6_valueAt 0 = .ok (.aload_n 0, 1) := by decide +kernel
theorem dX6_valueAt_1 : decode cX6_valueAt 1 = .ok (.iload_n 1, 1) := by decide +kernel
theorem dX6_valueAt_2 : decode cX6_valueAt 2 = .ok (.iload_n 2, 1) := by decide +kernel
theorem dX6_valueAt_3 : decode cX6_valueAt 3 = .ok (.iload_n 3, 1) := by decide +kernel
theorem dX6_valueAt_4 : decode cX6_valueAt 4 = .ok (.invokevirtual 152, 3) := by decide +kernel
theorem dX6_valueAt_7 : decode cX6_valueAt 7 = .ok (.getfield 156, 3) := by decide +kernel
theorem dX6_valueAt_10 : decode cX6_valueAt 10 = .ok (.iload_n 3, 1) := by decide +kernel
theorem dX6_valueAt_11 : decode cX6_valueAt 11 = .ok (.iaload, 1) := by decide +kernel
theorem dX6_valueAt_12 : decode cX6_valueAt 12 = .ok (.ireturn, 1) := by decide +kernel
abbrev rm6_valueAt : Room := { frames := 8, cells := 2, slots := 12, locals := 136 }
theorem hd6_valueAt : yX6_valueAt.cls ≠ "java/lang/invoke/MethodHandle" ∧ yX6_valueAt.cls ≠ "java/lang/invoke/VarHandle" ∧ (parseMethodDescriptor yX6_valueAt.desc).map (fun d => d.parameters.length) = some 3 := by decide +kernel
set_option maxHeartbeats 4000000 in
set_option maxRecDepth 20000 in
theorem m6_valueAt (l : Launch) (hl : l.stackTraces = false) (G : xG) (ρ : Nm → Nat) (this : Nm) (p1 : Int32) (p2 : Int32) (p3 : Int32) (σ : PH) (Q : Int32 → PH → Prop) (Xp : String → PH → Prop) (h : w6_valueAt this p1 p2 p3 σ Q Xp) : xMet l yX6_valueAt (.code yX6_valueAt cX6_valueAt 4 (some .int)) rm6_valueAt G ρ σ [.ref (ρ this), .int p1, .int p2, .int p3] (eI ρ Q) Xp := by
  refine xMet.of hl (by decide +kernel) (Nat.le_of_ble_eq_true rfl) (fun X hC hr hn htab h0 => ?_)
  have hC : xC G X "PlantServer" cX6_valueAt 4 rm6_valueAt := hC
  unfold w6_valueAt at h
  refine xJ.loc (L' := [(0, .ref (ρ this)), (1, .int p1), (2, .int p2), (3, .int p3)]) rfl ?_
  refine x_aload_n hC 0 rfl dX6_valueAt_0 ?_
  refine x_iload_n hC 1 rfl dX6_valueAt_1 ?_
  refine x_iload_n hC 2 rfl dX6_valueAt_2 ?_
  refine x_iload_n hC 3 rfl dX6_valueAt_3 ?_
  obtain ⟨k1, h⟩ := h
  refine x_callV (n0 := this) (as := [.int p1, .int p2, .int p3]) (rest := []) hC (ci := 6) (r := (RX6, TX6, 9)) k1 rfl (fun l hl => m6_messageWith l hl G ρ this p1 p2 p3 σ _ Xp h) q645 q647 s11 q1 q648 ⟨rfl, hd6_messageWith⟩ (by decide) ⟨(by decide), (by decide)⟩ (by first | exact Nat.le_of_ble_eq_true rfl | (simp [rv_cat]; done) | (simp (decide := true) [rv_cat, cat_ref, cat_int]; done)) rfl dX6_valueAt_4 (fun E σ9 hx => x_out hC h0 htab (by decide) (by decide) hx) (fun v1 σ1 ρ1 hp1 hag1 => ?_)
  obtain ⟨e9, r1, e8, h⟩ := hp1
  rw [e8, e9]
  refine xJ.nrm (k' := 2) (n' := 12) (pc' := 7) (st' := [rv ρ r1]) rfl rfl rfl rfl ?_
  obtain ⟨m1, hm1, h⟩ := h
  rw [show rv ρ r1 = Value.ref (ρ m1) from by rw [hm1]; rfl]
  obtain ⟨k2, h⟩ := h
  refine x_getR (n0 := m1) hC (ci := 2) (T := TX2) (N := 5) (C := RX2) 0 k2 rfl rfl (by decide) rfl q565 dX6_valueAt_7 ?_
  refine x_iload_n hC 3 rfl dX6_valueAt_10 ?_
  obtain ⟨m2, hm2, h⟩ := h
  rw [show rv ρ (hR σ1 m1 0) = Value.ref (ρ m2) from by rw [hm2]; rfl]
  obtain ⟨k3, h⟩ := h
  obtain ⟨v2, h⟩ := h
  refine x_iald (a := m2) hC k3 v2 dX6_valueAt_11 ?_
  exact x_iret hC hr dX6_valueAt_12 (by decide) (by decide) ⟨rfl, _, rfl, h⟩
/-! PlantServerLaw.valueAt -/
theorem dL_valueAt_0 : decode cL_valueAt 0 = .ok (.aload_n 0, 1) := by decide +kernel
theorem dL_valueAt_1 : decode cL_valueAt 1 = .ok (.iload_n 1, 1) := by decide +kernel
theorem dL_valueAt_2 : decode cL_valueAt 2 = .ok (.iload_n 2, 1) := by decide +kernel
theorem dL_valueAt_3 : decode cL_valueAt 3 = .ok (.iload_n 3, 1) := by decide +kernel
theorem dL_valueAt_4 : decode cL_valueAt 4 = .ok (.invokevirtual 54, 3) := by decide +kernel
theorem dL_valueAt_7 : decode cL_valueAt 7 = .ok (.istore 4, 2) := by decide +kernel
theorem dL_valueAt_9 : decode cL_valueAt 9 = .ok (.goto 15, 3) := by decide +kernel
theorem dL_valueAt_12 : decode cL_valueAt 12 = .ok (.astore 5, 2) := by decide +kernel
theorem dL_valueAt_14 : decode cL_valueAt 14 = .ok (.sipush (-7100), 3) := by decide +kernel
theorem dL_valueAt_17 : decode cL_valueAt 17 = .ok (.ireturn, 1) := by decide +kernel
theorem dL_valueAt_18 : decode cL_valueAt 18 = .ok (.astore 5, 2) := by decide +kernel
theorem dL_valueAt_20 : decode cL_valueAt 20 = .ok (.sipush (-7300), 3) := by decide +kernel
theorem dL_valueAt_23 : decode cL_valueAt 23 = .ok (.ireturn, 1) := by decide +kernel
theorem dL_valueAt_24 : decode cL_valueAt 24 = .ok (.iload 4, 2) := by decide +kernel
theorem dL_valueAt_26 : decode cL_valueAt 26 = .ok (.ireturn, 1) := by decide +kernel
abbrev rmL_valueAt : Room := { frames := 9, cells := 2, slots := 12, locals := 159 }
theorem hdL_valueAt : yL_valueAt.cls ≠ "java/lang/invoke/MethodHandle" ∧ yL_valueAt.cls ≠ "java/lang/invoke/VarHandle" ∧ (parseMethodDescriptor yL_valueAt.desc).map (fun d => d.parameters.length) = some 4 := by decide +kernel
set_option maxHeartbeats 4000000 in
set_option maxRecDepth 20000 in
theorem mL_valueAt (l : Launch) (hl : l.stackTraces = false) (G : xG) (ρ : Nm → Nat) (a1 : Nm) (p2 : Int32) (p3 : Int32) (p4 : Int32) (σ : PH) (Q : Int32 → PH → Prop) (h : wL_valueAt a1 p2 p3 p4 σ Q) : xMet l yL_valueAt (.codeWith yL_valueAt cL_valueAt 6 (some .int) [(0, 9, 12, 14), (0, 9, 18, 58)]) rmL_valueAt G ρ σ [.ref (ρ a1), .int p2, .int p3, .int p4] (eI ρ Q) xNo := by
  refine xMet.ofW hl (by decide +kernel) (Nat.le_of_ble_eq_true rfl) (fun X hC hr hn htab h0 => ?_)
  have hC : xC G X "PlantServerLaw" cL_valueAt 6 rmL_valueAt := hC
  unfold wL_valueAt at h
  refine xJ.loc (L' := [(0, .ref (ρ a1)), (1, .int p2), (2, .int p3), (3, .int p4)]) rfl ?_
  refine x_aload_n hC 0 rfl dL_valueAt_0 ?_
  refine x_iload_n hC 1 rfl dL_valueAt_1 ?_
  refine x_iload_n hC 2 rfl dL_valueAt_2 ?_
  refine x_iload_n hC 3 rfl dL_valueAt_3 ?_
  obtain ⟨k1, h⟩ := h
  refine x_callV (n0 := a1) (as := [.int p2, .int p3, .int p4]) (rest := []) hC (ci := 6) (r := (RX6, TX6, 9)) k1 rfl (fun l hl => m6_valueAt l hl G ρ a1 p2 p3 p4 σ _ _ h) q641 q642 q643 q1 q644 ⟨rfl, hd6_valueAt⟩ (by decide) ⟨(by decide), (by decide)⟩ (by first | exact Nat.le_of_ble_eq_true rfl | (simp [rv_cat]; done) | (simp (decide := true) [rv_cat, cat_ref, cat_int]; done)) rfl dL_valueAt_4 (fun E σ2 hx => ?_) (fun v1 σ1 ρ1 hp1 hag1 => ?_)
  · have hE9 := hx.2.2
    rcases hE9 with he | he
    · have h := hx.1 he
      subst he
      refine x_catch hC [] [(0, 9, 18, 58)] (0, 9, 12, 14) htab (by intro z hz; simp at hz) (by decide) (by decide) q269 xcast_xIO (fun qx1 => ?_)
      refine xJ.nrm (k' := 2) (n' := 12) (pc' := 12) (st' := [.ref qx1]) rfl rfl rfl rfl ?_
      refine x_astore (L' := [(5, .ref qx1), (0, .ref (ρ a1)), (1, .int p2), (2, .int p3), (3, .int p4)]) hC dL_valueAt_12 (by decide) (by first | rfl | simp (decide := true) [rv_cat, cat_ref, cat_int]) ?_
      refine x_sipush (v := (-7100)) hC dL_valueAt_14 (by decide) ?_
      exact x_iret hC hr dL_valueAt_17 (by decide) (by decide) ⟨rfl, _, rfl, h⟩
    · have h := hx.2.1 he
      subst he
      refine x_catch hC [(0, 9, 12, 14)] [] (0, 9, 18, 58) htab (xpass1 (E := xNE) q269 (by decide) (by decide +kernel)) (by decide) (by decide) q640 xcast_xNE (fun qx2 => ?_)
      refine xJ.nrm (k' := 2) (n' := 12) (pc' := 18) (st' := [.ref qx2]) rfl rfl rfl rfl ?_
      refine x_astore (L' := [(5, .ref qx2), (0, .ref (ρ a1)), (1, .int p2), (2, .int p3), (3, .int p4)]) hC dL_valueAt_18 (by decide) (by first | rfl | simp (decide := true) [rv_cat, cat_ref, cat_int]) ?_
      refine x_sipush (v := (-7300)) hC dL_valueAt_20 (by decide) ?_
      exact x_iret hC hr dL_valueAt_23 (by decide) (by decide) ⟨rfl, _, rfl, h⟩
  · obtain ⟨e9, r1, e8, h⟩ := hp1
    rw [e8, e9]
    refine xJ.nrm (k' := 2) (n' := 12) (pc' := 7) (st' := [.int r1]) rfl rfl rfl rfl ?_
    refine x_istore (L' := [(4, .int r1), (0, .ref (ρ a1)), (1, .int p2), (2, .int p3), (3, .int p4)]) hC dL_valueAt_7 (by decide) (by first | rfl | simp (decide := true) [rv_cat, cat_ref, cat_int]) ?_
    refine x_goto (tgt := 24) hC dL_valueAt_9 (by decide) ?_
    refine x_iload hC 0 rfl dL_valueAt_24 ?_
    exact x_iret hC hr dL_valueAt_26 (by decide) (by decide) ⟨rfl, _, rfl, h⟩
/-! PlantServer.itemAt -/
theorem dX6_itemAt_0 : decode cX6_itemAt 0 = .ok (.aload_n 0, 1) := by decide +kernel
theorem dX6_itemAt_1 : decode cX6_itemAt 1 = .ok (.iload_n 1, 1) := by decide +kernel
theorem dX6_itemAt_2 : decode cX6_itemAt 2 = .ok (.iload_n 2, 1) := by decide +kernel
theorem dX6_itemAt_3 : decode cX6_itemAt 3 = .ok (.iload_n 3, 1) := by decide +kernel
theorem dX6_itemAt_4 : decode cX6_itemAt 4 = .ok (.invokevirtual 152, 3) := by decide +kernel
theorem dX6_itemAt_7 : decode cX6_itemAt 7 = .ok (.getfield 159, 3) := by decide +kernel
theorem dX6_itemAt_10 : decode cX6_itemAt 10 = .ok (.iload_n 3, 1) := by decide +kernel
theorem dX6_itemAt_11 : decode cX6_itemAt 11 = .ok (.iaload, 1) := by decide +kernel
theorem dX6_itemAt_12 : decode cX6_itemAt 12 = .ok (.ireturn, 1) := by decide +kernel
abbrev rm6_itemAt : Room := { frames := 8, cells := 2, slots := 12, locals := 136 }
theorem hd6_itemAt : yX6_itemAt.cls ≠ "java/lang/invoke/MethodHandle" ∧ yX6_itemAt.cls ≠ "java/lang/invoke/VarHandle" ∧ (parseMethodDescriptor yX6_itemAt.desc).map (fun d => d.parameters.length) = some 3 := by decide +kernel
set_option maxHeartbeats 4000000 in
set_option maxRecDepth 20000 in
theorem m6_itemAt (l : Launch) (hl : l.stackTraces = false) (G : xG) (ρ : Nm → Nat) (this : Nm) (p1 : Int32) (p2 : Int32) (p3 : Int32) (σ : PH) (Q : Int32 → PH → Prop) (Xp : String → PH → Prop) (h : w6_itemAt this p1 p2 p3 σ Q Xp) : xMet l yX6_itemAt (.code yX6_itemAt cX6_itemAt 4 (some .int)) rm6_itemAt G ρ σ [.ref (ρ this), .int p1, .int p2, .int p3] (eI ρ Q) Xp := by
  refine xMet.of hl (by decide +kernel) (Nat.le_of_ble_eq_true rfl) (fun X hC hr hn htab h0 => ?_)
  have hC : xC G X "PlantServer" cX6_itemAt 4 rm6_itemAt := hC
  unfold w6_itemAt at h
  refine xJ.loc (L' := [(0, .ref (ρ this)), (1, .int p1), (2, .int p2), (3, .int p3)]) rfl ?_
  refine x_aload_n hC 0 rfl dX6_itemAt_0 ?_
  refine x_iload_n hC 1 rfl dX6_itemAt_1 ?_
  refine x_iload_n hC 2 rfl dX6_itemAt_2 ?_
  refine x_iload_n hC 3 rfl dX6_itemAt_3 ?_
  obtain ⟨k1, h⟩ := h
  refine x_callV (n0 := this) (as := [.int p1, .int p2, .int p3]) (rest := []) hC (ci := 6) (r := (RX6, TX6, 9)) k1 rfl (fun l hl => m6_messageWith l hl G ρ this p1 p2 p3 σ _ Xp h) q645 q647 s11 q1 q648 ⟨rfl, hd6_messageWith⟩ (by decide) ⟨(by decide), (by decide)⟩ (by first | exact Nat.le_of_ble_eq_true rfl | (simp [rv_cat]; done) | (simp (decide := true) [rv_cat, cat_ref, cat_int]; done)) rfl dX6_itemAt_4 (fun E σ9 hx => x_out hC h0 htab (by decide) (by decide) hx) (fun v1 σ1 ρ1 hp1 hag1 => ?_)
  obtain ⟨e9, r1, e8, h⟩ := hp1
  rw [e8, e9]
  refine xJ.nrm (k' := 2) (n' := 12) (pc' := 7) (st' := [rv ρ r1]) rfl rfl rfl rfl ?_
  obtain ⟨m1, hm1, h⟩ := h
  rw [show rv ρ r1 = Value.ref (ρ m1) from by rw [hm1]; rfl]
  obtain ⟨k2, h⟩ := h
  refine x_getR (n0 := m1) hC (ci := 2) (T := TX2) (N := 5) (C := RX2) 1 k2 rfl rfl (by decide) rfl q567 dX6_itemAt_7 ?_
  refine x_iload_n hC 3 rfl dX6_itemAt_10 ?_
  obtain ⟨m2, hm2, h⟩ := h
  rw [show rv ρ (hR σ1 m1 1) = Value.ref (ρ m2) from by rw [hm2]; rfl]
  obtain ⟨k3, h⟩ := h
  obtain ⟨v2, h⟩ := h
  refine x_iald (a := m2) hC k3 v2 dX6_itemAt_11 ?_
  exact x_iret hC hr dX6_itemAt_12 (by decide) (by decide) ⟨rfl, _, rfl, h⟩
/-! PlantServerLaw.itemAt -/
theorem dL_itemAt_0 : decode cL_itemAt 0 = .ok (.aload_n 0, 1) := by decide +kernel
theorem dL_itemAt_1 : decode cL_itemAt 1 = .ok (.iload_n 1, 1) := by decide +kernel
theorem dL_itemAt_2 : decode cL_itemAt 2 = .ok (.iload_n 2, 1) := by decide +kernel
theorem dL_itemAt_3 : decode cL_itemAt 3 = .ok (.iload_n 3, 1) := by decide +kernel
theorem dL_itemAt_4 : decode cL_itemAt 4 = .ok (.invokevirtual 60, 3) := by decide +kernel
theorem dL_itemAt_7 : decode cL_itemAt 7 = .ok (.istore 4, 2) := by decide +kernel
theorem dL_itemAt_9 : decode cL_itemAt 9 = .ok (.goto 15, 3) := by decide +kernel
theorem dL_itemAt_12 : decode cL_itemAt 12 = .ok (.astore 5, 2) := by decide +kernel
theorem dL_itemAt_14 : decode cL_itemAt 14 = .ok (.sipush (-7100), 3) := by decide +kernel
theorem dL_itemAt_17 : decode cL_itemAt 17 = .ok (.ireturn, 1) := by decide +kernel
theorem dL_itemAt_18 : decode cL_itemAt 18 = .ok (.astore 5, 2) := by decide +kernel
theorem dL_itemAt_20 : decode cL_itemAt 20 = .ok (.sipush (-7300), 3) := by decide +kernel
theorem dL_itemAt_23 : decode cL_itemAt 23 = .ok (.ireturn, 1) := by decide +kernel
theorem dL_itemAt_24 : decode cL_itemAt 24 = .ok (.iload 4, 2) := by decide +kernel
theorem dL_itemAt_26 : decode cL_itemAt 26 = .ok (.ireturn, 1) := by decide +kernel
abbrev rmL_itemAt : Room := { frames := 9, cells := 2, slots := 12, locals := 159 }
theorem hdL_itemAt : yL_itemAt.cls ≠ "java/lang/invoke/MethodHandle" ∧ yL_itemAt.cls ≠ "java/lang/invoke/VarHandle" ∧ (parseMethodDescriptor yL_itemAt.desc).map (fun d => d.parameters.length) = some 4 := by decide +kernel
set_option maxHeartbeats 4000000 in
set_option maxRecDepth 20000 in
theorem mL_itemAt (l : Launch) (hl : l.stackTraces = false) (G : xG) (ρ : Nm → Nat) (a1 : Nm) (p2 : Int32) (p3 : Int32) (p4 : Int32) (σ : PH) (Q : Int32 → PH → Prop) (h : wL_itemAt a1 p2 p3 p4 σ Q) : xMet l yL_itemAt (.codeWith yL_itemAt cL_itemAt 6 (some .int) [(0, 9, 12, 14), (0, 9, 18, 58)]) rmL_itemAt G ρ σ [.ref (ρ a1), .int p2, .int p3, .int p4] (eI ρ Q) xNo := by
  refine xMet.ofW hl (by decide +kernel) (Nat.le_of_ble_eq_true rfl) (fun X hC hr hn htab h0 => ?_)
  have hC : xC G X "PlantServerLaw" cL_itemAt 6 rmL_itemAt := hC
  unfold wL_itemAt at h
  refine xJ.loc (L' := [(0, .ref (ρ a1)), (1, .int p2), (2, .int p3), (3, .int p4)]) rfl ?_
  refine x_aload_n hC 0 rfl dL_itemAt_0 ?_
  refine x_iload_n hC 1 rfl dL_itemAt_1 ?_
  refine x_iload_n hC 2 rfl dL_itemAt_2 ?_
  refine x_iload_n hC 3 rfl dL_itemAt_3 ?_
  obtain ⟨k1, h⟩ := h
  refine x_callV (n0 := a1) (as := [.int p2, .int p3, .int p4]) (rest := []) hC (ci := 6) (r := (RX6, TX6, 9)) k1 rfl (fun l hl => m6_itemAt l hl G ρ a1 p2 p3 p4 σ _ _ h) q669 q670 q671 q1 q672 ⟨rfl, hd6_itemAt⟩ (by decide) ⟨(by decide), (by decide)⟩ (by first | exact Nat.le_of_ble_eq_true rfl | (simp [rv_cat]; done) | (simp (decide := true) [rv_cat, cat_ref, cat_int]; done)) rfl dL_itemAt_4 (fun E σ2 hx => ?_) (fun v1 σ1 ρ1 hp1 hag1 => ?_)
  · have hE9 := hx.2.2
    rcases hE9 with he | he
    · have h := hx.1 he
      subst he
      refine x_catch hC [] [(0, 9, 18, 58)] (0, 9, 12, 14) htab (by intro z hz; simp at hz) (by decide) (by decide) q269 xcast_xIO (fun qx1 => ?_)
      refine xJ.nrm (k' := 2) (n' := 12) (pc' := 12) (st' := [.ref qx1]) rfl rfl rfl rfl ?_
      refine x_astore (L' := [(5, .ref qx1), (0, .ref (ρ a1)), (1, .int p2), (2, .int p3), (3, .int p4)]) hC dL_itemAt_12 (by decide) (by first | rfl | simp (decide := true) [rv_cat, cat_ref, cat_int]) ?_
      refine x_sipush (v := (-7100)) hC dL_itemAt_14 (by decide) ?_
      exact x_iret hC hr dL_itemAt_17 (by decide) (by decide) ⟨rfl, _, rfl, h⟩
    · have h := hx.2.1 he
      subst he
      refine x_catch hC [(0, 9, 12, 14)] [] (0, 9, 18, 58) htab (xpass1 (E := xNE) q269 (by decide) (by decide +kernel)) (by decide) (by decide) q640 xcast_xNE (fun qx2 => ?_)
      refine xJ.nrm (k' := 2) (n' := 12) (pc' := 18) (st' := [.ref qx2]) rfl rfl rfl rfl ?_
      refine x_astore (L' := [(5, .ref qx2), (0, .ref (ρ a1)), (1, .int p2), (2, .int p3), (3, .int p4)]) hC dL_itemAt_18 (by decide) (by first | rfl | simp (decide := true) [rv_cat, cat_ref, cat_int]) ?_
      refine x_sipush (v := (-7300)) hC dL_itemAt_20 (by decide) ?_
      exact x_iret hC hr dL_itemAt_23 (by decide) (by decide) ⟨rfl, _, rfl, h⟩
  · obtain ⟨e9, r1, e8, h⟩ := hp1
    rw [e8, e9]
    refine xJ.nrm (k' := 2) (n' := 12) (pc' := 7) (st' := [.int r1]) rfl rfl rfl rfl ?_
    refine x_istore (L' := [(4, .int r1), (0, .ref (ρ a1)), (1, .int p2), (2, .int p3), (3, .int p4)]) hC dL_itemAt_7 (by decide) (by first | rfl | simp (decide := true) [rv_cat, cat_ref, cat_int]) ?_
    refine x_goto (tgt := 24) hC dL_itemAt_9 (by decide) ?_
    refine x_iload hC 0 rfl dL_itemAt_24 ?_
    exact x_iret hC hr dL_itemAt_26 (by decide) (by decide) ⟨rfl, _, rfl, h⟩
/-! PlantServer.isMarked -/
theorem dX6_isMarked_0 : decode cX6_isMarked 0 = .ok (.aload_n 0, 1) := by decide +kernel
theorem dX6_isMarked_1 : decode cX6_isMarked 1 = .ok (.iload_n 1, 1) := by decide +kernel
theorem dX6_isMarked_2 : decode cX6_isMarked 2 = .ok (.iload_n 2, 1) := by decide +kernel
theorem dX6_isMarked_3 : decode cX6_isMarked 3 = .ok (.iload_n 3, 1) := by decide +kernel
theorem dX6_isMarked_4 : decode cX6_isMarked 4 = .ok (.invokevirtual 152, 3) := by decide +kernel
theorem dX6_isMarked_7 : decode cX6_isMarked 7 = .ok (.getfield 161, 3) := by decide +kernel
theorem dX6_isMarked_10 : decode cX6_isMarked 10 = .ok (.iload_n 3, 1) := by decide +kernel
theorem dX6_isMarked_11 : decode cX6_isMarked 11 = .ok (.baload, 1) := by decide +kernel
theorem dX6_isMarked_12 : decode cX6_isMarked 12 = .ok (.ireturn, 1) := by decide +kernel
abbrev rm6_isMarked : Room := { frames := 8, cells := 2, slots := 12, locals := 136 }
theorem hd6_isMarked : yX6_isMarked.cls ≠ "java/lang/invoke/MethodHandle" ∧ yX6_isMarked.cls ≠ "java/lang/invoke/VarHandle" ∧ (parseMethodDescriptor yX6_isMarked.desc).map (fun d => d.parameters.length) = some 3 := by decide +kernel
set_option maxHeartbeats 4000000 in
set_option maxRecDepth 20000 in
theorem m6_isMarked (l : Launch) (hl : l.stackTraces = false) (G : xG) (ρ : Nm → Nat) (this : Nm) (p1 : Int32) (p2 : Int32) (p3 : Int32) (σ : PH) (Q : Int32 → PH → Prop) (Xp : String → PH → Prop) (h : w6_isMarked this p1 p2 p3 σ Q Xp) : xMet l yX6_isMarked (.code yX6_isMarked cX6_isMarked 4 (some .boolean)) rm6_isMarked G ρ σ [.ref (ρ this), .int p1, .int p2, .int p3] (eI ρ Q) Xp := by
  refine xMet.of hl (by decide +kernel) (Nat.le_of_ble_eq_true rfl) (fun X hC hr hn htab h0 => ?_)
  have hC : xC G X "PlantServer" cX6_isMarked 4 rm6_isMarked := hC
  unfold w6_isMarked at h
  refine xJ.loc (L' := [(0, .ref (ρ this)), (1, .int p1), (2, .int p2), (3, .int p3)]) rfl ?_
  refine x_aload_n hC 0 rfl dX6_isMarked_0 ?_
  refine x_iload_n hC 1 rfl dX6_isMarked_1 ?_
  refine x_iload_n hC 2 rfl dX6_isMarked_2 ?_
  refine x_iload_n hC 3 rfl dX6_isMarked_3 ?_
  obtain ⟨k1, h⟩ := h
  refine x_callV (n0 := this) (as := [.int p1, .int p2, .int p3]) (rest := []) hC (ci := 6) (r := (RX6, TX6, 9)) k1 rfl (fun l hl => m6_messageWith l hl G ρ this p1 p2 p3 σ _ Xp h) q645 q647 s11 q1 q648 ⟨rfl, hd6_messageWith⟩ (by decide) ⟨(by decide), (by decide)⟩ (by first | exact Nat.le_of_ble_eq_true rfl | (simp [rv_cat]; done) | (simp (decide := true) [rv_cat, cat_ref, cat_int]; done)) rfl dX6_isMarked_4 (fun E σ9 hx => x_out hC h0 htab (by decide) (by decide) hx) (fun v1 σ1 ρ1 hp1 hag1 => ?_)
  obtain ⟨e9, r1, e8, h⟩ := hp1
  rw [e8, e9]
  refine xJ.nrm (k' := 2) (n' := 12) (pc' := 7) (st' := [rv ρ r1]) rfl rfl rfl rfl ?_
  obtain ⟨m1, hm1, h⟩ := h
  rw [show rv ρ r1 = Value.ref (ρ m1) from by rw [hm1]; rfl]
  obtain ⟨k2, h⟩ := h
  refine x_getR (n0 := m1) hC (ci := 2) (T := TX2) (N := 5) (C := RX2) 2 k2 rfl rfl (by decide) rfl q569 dX6_isMarked_7 ?_
  refine x_iload_n hC 3 rfl dX6_isMarked_10 ?_
  obtain ⟨m2, hm2, h⟩ := h
  rw [show rv ρ (hR σ1 m1 2) = Value.ref (ρ m2) from by rw [hm2]; rfl]
  obtain ⟨k3, h⟩ := h
  obtain ⟨v2, h⟩ := h
  refine x_zald (a := m2) hC k3 v2 dX6_isMarked_11 ?_
  obtain ⟨zh1, h⟩ := h
  exact x_zret hC hr zh1 dX6_isMarked_12 (by decide) (by decide) ⟨rfl, _, rfl, h⟩
/-! PlantServerLaw.isMarked -/
theorem dL_isMarked_0 : decode cL_isMarked 0 = .ok (.aload_n 0, 1) := by decide +kernel
theorem dL_isMarked_1 : decode cL_isMarked 1 = .ok (.iload_n 1, 1) := by decide +kernel
theorem dL_isMarked_2 : decode cL_isMarked 2 = .ok (.iload_n 2, 1) := by decide +kernel
theorem dL_isMarked_3 : decode cL_isMarked 3 = .ok (.iload_n 3, 1) := by decide +kernel
theorem dL_isMarked_4 : decode cL_isMarked 4 = .ok (.invokevirtual 63, 3) := by decide +kernel
theorem dL_isMarked_7 : decode cL_isMarked 7 = .ok (.istore 4, 2) := by decide +kernel
theorem dL_isMarked_9 : decode cL_isMarked 9 = .ok (.goto 15, 3) := by decide +kernel
theorem dL_isMarked_12 : decode cL_isMarked 12 = .ok (.astore 5, 2) := by decide +kernel
theorem dL_isMarked_14 : decode cL_isMarked 14 = .ok (.sipush (-7100), 3) := by decide +kernel
theorem dL_isMarked_17 : decode cL_isMarked 17 = .ok (.ireturn, 1) := by decide +kernel
theorem dL_isMarked_18 : decode cL_isMarked 18 = .ok (.astore 5, 2) := by decide +kernel
theorem dL_isMarked_20 : decode cL_isMarked 20 = .ok (.sipush (-7300), 3) := by decide +kernel
theorem dL_isMarked_23 : decode cL_isMarked 23 = .ok (.ireturn, 1) := by decide +kernel
theorem dL_isMarked_24 : decode cL_isMarked 24 = .ok (.iload 4, 2) := by decide +kernel
theorem dL_isMarked_26 : decode cL_isMarked 26 = .ok (.ifCond .eq 7, 3) := by decide +kernel
theorem dL_isMarked_29 : decode cL_isMarked 29 = .ok (.iconst 1, 1) := by decide +kernel
theorem dL_isMarked_30 : decode cL_isMarked 30 = .ok (.goto 4, 3) := by decide +kernel
theorem dL_isMarked_33 : decode cL_isMarked 33 = .ok (.iconst 0, 1) := by decide +kernel
theorem dL_isMarked_34 : decode cL_isMarked 34 = .ok (.ireturn, 1) := by decide +kernel
abbrev rmL_isMarked : Room := { frames := 9, cells := 2, slots := 12, locals := 159 }
theorem hdL_isMarked : yL_isMarked.cls ≠ "java/lang/invoke/MethodHandle" ∧ yL_isMarked.cls ≠ "java/lang/invoke/VarHandle" ∧ (parseMethodDescriptor yL_isMarked.desc).map (fun d => d.parameters.length) = some 4 := by decide +kernel
set_option maxHeartbeats 4000000 in
set_option maxRecDepth 20000 in
theorem mL_isMarked (l : Launch) (hl : l.stackTraces = false) (G : xG) (ρ : Nm → Nat) (a1 : Nm) (p2 : Int32) (p3 : Int32) (p4 : Int32) (σ : PH) (Q : Int32 → PH → Prop) (h : wL_isMarked a1 p2 p3 p4 σ Q) : xMet l yL_isMarked (.codeWith yL_isMarked cL_isMarked 6 (some .int) [(0, 9, 12, 14), (0, 9, 18, 58)]) rmL_isMarked G ρ σ [.ref (ρ a1), .int p2, .int p3, .int p4] (eI ρ Q) xNo := by
  refine xMet.ofW hl (by decide +kernel) (Nat.le_of_ble_eq_true rfl) (fun X hC hr hn htab h0 => ?_)
  have hC : xC G X "PlantServerLaw" cL_isMarked 6 rmL_isMarked := hC
  unfold wL_isMarked at h
  refine xJ.loc (L' := [(0, .ref (ρ a1)), (1, .int p2), (2, .int p3), (3, .int p4)]) rfl ?_
  refine x_aload_n hC 0 rfl dL_isMarked_0 ?_
  refine x_iload_n hC 1 rfl dL_isMarked_1 ?_
  refine x_iload_n hC 2 rfl dL_isMarked_2 ?_
  refine x_iload_n hC 3 rfl dL_isMarked_3 ?_
  obtain ⟨k1, h⟩ := h
  refine x_callV (n0 := a1) (as := [.int p2, .int p3, .int p4]) (rest := []) hC (ci := 6) (r := (RX6, TX6, 9)) k1 rfl (fun l hl => m6_isMarked l hl G ρ a1 p2 p3 p4 σ _ _ h) q676 q677 q678 q1 q679 ⟨rfl, hd6_isMarked⟩ (by decide) ⟨(by decide), (by decide)⟩ (by first | exact Nat.le_of_ble_eq_true rfl | (simp [rv_cat]; done) | (simp (decide := true) [rv_cat, cat_ref, cat_int]; done)) rfl dL_isMarked_4 (fun E σ2 hx => ?_) (fun v1 σ1 ρ1 hp1 hag1 => ?_)
  · have hE9 := hx.2.2
    rcases hE9 with he | he
    · have h := hx.1 he
      subst he
      refine x_catch hC [] [(0, 9, 18, 58)] (0, 9, 12, 14) htab (by intro z hz; simp at hz) (by decide) (by decide) q269 xcast_xIO (fun qx1 => ?_)
      refine xJ.nrm (k' := 2) (n' := 12) (pc' := 12) (st' := [.ref qx1]) rfl rfl rfl rfl ?_
      refine x_astore (L' := [(5, .ref qx1), (0, .ref (ρ a1)), (1, .int p2), (2, .int p3), (3, .int p4)]) hC dL_isMarked_12 (by decide) (by first | rfl | simp (decide := true) [rv_cat, cat_ref, cat_int]) ?_
      refine x_sipush (v := (-7100)) hC dL_isMarked_14 (by decide) ?_
      exact x_iret hC hr dL_isMarked_17 (by decide) (by decide) ⟨rfl, _, rfl, h⟩
    · have h := hx.2.1 he
      subst he
      refine x_catch hC [(0, 9, 12, 14)] [] (0, 9, 18, 58) htab (xpass1 (E := xNE) q269 (by decide) (by decide +kernel)) (by decide) (by decide) q640 xcast_xNE (fun qx2 => ?_)
      refine xJ.nrm (k' := 2) (n' := 12) (pc' := 18) (st' := [.ref qx2]) rfl rfl rfl rfl ?_
      refine x_astore (L' := [(5, .ref qx2), (0, .ref (ρ a1)), (1, .int p2), (2, .int p3), (3, .int p4)]) hC dL_isMarked_18 (by decide) (by first | rfl | simp (decide := true) [rv_cat, cat_ref, cat_int]) ?_
      refine x_sipush (v := (-7300)) hC dL_isMarked_20 (by decide) ?_
      exact x_iret hC hr dL_isMarked_23 (by decide) (by decide) ⟨rfl, _, rfl, h⟩
  · obtain ⟨e9, r1, e8, h⟩ := hp1
    rw [e8, e9]
    refine xJ.nrm (k' := 2) (n' := 12) (pc' := 7) (st' := [.int r1]) rfl rfl rfl rfl ?_
    refine x_istore (L' := [(4, .int r1), (0, .ref (ρ a1)), (1, .int p2), (2, .int p3), (3, .int p4)]) hC dL_isMarked_7 (by decide) (by first | rfl | simp (decide := true) [rv_cat, cat_ref, cat_int]) ?_
    refine x_goto (tgt := 24) hC dL_isMarked_9 (by decide) ?_
    refine x_iload hC 0 rfl dL_isMarked_24 ?_
    refine x_if_eq (tgt := 33) hC dL_isMarked_26 (by decide) (fun c1 => ?_) (fun c1 => ?_)
    · have h := h.1 c1
      refine x_iconst (v := 0) hC dL_isMarked_33 (by decide) ?_
      exact x_iret hC hr dL_isMarked_34 (by decide) (by decide) ⟨rfl, _, rfl, h⟩
    · have h := h.2 c1
      refine x_iconst (v := 1) hC dL_isMarked_29 (by decide) ?_
      refine x_goto (tgt := 34) hC dL_isMarked_30 (by decide) ?_
      exact x_iret hC hr dL_isMarked_34 (by decide) (by decide) ⟨rfl, _, rfl, h⟩
/-! PlantServerLaw.kept -/
theorem dL_kept_0 : decode cL_kept 0 = .ok (.iconst 5, 1) := by decide +kernel
theorem dL_kept_1 : decode cL_kept 1 = .ok (.iload_n 1, 1) := by decide +kernel
theorem dL_kept_2 : decode cL_kept 2 = .ok (.imul, 1) := by decide +kernel
theorem dL_kept_3 : decode cL_kept 3 = .ok (.istore_n 3, 1) := by decide +kernel
theorem dL_kept_4 : decode cL_kept 4 = .ok (.iload_n 3, 1) := by decide +kernel
theorem dL_kept_5 : decode cL_kept 5 = .ok (.iconst 5, 1) := by decide +kernel
theorem dL_kept_6 : decode cL_kept 6 = .ok (.iload_n 1, 1) := by decide +kernel
theorem dL_kept_7 : decode cL_kept 7 = .ok (.imul, 1) := by decide +kernel
theorem dL_kept_8 : decode cL_kept 8 = .ok (.iconst 5, 1) := by decide +kernel
theorem dL_kept_9 : decode cL_kept 9 = .ok (.iadd, 1) := by decide +kernel
theorem dL_kept_10 : decode cL_kept 10 = .ok (.if_icmp .ge 26, 3) := by decide +kernel
theorem dL_kept_13 : decode cL_kept 13 = .ok (.iload_n 2, 1) := by decide +kernel
theorem dL_kept_14 : decode cL_kept 14 = .ok (.ifCond .le 16, 3) := by decide +kernel
theorem dL_kept_17 : decode cL_kept 17 = .ok (.aload_n 0, 1) := by decide +kernel
theorem dL_kept_18 : decode cL_kept 18 = .ok (.iload_n 3, 1) := by decide +kernel
theorem dL_kept_19 : decode cL_kept 19 = .ok (.iaload, 1) := by decide +kernel
theorem dL_kept_20 : decode cL_kept 20 = .ok (.sipush 8191, 3) := by decide +kernel
theorem dL_kept_23 : decode cL_kept 23 = .ok (.iand, 1) := by decide +kernel
theorem dL_kept_24 : decode cL_kept 24 = .ok (.iload_n 2, 1) := by decide +kernel
theorem dL_kept_25 : decode cL_kept 25 = .ok (.if_icmp .ne 5, 3) := by decide +kernel
theorem dL_kept_28 : decode cL_kept 28 = .ok (.iload_n 3, 1) := by decide +kernel
theorem dL_kept_29 : decode cL_kept 29 = .ok (.ireturn, 1) := by decide +kernel
theorem dL_kept_30 : decode cL_kept 30 = .ok (.iinc 3 1, 3) := by decide +kernel
theorem dL_kept_33 : decode cL_kept 33 = .ok (.goto (-29), 3) := by decide +kernel
theorem dL_kept_36 : decode cL_kept 36 = .ok (.iconst (-1), 1) := by decide +kernel
theorem dL_kept_37 : decode cL_kept 37 = .ok (.ireturn, 1) := by decide +kernel
abbrev rmL_kept : Room := { frames := 0, cells := 0, slots := 0, locals := 0 }
theorem hdL_kept : yL_kept.cls ≠ "java/lang/invoke/MethodHandle" ∧ yL_kept.cls ≠ "java/lang/invoke/VarHandle" ∧ (parseMethodDescriptor yL_kept.desc).map (fun d => d.parameters.length) = some 3 := by decide +kernel
set_option maxHeartbeats 4000000 in
set_option maxRecDepth 20000 in
theorem mlL_kept_4 {G : xG} {X : xX} (hC : xC G X "PlantServerLaw" cL_kept 4 rmL_kept) (hr : xRt X (some .int)) (htab : xTab X []) (a1 : Nm) (p2 : Int32) (p3 : Int32) {ρ : Nm → Nat} (h0 : xR0 X ρ) (k n : Nat) (hk1 : k ≤ 0) (hk2 : n ≤ 0) (K : Int32 → PH → Prop) (Q : Int32 → PH → Prop) (Xp : String → PH → Prop) : ∀ (f4 : Nat) (x4_3 : Int32) (τ4 : PH), lL_kept_4 a1 p2 p3 K Q f4 x4_3 τ4 → (∀ (x4_3 : Int32) (τ4 : PH), K x4_3 τ4 → xJ G X (xT X (eI ρ Q) Xp G rmL_kept) 4 ρ τ4 k n 36 [(0, .ref (ρ a1)), (1, .int p2), (2, .int p3), (3, .int x4_3)] []) → xJ G X (xT X (eI ρ Q) Xp G rmL_kept) 4 ρ τ4 k n 4 [(0, .ref (ρ a1)), (1, .int p2), (2, .int p3), (3, .int x4_3)] [] := by
  intro f4
  induction f4 with
  | zero => intro x4_3 τ4 h hKK; unfold lL_kept_4 at h; exact h.elim
  | succ f4 ih =>
    intro x4_3 τ4 h hKK
    unfold lL_kept_4 at h
    refine x_iload_n hC 3 rfl dL_kept_4 ?_
    refine x_iconst (v := 5) hC dL_kept_5 (by decide) ?_
    refine x_iload_n hC 1 rfl dL_kept_6 ?_
    refine x_imul hC dL_kept_7 ?_
    refine x_iconst (v := 5) hC dL_kept_8 (by decide) ?_
    refine x_iadd hC dL_kept_9 ?_
    refine x_icmp_ge (tgt := 36) hC dL_kept_10 (by decide) (fun c1 => ?_) (fun c1 => ?_)
    · have h := h.1 c1
      exact hKK _ _ h
    · have h := h.2 c1
      refine x_iload_n hC 2 rfl dL_kept_13 ?_
      refine x_if_le (tgt := 30) hC dL_kept_14 (by decide) (fun c2 => ?_) (fun c2 => ?_)
      · have h := h.1 c2
        refine x_iinc (v' := x4_3 + 1) (L' := [(3, .int (x4_3 + 1)), (0, .ref (ρ a1)), (1, .int p2), (2, .int p3)]) hC 3 rfl dL_kept_30 rfl (by decide) (by first | rfl | simp (decide := true) [rv_cat, cat_ref, cat_int]) ?_
        refine x_goto (tgt := 4) hC dL_kept_33 (by decide) ?_
        refine xJ.sub (L' := [(0, .ref (ρ a1)), (1, .int p2), (2, .int p3), (3, .int (x4_3 + 1))]) [1, 2, 3, 0] rfl ?_
        exact ih _ _ h hKK
      · have h := h.2 c2
        refine x_aload_n hC 0 rfl dL_kept_17 ?_
        refine x_iload_n hC 3 rfl dL_kept_18 ?_
        obtain ⟨k1, h⟩ := h
        obtain ⟨v1, h⟩ := h
        refine x_iald (a := a1) hC k1 v1 dL_kept_19 ?_
        refine x_sipush (v := 8191) hC dL_kept_20 (by decide) ?_
        refine x_iand hC dL_kept_23 ?_
        refine x_iload_n hC 2 rfl dL_kept_24 ?_
        refine x_icmp_ne (tgt := 30) hC dL_kept_25 (by decide) (fun c3 => ?_) (fun c3 => ?_)
        · have h := h.1 c3
          refine x_iinc (v' := x4_3 + 1) (L' := [(3, .int (x4_3 + 1)), (0, .ref (ρ a1)), (1, .int p2), (2, .int p3)]) hC 3 rfl dL_kept_30 rfl (by decide) (by first | rfl | simp (decide := true) [rv_cat, cat_ref, cat_int]) ?_
          refine x_goto (tgt := 4) hC dL_kept_33 (by decide) ?_
          refine xJ.sub (L' := [(0, .ref (ρ a1)), (1, .int p2), (2, .int p3), (3, .int (x4_3 + 1))]) [1, 2, 3, 0] rfl ?_
          exact ih _ _ h hKK
        · have h := h.2 c3
          refine x_iload_n hC 3 rfl dL_kept_28 ?_
          exact x_iret hC hr dL_kept_29 (show _ ≤ 0 by omega) (show _ ≤ 0 by omega) ⟨rfl, _, rfl, h⟩
set_option maxHeartbeats 4000000 in
set_option maxRecDepth 20000 in
theorem mL_kept (l : Launch) (hl : l.stackTraces = false) (G : xG) (ρ : Nm → Nat) (a1 : Nm) (p2 : Int32) (p3 : Int32) (σ : PH) (Q : Int32 → PH → Prop) (h : wL_kept a1 p2 p3 σ Q) : xMet l yL_kept (.code yL_kept cL_kept 4 (some .int)) rmL_kept G ρ σ [.ref (ρ a1), .int p2, .int p3] (eI ρ Q) xNo := by
  refine xMet.of hl (by decide +kernel) (Nat.le_of_ble_eq_true rfl) (fun X hC hr hn htab h0 => ?_)
  have hC : xC G X "PlantServerLaw" cL_kept 4 rmL_kept := hC
  unfold wL_kept at h
  refine xJ.loc (L' := [(0, .ref (ρ a1)), (1, .int p2), (2, .int p3)]) rfl ?_
  refine x_iconst (v := 5) hC dL_kept_0 (by decide) ?_
  refine x_iload_n hC 1 rfl dL_kept_1 ?_
  refine x_imul hC dL_kept_2 ?_
  refine x_istore_n (L' := [(3, .int (5 * p2)), (0, .ref (ρ a1)), (1, .int p2), (2, .int p3)]) hC dL_kept_3 (by decide) (by first | rfl | simp (decide := true) [rv_cat, cat_ref, cat_int]) ?_
  refine xJ.sub (L' := [(0, .ref (ρ a1)), (1, .int p2), (2, .int p3), (3, .int (5 * p2))]) [1, 2, 3, 0] rfl ?_
  obtain ⟨f4, h⟩ := h
  refine mlL_kept_4 hC hr htab a1 p2 p3 h0 (0) (0) (by decide) (by decide) _ Q _ f4 _ _ h (fun y1 τ1 h => ?_)
  refine x_iconst (v := (-1)) hC dL_kept_36 (by decide) ?_
  exact x_iret hC hr dL_kept_37 (by decide) (by decide) ⟨rfl, _, rfl, h⟩
/-! PlantServerLaw.isThere -/
theorem dL_isThere_0 : decode cL_isThere 0 = .ok (.iload_n 3, 1) := by decide +kernel
theorem dL_isThere_1 : decode cL_isThere 1 = .ok (.ifCond .lt 28, 3) := by decide +kernel
theorem dL_isThere_4 : decode cL_isThere 4 = .ok (.iload_n 3, 1) := by decide +kernel
theorem dL_isThere_5 : decode cL_isThere 5 = .ok (.aload_n 2, 1) := by decide +kernel
theorem dL_isThere_6 : decode cL_isThere 6 = .ok (.iconst 2, 1) := by decide +kernel
theorem dL_isThere_7 : decode cL_isThere 7 = .ok (.iaload, 1) := by decide +kernel
theorem dL_isThere_8 : decode cL_isThere 8 = .ok (.if_icmp .ge 21, 3) := by decide +kernel
theorem dL_isThere_11 : decode cL_isThere 11 = .ok (.aload_n 0, 1) := by decide +kernel
theorem dL_isThere_12 : decode cL_isThere 12 = .ok (.bipush 11, 2) := by decide +kernel
theorem dL_isThere_14 : decode cL_isThere 14 = .ok (.aload_n 1, 1) := by decide +kernel
theorem dL_isThere_15 : decode cL_isThere 15 = .ok (.iload_n 3, 1) := by decide +kernel
theorem dL_isThere_16 : decode cL_isThere 16 = .ok (.iaload, 1) := by decide +kernel
theorem dL_isThere_17 : decode cL_isThere 17 = .ok (.iconst 1, 1) := by decide +kernel
theorem dL_isThere_18 : decode cL_isThere 18 = .ok (.iand, 1) := by decide +kernel
theorem dL_isThere_19 : decode cL_isThere 19 = .ok (.imul, 1) := by decide +kernel
theorem dL_isThere_20 : decode cL_isThere 20 = .ok (.iaload, 1) := by decide +kernel
theorem dL_isThere_21 : decode cL_isThere 21 = .ok (.iconst 1, 1) := by decide +kernel
theorem dL_isThere_22 : decode cL_isThere 22 = .ok (.if_icmp .ne 7, 3) := by decide +kernel
theorem dL_isThere_25 : decode cL_isThere 25 = .ok (.iconst 1, 1) := by decide +kernel
theorem dL_isThere_26 : decode cL_isThere 26 = .ok (.goto 4, 3) := by decide +kernel
theorem dL_isThere_29 : decode cL_isThere 29 = .ok (.iconst 0, 1) := by decide +kernel
theorem dL_isThere_30 : decode cL_isThere 30 = .ok (.ireturn, 1) := by decide +kernel
abbrev rmL_isThere : Room := { frames := 0, cells := 0, slots := 0, locals := 0 }
theorem hdL_isThere : yL_isThere.cls ≠ "java/lang/invoke/MethodHandle" ∧ yL_isThere.cls ≠ "java/lang/invoke/VarHandle" ∧ (parseMethodDescriptor yL_isThere.desc).map (fun d => d.parameters.length) = some 4 := by decide +kernel
set_option maxHeartbeats 4000000 in
set_option maxRecDepth 20000 in
theorem mL_isThere (l : Launch) (hl : l.stackTraces = false) (G : xG) (ρ : Nm → Nat) (a1 : Nm) (a2 : Nm) (a3 : Nm) (p4 : Int32) (σ : PH) (Q : Int32 → PH → Prop) (h : wL_isThere a1 a2 a3 p4 σ Q) : xMet l yL_isThere (.code yL_isThere cL_isThere 4 (some .boolean)) rmL_isThere G ρ σ [.ref (ρ a1), .ref (ρ a2), .ref (ρ a3), .int p4] (eI ρ Q) xNo := by
  refine xMet.of hl (by decide +kernel) (Nat.le_of_ble_eq_true rfl) (fun X hC hr hn htab h0 => ?_)
  have hC : xC G X "PlantServerLaw" cL_isThere 4 rmL_isThere := hC
  unfold wL_isThere at h
  refine xJ.loc (L' := [(0, .ref (ρ a1)), (1, .ref (ρ a2)), (2, .ref (ρ a3)), (3, .int p4)]) rfl ?_
  refine x_iload_n hC 3 rfl dL_isThere_0 ?_
  refine x_if_lt (tgt := 29) hC dL_isThere_1 (by decide) (fun c1 => ?_) (fun c1 => ?_)
  · have h := h.1 c1
    refine x_iconst (v := 0) hC dL_isThere_29 (by decide) ?_
    exact x_zret hC hr zb0 dL_isThere_30 (by decide) (by decide) ⟨rfl, _, rfl, h⟩
  · have h := h.2 c1
    refine x_iload_n hC 3 rfl dL_isThere_4 ?_
    refine x_aload_n hC 2 rfl dL_isThere_5 ?_
    refine x_iconst (v := 2) hC dL_isThere_6 (by decide) ?_
    obtain ⟨k1, h⟩ := h
    obtain ⟨v1, h⟩ := h
    refine x_iald (a := a3) hC k1 v1 dL_isThere_7 ?_
    refine x_icmp_ge (tgt := 29) hC dL_isThere_8 (by decide) (fun c2 => ?_) (fun c2 => ?_)
    · have h := h.1 c2
      refine x_iconst (v := 0) hC dL_isThere_29 (by decide) ?_
      exact x_zret hC hr zb0 dL_isThere_30 (by decide) (by decide) ⟨rfl, _, rfl, h⟩
    · have h := h.2 c2
      refine x_aload_n hC 0 rfl dL_isThere_11 ?_
      refine x_bipush (v := 11) hC dL_isThere_12 (by decide) ?_
      refine x_aload_n hC 1 rfl dL_isThere_14 ?_
      refine x_iload_n hC 3 rfl dL_isThere_15 ?_
      obtain ⟨k2, h⟩ := h
      obtain ⟨v2, h⟩ := h
      refine x_iald (a := a2) hC k2 v2 dL_isThere_16 ?_
      refine x_iconst (v := 1) hC dL_isThere_17 (by decide) ?_
      refine x_iand hC dL_isThere_18 ?_
      refine x_imul hC dL_isThere_19 ?_
      obtain ⟨k3, h⟩ := h
      obtain ⟨v3, h⟩ := h
      refine x_iald (a := a1) hC k3 v3 dL_isThere_20 ?_
      refine x_iconst (v := 1) hC dL_isThere_21 (by decide) ?_
      refine x_icmp_ne (tgt := 29) hC dL_isThere_22 (by decide) (fun c3 => ?_) (fun c3 => ?_)
      · have h := h.1 c3
        refine x_iconst (v := 0) hC dL_isThere_29 (by decide) ?_
        exact x_zret hC hr zb0 dL_isThere_30 (by decide) (by decide) ⟨rfl, _, rfl, h⟩
      · have h := h.2 c3
        refine x_iconst (v := 1) hC dL_isThere_25 (by decide) ?_
        refine x_goto (tgt := 30) hC dL_isThere_26 (by decide) ?_
        exact x_zret hC hr zb1 dL_isThere_30 (by decide) (by decide) ⟨rfl, _, rfl, h⟩
/-! PlantServer.liveItem -/
theorem dX6_liveItem_0 : decode cX6_liveItem 0 = .ok (.iload_n 1, 1) := by decide +kernel
theorem dX6_liveItem_1 : decode cX6_liveItem 1 = .ok (.ifCond .lt 9, 3) := by decide +kernel
theorem dX6_liveItem_4 : decode cX6_liveItem 4 = .ok (.iload_n 1, 1) := by decide +kernel
theorem dX6_liveItem_5 : decode cX6_liveItem 5 = .ok (.bipush 16, 2) := by decide +kernel
theorem dX6_liveItem_7 : decode cX6_liveItem 7 = .ok (.if_icmp .lt 13, 3) := by decide +kernel
theorem dX6_liveItem_10 : decode cX6_liveItem 10 = .ok (.new 185, 3) := by decide +kernel
theorem dX6_liveItem_13 : decode cX6_liveItem 13 = .ok (.dup, 1) := by decide +kernel
theorem dX6_liveItem_14 : decode cX6_liveItem 14 = .ok (.ldc 194, 2) := by decide +kernel
theorem dX6_liveItem_16 : decode cX6_liveItem 16 = .ok (.invokespecial 189, 3) := by decide +kernel
theorem dX6_liveItem_19 : decode cX6_liveItem 19 = .ok (.athrow, 1) := by decide +kernel
theorem dX6_liveItem_20 : decode cX6_liveItem 20 = .ok (.aload_n 0, 1) := by decide +kernel
theorem dX6_liveItem_21 : decode cX6_liveItem 21 = .ok (.getfield 24, 3) := by decide +kernel
theorem dX6_liveItem_24 : decode cX6_liveItem 24 = .ok (.iload_n 1, 1) := by decide +kernel
theorem dX6_liveItem_25 : decode cX6_liveItem 25 = .ok (.aaload, 1) := by decide +kernel
theorem dX6_liveItem_26 : decode cX6_liveItem 26 = .ok (.astore_n 2, 1) := by decide +kernel
theorem dX6_liveItem_27 : decode cX6_liveItem 27 = .ok (.aload_n 2, 1) := by decide +kernel
theorem dX6_liveItem_28 : decode cX6_liveItem 28 = .ok (.ifnull 13, 3) := by decide +kernel
theorem dX6_liveItem_31 : decode cX6_liveItem 31 = .ok (.aload_n 2, 1) := by decide +kernel
theorem dX6_liveItem_32 : decode cX6_liveItem 32 = .ok (.getfield 114, 3) := by decide +kernel
theorem dX6_liveItem_35 : decode cX6_liveItem 35 = .ok (.getfield 77, 3) := by decide +kernel
theorem dX6_liveItem_38 : decode cX6_liveItem 38 = .ok (.ifCond .ne 13, 3) := by decide +kernel
theorem dX6_liveItem_41 : decode cX6_liveItem 41 = .ok (.new 185, 3) := by decide +kernel
theorem dX6_liveItem_44 : decode cX6_liveItem 44 = .ok (.dup, 1) := by decide +kernel
theorem dX6_liveItem_45 : decode cX6_liveItem 45 = .ok (.ldc 196, 2) := by decide +kernel
theorem dX6_liveItem_47 : decode cX6_liveItem 47 = .ok (.invokespecial 189, 3) := by decide +kernel
theorem dX6_liveItem_50 : decode cX6_liveItem 50 = .ok (.athrow, 1) := by decide +kernel
theorem dX6_liveItem_51 : decode cX6_liveItem 51 = .ok (.aload_n 2, 1) := by decide +kernel
theorem dX6_liveItem_52 : decode cX6_liveItem 52 = .ok (.areturn, 1) := by decide +kernel
abbrev rm6_liveItem : Room := { frames := 6, cells := 1, slots := 6, locals := 90 }
theorem hd6_liveItem : yX6_liveItem.cls ≠ "java/lang/invoke/MethodHandle" ∧ yX6_liveItem.cls ≠ "java/lang/invoke/VarHandle" ∧ (parseMethodDescriptor yX6_liveItem.desc).map (fun d => d.parameters.length) = some 1 := by decide +kernel
set_option maxHeartbeats 4000000 in
set_option maxRecDepth 20000 in
theorem m6_liveItem (l : Launch) (hl : l.stackTraces = false) (G : xG) (ρ : Nm → Nat) (this : Nm) (p1 : Int32) (σ : PH) (Q : Option Nm → PH → Prop) (Xp : String → PH → Prop) (h : w6_liveItem this p1 σ Q Xp) : xMet l yX6_liveItem (.code yX6_liveItem cX6_liveItem 3 (some (.object "PlantServer$Item"))) rm6_liveItem G ρ σ [.ref (ρ this), .int p1] (eR ρ Q) Xp := by
  refine xMet.of hl (by decide +kernel) (Nat.le_of_ble_eq_true rfl) (fun X hC hr hn htab h0 => ?_)
  have hC : xC G X "PlantServer" cX6_liveItem 3 rm6_liveItem := hC
  unfold w6_liveItem at h
  refine xJ.loc (L' := [(0, .ref (ρ this)), (1, .int p1)]) rfl ?_
  refine x_iload_n hC 1 rfl dX6_liveItem_0 ?_
  refine x_if_lt (tgt := 10) hC dX6_liveItem_1 (by decide) (fun c1 => ?_) (fun c1 => ?_)
  · have h := h.1 c1
    exact x_throw (E := xIO) (text := "there is no such item") (is := 194) hC h0 htab (by decide +kernel) (by decide +kernel) q278 q7 xhat_xIO xgood_xIO dX6_liveItem_10 dX6_liveItem_13 dX6_liveItem_14 dX6_liveItem_16 dX6_liveItem_19 (by decide) (by first | exact Nat.le_of_ble_eq_true rfl | (simp [rv_cat]; done) | (simp (decide := true) [rv_cat, cat_ref, cat_int]; done)) (by decide) (by decide) h
  · have h := h.2 c1
    refine x_iload_n hC 1 rfl dX6_liveItem_4 ?_
    refine x_bipush (v := 16) hC dX6_liveItem_5 (by decide) ?_
    refine x_icmp_lt (tgt := 20) hC dX6_liveItem_7 (by decide) (fun c2 => ?_) (fun c2 => ?_)
    · have h := h.1 c2
      refine x_aload_n hC 0 rfl dX6_liveItem_20 ?_
      obtain ⟨k1, h⟩ := h
      refine x_getR (n0 := this) hC (ci := 6) (T := TX6) (N := 9) (C := RX6) 3 k1 rfl rfl (by decide) rfl q52 dX6_liveItem_21 ?_
      refine x_iload_n hC 1 rfl dX6_liveItem_24 ?_
      obtain ⟨m1, hm1, h⟩ := h
      rw [show rv ρ (hR σ this 3) = Value.ref (ρ m1) from by rw [hm1]; rfl]
      obtain ⟨k2, h⟩ := h
      obtain ⟨v1, h⟩ := h
      refine x_aald11 (a := m1) hC k2 v1 dX6_liveItem_25 ?_
      refine x_astore_nQ (o := hR σ m1 (Int32.toNatClampNeg p1)) (L' := [(2, rv ρ (hR σ m1 (Int32.toNatClampNeg p1))), (0, .ref (ρ this)), (1, .int p1)]) hC dX6_liveItem_26 (by decide) (by first | rfl | simp (decide := true) [rv_cat, cat_ref, cat_int]) ?_
      refine x_aload_nQ (o := hR σ m1 (Int32.toNatClampNeg p1)) hC 0 rfl dX6_liveItem_27 ?_
      refine x_ifnull (o := hR σ m1 (Int32.toNatClampNeg p1)) (tgt := 41) hC dX6_liveItem_28 (by decide) (fun c3 => ?_) (fun m2 c3 => ?_)
      · have h := h.1 c3
        rw [show rv ρ (hR σ m1 (Int32.toNatClampNeg p1)) = Value.null from by rw [c3]; rfl]
        exact x_throw (E := xIO) (text := "the item is not there") (is := 196) hC h0 htab (by decide +kernel) (by decide +kernel) q278 q7 xhat_xIO xgood_xIO dX6_liveItem_41 dX6_liveItem_44 dX6_liveItem_45 dX6_liveItem_47 dX6_liveItem_50 (by decide) (by first | exact Nat.le_of_ble_eq_true rfl | (simp [rv_cat]; done) | (simp (decide := true) [rv_cat, cat_ref, cat_int]; done)) (by decide) (by decide) h
      · have h := h.2 m2 c3
        rw [show rv ρ (hR σ m1 (Int32.toNatClampNeg p1)) = Value.ref (ρ m2) from by rw [c3]; rfl]
        refine x_aload_n hC 0 rfl dX6_liveItem_31 ?_
        obtain ⟨k3, h⟩ := h
        refine x_getR (n0 := m2) hC (ci := 1) (T := TX1) (N := 12) (C := RX1) 1 k3 rfl rfl (by decide) rfl q346 dX6_liveItem_32 ?_
        obtain ⟨m3, hm2, h⟩ := h
        rw [show rv ρ (hR σ m2 1) = Value.ref (ρ m3) from by rw [hm2]; rfl]
        obtain ⟨k4, h⟩ := h
        refine x_getI (n0 := m3) hC (ci := 4) (T := TX4) (N := 14) (C := RX4) 7 k4 rfl rfl (by decide) rfl q216 dX6_liveItem_35 ?_
        refine x_if_ne (tgt := 51) hC dX6_liveItem_38 (by decide) (fun c4 => ?_) (fun c4 => ?_)
        · have h := h.1 c4
          refine x_aload_n hC 0 rfl dX6_liveItem_51 ?_
          refine xJ.stk (st' := [rv ρ (some m2)]) rfl ?_
          exact x_aret (o := some m2) hC hr dX6_liveItem_52 (by decide) (by decide) ⟨rfl, _, rfl, h⟩
        · have h := h.2 c4
          exact x_throw (E := xIO) (text := "the item is not there") (is := 196) hC h0 htab (by decide +kernel) (by decide +kernel) q278 q7 xhat_xIO xgood_xIO dX6_liveItem_41 dX6_liveItem_44 dX6_liveItem_45 dX6_liveItem_47 dX6_liveItem_50 (by decide) (by first | exact Nat.le_of_ble_eq_true rfl | (simp [rv_cat]; done) | (simp (decide := true) [rv_cat, cat_ref, cat_int]; done)) (by decide) (by decide) h
    · have h := h.2 c2
      exact x_throw (E := xIO) (text := "there is no such item") (is := 194) hC h0 htab (by decide +kernel) (by decide +kernel) q278 q7 xhat_xIO xgood_xIO dX6_liveItem_10 dX6_liveItem_13 dX6_liveItem_14 dX6_liveItem_16 dX6_liveItem_19 (by decide) (by first | exact Nat.le_of_ble_eq_true rfl | (simp [rv_cat]; done) | (simp (decide := true) [rv_cat, cat_ref, cat_int]; done)) (by decide) (by decide) h
/-! PlantServer.waiting -/
theorem dX6_waiting_0 : decode cX6_waiting 0 = .ok (.aload_n 0, 1) := by decide +kernel
theorem dX6_waiting_1 : decode cX6_waiting 1 = .ok (.iload_n 1, 1) := by decide +kernel
theorem dX6_waiting_2 : decode cX6_waiting 2 = .ok (.invokevirtual 102, 3) := by decide +kernel
theorem dX6_waiting_5 : decode cX6_waiting 5 = .ok (.getfield 171, 3) := by decide +kernel
theorem dX6_waiting_8 : decode cX6_waiting 8 = .ok (.getfield 175, 3) := by decide +kernel
theorem dX6_waiting_11 : decode cX6_waiting 11 = .ok (.ireturn, 1) := by decide +kernel
abbrev rm6_waiting : Room := { frames := 7, cells := 1, slots := 6, locals := 112 }
theorem hd6_waiting : yX6_waiting.cls ≠ "java/lang/invoke/MethodHandle" ∧ yX6_waiting.cls ≠ "java/lang/invoke/VarHandle" ∧ (parseMethodDescriptor yX6_waiting.desc).map (fun d => d.parameters.length) = some 1 := by decide +kernel
set_option maxHeartbeats 4000000 in
set_option maxRecDepth 20000 in
theorem m6_waiting (l : Launch) (hl : l.stackTraces = false) (G : xG) (ρ : Nm → Nat) (this : Nm) (p1 : Int32) (σ : PH) (Q : Int32 → PH → Prop) (Xp : String → PH → Prop) (h : w6_waiting this p1 σ Q Xp) : xMet l yX6_waiting (.code yX6_waiting cX6_waiting 2 (some .int)) rm6_waiting G ρ σ [.ref (ρ this), .int p1] (eI ρ Q) Xp := by
  refine xMet.of hl (by decide +kernel) (Nat.le_of_ble_eq_true rfl) (fun X hC hr hn htab h0 => ?_)
  have hC : xC G X "PlantServer" cX6_waiting 2 rm6_waiting := hC
  unfold w6_waiting at h
  refine xJ.loc (L' := [(0, .ref (ρ this)), (1, .int p1)]) rfl ?_
  refine x_aload_n hC 0 rfl dX6_waiting_0 ?_
  refine x_iload_n hC 1 rfl dX6_waiting_1 ?_
  obtain ⟨k1, h⟩ := h
  refine x_callV (n0 := this) (as := [.int p1]) (rest := []) hC (ci := 6) (r := (RX6, TX6, 9)) k1 rfl (fun l hl => m6_liveItem l hl G ρ this p1 σ _ Xp h) q425 q427 s5 q1 q428 ⟨rfl, hd6_liveItem⟩ (by decide) ⟨(by decide), (by decide)⟩ (by first | exact Nat.le_of_ble_eq_true rfl | (simp [rv_cat]; done) | (simp (decide := true) [rv_cat, cat_ref, cat_int]; done)) rfl dX6_waiting_2 (fun E σ9 hx => x_out hC h0 htab (by decide) (by decide) hx) (fun v1 σ1 ρ1 hp1 hag1 => ?_)
  obtain ⟨e9, r1, e8, h⟩ := hp1
  rw [e8, e9]
  refine xJ.nrm (k' := 1) (n' := 6) (pc' := 5) (st' := [rv ρ r1]) rfl rfl rfl rfl ?_
  obtain ⟨m1, hm1, h⟩ := h
  rw [show rv ρ r1 = Value.ref (ρ m1) from by rw [hm1]; rfl]
  obtain ⟨k2, h⟩ := h
  refine x_getR (n0 := m1) hC (ci := 1) (T := TX1) (N := 12) (C := RX1) 5 k2 rfl rfl (by decide) rfl q356 dX6_waiting_5 ?_
  obtain ⟨m2, hm2, h⟩ := h
  rw [show rv ρ (hR σ1 m1 5) = Value.ref (ρ m2) from by rw [hm2]; rfl]
  obtain ⟨k3, h⟩ := h
  refine x_getI (n0 := m2) hC (ci := 3) (T := TX3) (N := 5) (C := RX3) 4 k3 rfl rfl (by decide) rfl q323 dX6_waiting_8 ?_
  exact x_iret hC hr dX6_waiting_11 (by decide) (by decide) ⟨rfl, _, rfl, h⟩
/-! PlantServerLaw.waiting -/
theorem dL_waiting_0 : decode cL_waiting 0 = .ok (.aload_n 0, 1) := by decide +kernel
theorem dL_waiting_1 : decode cL_waiting 1 = .ok (.iload_n 1, 1) := by decide +kernel
theorem dL_waiting_2 : decode cL_waiting 2 = .ok (.invokevirtual 73, 3) := by decide +kernel
theorem dL_waiting_5 : decode cL_waiting 5 = .ok (.istore_n 2, 1) := by decide +kernel
theorem dL_waiting_6 : decode cL_waiting 6 = .ok (.goto 8, 3) := by decide +kernel
theorem dL_waiting_9 : decode cL_waiting 9 = .ok (.astore_n 3, 1) := by decide +kernel
theorem dL_waiting_10 : decode cL_waiting 10 = .ok (.sipush (-7100), 3) := by decide +kernel
theorem dL_waiting_13 : decode cL_waiting 13 = .ok (.ireturn, 1) := by decide +kernel
theorem dL_waiting_14 : decode cL_waiting 14 = .ok (.iload_n 2, 1) := by decide +kernel
theorem dL_waiting_15 : decode cL_waiting 15 = .ok (.ireturn, 1) := by decide +kernel
abbrev rmL_waiting : Room := { frames := 8, cells := 1, slots := 6, locals := 133 }
theorem hdL_waiting : yL_waiting.cls ≠ "java/lang/invoke/MethodHandle" ∧ yL_waiting.cls ≠ "java/lang/invoke/VarHandle" ∧ (parseMethodDescriptor yL_waiting.desc).map (fun d => d.parameters.length) = some 2 := by decide +kernel
set_option maxHeartbeats 4000000 in
set_option maxRecDepth 20000 in
theorem mL_waiting (l : Launch) (hl : l.stackTraces = false) (G : xG) (ρ : Nm → Nat) (a1 : Nm) (p2 : Int32) (σ : PH) (Q : Int32 → PH → Prop) (h : wL_waiting a1 p2 σ Q) : xMet l yL_waiting (.codeWith yL_waiting cL_waiting 4 (some .int) [(0, 6, 9, 14)]) rmL_waiting G ρ σ [.ref (ρ a1), .int p2] (eI ρ Q) xNo := by
  refine xMet.ofW hl (by decide +kernel) (Nat.le_of_ble_eq_true rfl) (fun X hC hr hn htab h0 => ?_)
  have hC : xC G X "PlantServerLaw" cL_waiting 4 rmL_waiting := hC
  unfold wL_waiting at h
  refine xJ.loc (L' := [(0, .ref (ρ a1)), (1, .int p2)]) rfl ?_
  refine x_aload_n hC 0 rfl dL_waiting_0 ?_
  refine x_iload_n hC 1 rfl dL_waiting_1 ?_
  obtain ⟨k1, h⟩ := h
  refine x_callV (n0 := a1) (as := [.int p2]) (rest := []) hC (ci := 6) (r := (RX6, TX6, 9)) k1 rfl (fun l hl => m6_waiting l hl G ρ a1 p2 σ _ _ h) q683 q684 q685 q1 q686 ⟨rfl, hd6_waiting⟩ (by decide) ⟨(by decide), (by decide)⟩ (by first | exact Nat.le_of_ble_eq_true rfl | (simp [rv_cat]; done) | (simp (decide := true) [rv_cat, cat_ref, cat_int]; done)) rfl dL_waiting_2 (fun E σ2 hx => ?_) (fun v1 σ1 ρ1 hp1 hag1 => ?_)
  · have hE9 := hx.2
    have he := hE9
    have h := hx.1 he
    subst he
    refine x_catch hC [] [] (0, 6, 9, 14) htab (by intro z hz; simp at hz) (by decide) (by decide) q269 xcast_xIO (fun qx1 => ?_)
    refine xJ.nrm (k' := 1) (n' := 6) (pc' := 9) (st' := [.ref qx1]) rfl rfl rfl rfl ?_
    refine x_astore_n (L' := [(3, .ref qx1), (0, .ref (ρ a1)), (1, .int p2)]) hC dL_waiting_9 (by decide) (by first | rfl | simp (decide := true) [rv_cat, cat_ref, cat_int]) ?_
    refine x_sipush (v := (-7100)) hC dL_waiting_10 (by decide) ?_
    exact x_iret hC hr dL_waiting_13 (by decide) (by decide) ⟨rfl, _, rfl, h⟩
  · obtain ⟨e9, r1, e8, h⟩ := hp1
    rw [e8, e9]
    refine xJ.nrm (k' := 1) (n' := 6) (pc' := 5) (st' := [.int r1]) rfl rfl rfl rfl ?_
    refine x_istore_n (L' := [(2, .int r1), (0, .ref (ρ a1)), (1, .int p2)]) hC dL_waiting_5 (by decide) (by first | rfl | simp (decide := true) [rv_cat, cat_ref, cat_int]) ?_
    refine x_goto (tgt := 14) hC dL_waiting_6 (by decide) ?_
    refine x_iload_n hC 0 rfl dL_waiting_14 ?_
    exact x_iret hC hr dL_waiting_15 (by decide) (by decide) ⟨rfl, _, rfl, h⟩
/-! PlantServer.queued -/
theorem dX6_queued_0 : decode cX6_queued 0 = .ok (.aload_n 0, 1) := by decide +kernel
theorem dX6_queued_1 : decode cX6_queued 1 = .ok (.iload_n 1, 1) := by decide +kernel
theorem dX6_queued_2 : decode cX6_queued 2 = .ok (.invokevirtual 102, 3) := by decide +kernel
theorem dX6_queued_5 : decode cX6_queued 5 = .ok (.getfield 176, 3) := by decide +kernel
theorem dX6_queued_8 : decode cX6_queued 8 = .ok (.ireturn, 1) := by decide +kernel
abbrev rm6_queued : Room := { frames := 7, cells := 1, slots := 6, locals := 112 }
theorem hd6_queued : yX6_queued.cls ≠ "java/lang/invoke/MethodHandle" ∧ yX6_queued.cls ≠ "java/lang/invoke/VarHandle" ∧ (parseMethodDescriptor yX6_queued.desc).map (fun d => d.parameters.length) = some 1 := by decide +kernel
set_option maxHeartbeats 4000000 in
set_option maxRecDepth 20000 in
theorem m6_queued (l : Launch) (hl : l.stackTraces = false) (G : xG) (ρ : Nm → Nat) (this : Nm) (p1 : Int32) (σ : PH) (Q : Int32 → PH → Prop) (Xp : String → PH → Prop) (h : w6_queued this p1 σ Q Xp) : xMet l yX6_queued (.code yX6_queued cX6_queued 2 (some .int)) rm6_queued G ρ σ [.ref (ρ this), .int p1] (eI ρ Q) Xp := by
  refine xMet.of hl (by decide +kernel) (Nat.le_of_ble_eq_true rfl) (fun X hC hr hn htab h0 => ?_)
  have hC : xC G X "PlantServer" cX6_queued 2 rm6_queued := hC
  unfold w6_queued at h
  refine xJ.loc (L' := [(0, .ref (ρ this)), (1, .int p1)]) rfl ?_
  refine x_aload_n hC 0 rfl dX6_queued_0 ?_
  refine x_iload_n hC 1 rfl dX6_queued_1 ?_
  obtain ⟨k1, h⟩ := h
  refine x_callV (n0 := this) (as := [.int p1]) (rest := []) hC (ci := 6) (r := (RX6, TX6, 9)) k1 rfl (fun l hl => m6_liveItem l hl G ρ this p1 σ _ Xp h) q425 q427 s5 q1 q428 ⟨rfl, hd6_liveItem⟩ (by decide) ⟨(by decide), (by decide)⟩ (by first | exact Nat.le_of_ble_eq_true rfl | (simp [rv_cat]; done) | (simp (decide := true) [rv_cat, cat_ref, cat_int]; done)) rfl dX6_queued_2 (fun E σ9 hx => x_out hC h0 htab (by decide) (by decide) hx) (fun v1 σ1 ρ1 hp1 hag1 => ?_)
  obtain ⟨e9, r1, e8, h⟩ := hp1
  rw [e8, e9]
  refine xJ.nrm (k' := 1) (n' := 6) (pc' := 5) (st' := [rv ρ r1]) rfl rfl rfl rfl ?_
  obtain ⟨m1, hm1, h⟩ := h
  rw [show rv ρ r1 = Value.ref (ρ m1) from by rw [hm1]; rfl]
  obtain ⟨k2, h⟩ := h
  refine x_getI (n0 := m1) hC (ci := 1) (T := TX1) (N := 12) (C := RX1) 8 k2 rfl rfl (by decide) rfl q363 dX6_queued_5 ?_
  exact x_iret hC hr dX6_queued_8 (by decide) (by decide) ⟨rfl, _, rfl, h⟩
/-! PlantServerLaw.queued -/
theorem dL_queued_0 : decode cL_queued 0 = .ok (.aload_n 0, 1) := by decide +kernel
theorem dL_queued_1 : decode cL_queued 1 = .ok (.iload_n 1, 1) := by decide +kernel
theorem dL_queued_2 : decode cL_queued 2 = .ok (.invokevirtual 76, 3) := by decide +kernel
theorem dL_queued_5 : decode cL_queued 5 = .ok (.istore_n 2, 1) := by decide +kernel
theorem dL_queued_6 : decode cL_queued 6 = .ok (.goto 8, 3) := by decide +kernel
theorem dL_queued_9 : decode cL_queued 9 = .ok (.astore_n 3, 1) := by decide +kernel
theorem dL_queued_10 : decode cL_queued 10 = .ok (.sipush (-7100), 3) := by decide +kernel
theorem dL_queued_13 : decode cL_queued 13 = .ok (.ireturn, 1) := by decide +kernel
theorem dL_queued_14 : decode cL_queued 14 = .ok (.iload_n 2, 1) := by decide +kernel
theorem dL_queued_15 : decode cL_queued 15 = .ok (.ireturn, 1) := by decide +kernel
abbrev rmL_queued : Room := { frames := 8, cells := 1, slots := 6, locals := 133 }
theorem hdL_queued : yL_queued.cls ≠ "java/lang/invoke/MethodHandle" ∧ yL_queued.cls ≠ "java/lang/invoke/VarHandle" ∧ (parseMethodDescriptor yL_queued.desc).map (fun d => d.parameters.length) = some 2 := by decide +kernel
set_option maxHeartbeats 4000000 in
set_option maxRecDepth 20000 in
theorem mL_queued (l : Launch) (hl : l.stackTraces = false) (G : xG) (ρ : Nm → Nat) (a1 : Nm) (p2 : Int32) (σ : PH) (Q : Int32 → PH → Prop) (h : wL_queued a1 p2 σ Q) : xMet l yL_queued (.codeWith yL_queued cL_queued 4 (some .int) [(0, 6, 9, 14)]) rmL_queued G ρ σ [.ref (ρ a1), .int p2] (eI ρ Q) xNo := by
  refine xMet.ofW hl (by decide +kernel) (Nat.le_of_ble_eq_true rfl) (fun X hC hr hn htab h0 => ?_)
  have hC : xC G X "PlantServerLaw" cL_queued 4 rmL_queued := hC
  unfold wL_queued at h
  refine xJ.loc (L' := [(0, .ref (ρ a1)), (1, .int p2)]) rfl ?_
  refine x_aload_n hC 0 rfl dL_queued_0 ?_
  refine x_iload_n hC 1 rfl dL_queued_1 ?_
  obtain ⟨k1, h⟩ := h
  refine x_callV (n0 := a1) (as := [.int p2]) (rest := []) hC (ci := 6) (r := (RX6, TX6, 9)) k1 rfl (fun l hl => m6_queued l hl G ρ a1 p2 σ _ _ h) q421 q422 q423 q1 q424 ⟨rfl, hd6_queued⟩ (by decide) ⟨(by decide), (by decide)⟩ (by first | exact Nat.le_of_ble_eq_true rfl | (simp [rv_cat]; done) | (simp (decide := true) [rv_cat, cat_ref, cat_int]; done)) rfl dL_queued_2 (fun E σ2 hx => ?_) (fun v1 σ1 ρ1 hp1 hag1 => ?_)
  · have hE9 := hx.2
    have he := hE9
    have h := hx.1 he
    subst he
    refine x_catch hC [] [] (0, 6, 9, 14) htab (by intro z hz; simp at hz) (by decide) (by decide) q269 xcast_xIO (fun qx1 => ?_)
    refine xJ.nrm (k' := 1) (n' := 6) (pc' := 9) (st' := [.ref qx1]) rfl rfl rfl rfl ?_
    refine x_astore_n (L' := [(3, .ref qx1), (0, .ref (ρ a1)), (1, .int p2)]) hC dL_queued_9 (by decide) (by first | rfl | simp (decide := true) [rv_cat, cat_ref, cat_int]) ?_
    refine x_sipush (v := (-7100)) hC dL_queued_10 (by decide) ?_
    exact x_iret hC hr dL_queued_13 (by decide) (by decide) ⟨rfl, _, rfl, h⟩
  · obtain ⟨e9, r1, e8, h⟩ := hp1
    rw [e8, e9]
    refine xJ.nrm (k' := 1) (n' := 6) (pc' := 5) (st' := [.int r1]) rfl rfl rfl rfl ?_
    refine x_istore_n (L' := [(2, .int r1), (0, .ref (ρ a1)), (1, .int p2)]) hC dL_queued_5 (by decide) (by first | rfl | simp (decide := true) [rv_cat, cat_ref, cat_int]) ?_
    refine x_goto (tgt := 14) hC dL_queued_6 (by decide) ?_
    refine x_iload_n hC 0 rfl dL_queued_14 ?_
    exact x_iret hC hr dL_queued_15 (by decide) (by decide) ⟨rfl, _, rfl, h⟩
