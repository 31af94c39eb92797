/-! PlantServerLaw.latest -/
theorem dL_latest_0 : decode cL_latest 0 = .ok (.aload_n 2, 1) := by decide +kernel
theorem dL_latest_1 : decode cL_latest 1 = .ok (.iconst 0, 1) := by decide +kernel
theorem dL_latest_2 : decode cL_latest 2 = .ok (.aload_n 0, 1) := by decide +kernel
theorem dL_latest_3 : decode cL_latest 3 = .ok (.iload_n 1, 1) := by decide +kernel
theorem dL_latest_4 : decode cL_latest 4 = .ok (.invokevirtual 66, 3) := by decide +kernel
theorem dL_latest_7 : decode cL_latest 7 = .ok (.i2l, 1) := by decide +kernel
theorem dL_latest_8 : decode cL_latest 8 = .ok (.lastore, 1) := by decide +kernel
theorem dL_latest_9 : decode cL_latest 9 = .ok (.goto 6, 3) := by decide +kernel
theorem dL_latest_12 : decode cL_latest 12 = .ok (.astore_n 3, 1) := by decide +kernel
theorem dL_latest_13 : decode cL_latest 13 = .ok (.iconst 1, 1) := by decide +kernel
theorem dL_latest_14 : decode cL_latest 14 = .ok (.ireturn, 1) := by decide +kernel
theorem dL_latest_15 : decode cL_latest 15 = .ok (.iconst 0, 1) := by decide +kernel
theorem dL_latest_16 : decode cL_latest 16 = .ok (.ireturn, 1) := by decide +kernel
abbrev rmL_latest : Room := { frames := 8, cells := 1, slots := 6, locals := 133 }
theorem hdL_latest : yL_latest.cls ≠ "java/lang/invoke/MethodHandle" ∧ yL_latest.cls ≠ "java/lang/invoke/VarHandle" ∧ (parseMethodDescriptor yL_latest.desc).map (fun d => d.parameters.length) = some 3 := by decide +kernel
set_option maxHeartbeats 4000000 in
set_option maxRecDepth 20000 in
theorem mL_latest (l : Launch) (hl : l.stackTraces = false) (G : xG) (ρ : Nm → Nat) (a1 : Nm) (p2 : Int32) (a3 : Nm) (σ : PH) (Q : Int32 → PH → Prop) (h : wL_latest a1 p2 a3 σ Q) : xMet l yL_latest (.codeWith yL_latest cL_latest 4 (some .int) [(0, 9, 12, 13)]) rmL_latest G ρ σ [.ref (ρ a1), .int p2, .ref (ρ a3)] (eI ρ Q) xNo := by
  refine xMet.ofW hl (by decide +kernel) (Nat.le_of_ble_eq_true rfl) (fun X hC hr hn htab h0 => ?_)
  have hC : xC G X "PlantServerLaw" cL_latest 4 rmL_latest := hC
  unfold wL_latest at h
  refine xJ.loc (L' := [(0, .ref (ρ a1)), (1, .int p2), (2, .ref (ρ a3))]) rfl ?_
  refine x_aload_n hC 2 rfl dL_latest_0 ?_
  refine x_iconst (v := 0) hC dL_latest_1 (by decide) ?_
  refine x_aload_n hC 0 rfl dL_latest_2 ?_
  refine x_iload_n hC 1 rfl dL_latest_3 ?_
  obtain ⟨k1, h⟩ := h
  refine x_callV (n0 := a1) (as := [.int p2]) (rest := [.int 0, .ref (ρ a3)]) hC (ci := 6) (r := (RX6, TX6, 9)) k1 rfl (fun l hl => m6_latest l hl G ρ a1 p2 σ _ _ h) q631 q632 q633 q1 q634 ⟨rfl, hd6_latest⟩ (by decide) ⟨(by decide), (by decide)⟩ (by first | exact Nat.le_of_ble_eq_true rfl | (simp [rv_cat]; done) | (simp (decide := true) [rv_cat, cat_ref, cat_int]; done)) rfl dL_latest_4 (fun E σ2 hx => ?_) (fun v1 σ1 ρ1 hp1 hag1 => ?_)
  · have hE9 := hx.2
    have he := hE9
    have h := hx.1 he
    subst he
    refine x_catch hC [] [] (0, 9, 12, 13) htab (by intro z hz; simp at hz) (by decide) (by decide) q89 xcast_xIO (fun qx1 => ?_)
    refine xJ.nrm (k' := 1) (n' := 6) (pc' := 12) (st' := [.ref qx1]) rfl rfl rfl rfl ?_
    refine x_astore_n (L' := [(3, .ref qx1), (0, .ref (ρ a1)), (1, .int p2), (2, .ref (ρ a3))]) hC dL_latest_12 (by decide) (by first | rfl | simp (decide := true) [rv_cat, cat_ref, cat_int]) ?_
    refine x_iconst (v := 1) hC dL_latest_13 (by decide) ?_
    exact x_iret hC hr dL_latest_14 (by decide) (by decide) ⟨rfl, _, rfl, h⟩
  · obtain ⟨e9, r1, e8, h⟩ := hp1
    rw [e8, e9]
    refine xJ.nrm (k' := 1) (n' := 6) (pc' := 7) (st' := [.int r1, .int 0, .ref (ρ a3)]) rfl rfl rfl rfl ?_
    refine x_i2l hC dL_latest_7 ?_
    obtain ⟨k2, h⟩ := h
    obtain ⟨v2, h⟩ := h
    refine x_last (a := a3) hC k2 v2 dL_latest_8 ?_
    refine xJ.nmH (fun σ3 e1 => ?_)
    have h := h σ3 e1
    have r2 : hR σ3 = hR σ1 ∧ hL σ3 = hL σ1 := by rw [e1]; exact ⟨rfl, rfl⟩
    refine x_goto (tgt := 15) hC dL_latest_9 (by decide) ?_
    refine x_iconst (v := 0) hC dL_latest_15 (by decide) ?_
    exact x_iret hC hr dL_latest_16 (by decide) (by decide) ⟨rfl, _, rfl, h⟩
/-! PlantServerModel.latest -/
theorem dX7_latest_0 : decode cX7_latest 0 = .ok (.aload_n 0, 1) := by decide +kernel
theorem dX7_latest_1 : decode cX7_latest 1 = .ok (.iload_n 1, 1) := by decide +kernel
theorem dX7_latest_2 : decode cX7_latest 2 = .ok (.invokevirtual 170, 3) := by decide +kernel
theorem dX7_latest_5 : decode cX7_latest 5 = .ok (.ifCond .eq 12, 3) := by decide +kernel
theorem dX7_latest_8 : decode cX7_latest 8 = .ok (.aload_n 0, 1) := by decide +kernel
theorem dX7_latest_9 : decode cX7_latest 9 = .ok (.getfield 41, 3) := by decide +kernel
theorem dX7_latest_12 : decode cX7_latest 12 = .ok (.iload_n 1, 1) := by decide +kernel
theorem dX7_latest_13 : decode cX7_latest 13 = .ok (.iaload, 1) := by decide +kernel
theorem dX7_latest_14 : decode cX7_latest 14 = .ok (.goto 4, 3) := by decide +kernel
theorem dX7_latest_17 : decode cX7_latest 17 = .ok (.iconst 0, 1) := by decide +kernel
theorem dX7_latest_18 : decode cX7_latest 18 = .ok (.ireturn, 1) := by decide +kernel
abbrev rm7_latest : Room := { frames := 3, cells := 0, slots := 0, locals := 64 }
theorem hd7_latest : yX7_latest.cls ≠ "java/lang/invoke/MethodHandle" ∧ yX7_latest.cls ≠ "java/lang/invoke/VarHandle" ∧ (parseMethodDescriptor yX7_latest.desc).map (fun d => d.parameters.length) = some 1 := by decide +kernel
set_option maxHeartbeats 4000000 in
set_option maxRecDepth 20000 in
theorem m7_latest (l : Launch) (hl : l.stackTraces = false) (G : xG) (ρ : Nm → Nat) (this : Nm) (p1 : Int32) (σ : PH) (Q : Int32 → PH → Prop) (h : w7_latest this p1 σ Q) : xMet l yX7_latest (.code yX7_latest cX7_latest 2 (some .int)) rm7_latest G ρ σ [.ref (ρ this), .int p1] (eI ρ Q) xNo := by
  refine xMet.of hl (by decide +kernel) (Nat.le_of_ble_eq_true rfl) (fun X hC hr hn htab h0 => ?_)
  have hC : xC G X "PlantServerModel" cX7_latest 2 rm7_latest := hC
  unfold w7_latest at h
  refine xJ.loc (L' := [(0, .ref (ρ this)), (1, .int p1)]) rfl ?_
  refine x_aload_n hC 0 rfl dX7_latest_0 ?_
  refine x_iload_n hC 1 rfl dX7_latest_1 ?_
  obtain ⟨k1, h⟩ := h
  refine x_callV (n0 := this) (as := [.int p1]) (rest := []) hC (ci := 7) (r := (RX7, TX7, 36)) k1 rfl (fun l hl => m7_asks l hl G ρ this p1 σ _ h) q900 q902 s26 q3 q903 ⟨rfl, hd7_asks⟩ (by decide) ⟨(by decide), (by decide)⟩ (by first | exact Nat.le_of_ble_eq_true rfl | (simp [rv_cat]; done) | (simp (decide := true) [rv_cat, cat_ref, cat_int]; done)) rfl dX7_latest_2 (fun E σ9 hx => False.elim hx) (fun v1 σ1 ρ1 hp1 hag1 => ?_)
  obtain ⟨e9, r1, e8, h⟩ := hp1
  rw [e8, e9]
  refine xJ.nrm (k' := 0) (n' := 0) (pc' := 5) (st' := [.int r1]) rfl rfl rfl rfl ?_
  refine x_if_eq (tgt := 17) hC dX7_latest_5 (by decide) (fun c1 => ?_) (fun c1 => ?_)
  · have h := h.1 c1
    refine x_iconst (v := 0) hC dX7_latest_17 (by decide) ?_
    exact x_iret hC hr dX7_latest_18 (by decide) (by decide) ⟨rfl, _, rfl, h⟩
  · have h := h.2 c1
    refine x_aload_n hC 0 rfl dX7_latest_8 ?_
    have k2 : hK σ1 this = 8 := (hag1 this (by rw [k1]; decide)).1.trans k1
    refine x_getR (n0 := this) hC (ci := 7) (T := TX7) (N := 36) (C := RX7) 13 k2 rfl rfl (by decide) rfl q702 dX7_latest_9 ?_
    refine x_iload_n hC 1 rfl dX7_latest_12 ?_
    obtain ⟨m1, hm1, h⟩ := h
    rw [show rv ρ (hR σ1 this 13) = Value.ref (ρ m1) from by rw [hm1]; rfl]
    obtain ⟨k3, h⟩ := h
    obtain ⟨v2, h⟩ := h
    refine x_iald (a := m1) hC k3 v2 dX7_latest_13 ?_
    refine x_goto (tgt := 18) hC dX7_latest_14 (by decide) ?_
    exact x_iret hC hr dX7_latest_18 (by decide) (by decide) ⟨rfl, _, rfl, h⟩
/-! PlantServer.keepAlives -/
theorem dX6_keepAlives_0 : decode cX6_keepAlives 0 = .ok (.aload_n 0, 1) := by decide +kernel
theorem dX6_keepAlives_1 : decode cX6_keepAlives 1 = .ok (.iload_n 1, 1) := by decide +kernel
theorem dX6_keepAlives_2 : decode cX6_keepAlives 2 = .ok (.invokevirtual 73, 3) := by decide +kernel
theorem dX6_keepAlives_5 : decode cX6_keepAlives 5 = .ok (.getfield 168, 3) := by decide +kernel
theorem dX6_keepAlives_8 : decode cX6_keepAlives 8 = .ok (.ireturn, 1) := by decide +kernel
abbrev rm6_keepAlives : Room := { frames := 7, cells := 1, slots := 6, locals := 112 }
theorem hd6_keepAlives : yX6_keepAlives.cls ≠ "java/lang/invoke/MethodHandle" ∧ yX6_keepAlives.cls ≠ "java/lang/invoke/VarHandle" ∧ (parseMethodDescriptor yX6_keepAlives.desc).map (fun d => d.parameters.length) = some 1 := by decide +kernel
set_option maxHeartbeats 4000000 in
set_option maxRecDepth 20000 in
theorem m6_keepAlives (l : Launch) (hl : l.stackTraces = false) (G : xG) (ρ : Nm → Nat) (this : Nm) (p1 : Int32) (σ : PH) (Q : Int32 → PH → Prop) (Xp : String → PH → Prop) (h : w6_keepAlives this p1 σ Q Xp) : xMet l yX6_keepAlives (.code yX6_keepAlives cX6_keepAlives 2 (some .int)) rm6_keepAlives G ρ σ [.ref (ρ this), .int p1] (eI ρ Q) Xp := by
  refine xMet.of hl (by decide +kernel) (Nat.le_of_ble_eq_true rfl) (fun X hC hr hn htab h0 => ?_)
  have hC : xC G X "PlantServer" cX6_keepAlives 2 rm6_keepAlives := hC
  unfold w6_keepAlives at h
  refine xJ.loc (L' := [(0, .ref (ρ this)), (1, .int p1)]) rfl ?_
  refine x_aload_n hC 0 rfl dX6_keepAlives_0 ?_
  refine x_iload_n hC 1 rfl dX6_keepAlives_1 ?_
  obtain ⟨k1, h⟩ := h
  refine x_callV (n0 := this) (as := [.int p1]) (rest := []) hC (ci := 6) (r := (RX6, TX6, 9)) k1 rfl (fun l hl => m6_openSubscription l hl G ρ this p1 σ _ Xp h) q296 q298 s2 q1 q299 ⟨rfl, hd6_openSubscription⟩ (by decide) ⟨(by decide), (by decide)⟩ (by first | exact Nat.le_of_ble_eq_true rfl | (simp [rv_cat]; done) | (simp (decide := true) [rv_cat, cat_ref, cat_int]; done)) rfl dX6_keepAlives_2 (fun E σ9 hx => x_out hC h0 htab (by decide) (by decide) hx) (fun v1 σ1 ρ1 hp1 hag1 => ?_)
  obtain ⟨e9, r1, e8, h⟩ := hp1
  rw [e8, e9]
  refine xJ.nrm (k' := 1) (n' := 6) (pc' := 5) (st' := [rv ρ r1]) rfl rfl rfl rfl ?_
  obtain ⟨m1, hm1, h⟩ := h
  rw [show rv ρ r1 = Value.ref (ρ m1) from by rw [hm1]; rfl]
  obtain ⟨k2, h⟩ := h
  refine x_getI (n0 := m1) hC (ci := 4) (T := TX4) (N := 14) (C := RX4) 11 k2 rfl rfl (by decide) rfl q253 dX6_keepAlives_5 ?_
  exact x_iret hC hr dX6_keepAlives_8 (by decide) (by decide) ⟨rfl, _, rfl, h⟩
/-! PlantServerLaw.keepAlives -/
theorem dL_keepAlives_0 : decode cL_keepAlives 0 = .ok (.aload_n 2, 1) := by decide +kernel
theorem dL_keepAlives_1 : decode cL_keepAlives 1 = .ok (.iconst 0, 1) := by decide +kernel
theorem dL_keepAlives_2 : decode cL_keepAlives 2 = .ok (.aload_n 0, 1) := by decide +kernel
theorem dL_keepAlives_3 : decode cL_keepAlives 3 = .ok (.iload_n 1, 1) := by decide +kernel
theorem dL_keepAlives_4 : decode cL_keepAlives 4 = .ok (.invokevirtual 69, 3) := by decide +kernel
theorem dL_keepAlives_7 : decode cL_keepAlives 7 = .ok (.i2l, 1) := by decide +kernel
theorem dL_keepAlives_8 : decode cL_keepAlives 8 = .ok (.lastore, 1) := by decide +kernel
theorem dL_keepAlives_9 : decode cL_keepAlives 9 = .ok (.goto 6, 3) := by decide +kernel
theorem dL_keepAlives_12 : decode cL_keepAlives 12 = .ok (.astore_n 3, 1) := by decide +kernel
theorem dL_keepAlives_13 : decode cL_keepAlives 13 = .ok (.iconst 1, 1) := by decide +kernel
theorem dL_keepAlives_14 : decode cL_keepAlives 14 = .ok (.ireturn, 1) := by decide +kernel
theorem dL_keepAlives_15 : decode cL_keepAlives 15 = .ok (.iconst 0, 1) := by decide +kernel
theorem dL_keepAlives_16 : decode cL_keepAlives 16 = .ok (.ireturn, 1) := by decide +kernel
abbrev rmL_keepAlives : Room := { frames := 8, cells := 1, slots := 6, locals := 133 }
theorem hdL_keepAlives : yL_keepAlives.cls ≠ "java/lang/invoke/MethodHandle" ∧ yL_keepAlives.cls ≠ "java/lang/invoke/VarHandle" ∧ (parseMethodDescriptor yL_keepAlives.desc).map (fun d => d.parameters.length) = some 3 := by decide +kernel
set_option maxHeartbeats 4000000 in
set_option maxRecDepth 20000 in
theorem mL_keepAlives (l : Launch) (hl : l.stackTraces = false) (G : xG) (ρ : Nm → Nat) (a1 : Nm) (p2 : Int32) (a3 : Nm) (σ : PH) (Q : Int32 → PH → Prop) (h : wL_keepAlives a1 p2 a3 σ Q) : xMet l yL_keepAlives (.codeWith yL_keepAlives cL_keepAlives 4 (some .int) [(0, 9, 12, 13)]) rmL_keepAlives G ρ σ [.ref (ρ a1), .int p2, .ref (ρ a3)] (eI ρ Q) xNo := by
  refine xMet.ofW hl (by decide +kernel) (Nat.le_of_ble_eq_true rfl) (fun X hC hr hn htab h0 => ?_)
  have hC : xC G X "PlantServerLaw" cL_keepAlives 4 rmL_keepAlives := hC
  unfold wL_keepAlives at h
  refine xJ.loc (L' := [(0, .ref (ρ a1)), (1, .int p2), (2, .ref (ρ a3))]) rfl ?_
  refine x_aload_n hC 2 rfl dL_keepAlives_0 ?_
  refine x_iconst (v := 0) hC dL_keepAlives_1 (by decide) ?_
  refine x_aload_n hC 0 rfl dL_keepAlives_2 ?_
  refine x_iload_n hC 1 rfl dL_keepAlives_3 ?_
  obtain ⟨k1, h⟩ := h
  refine x_callV (n0 := a1) (as := [.int p2]) (rest := [.int 0, .ref (ρ a3)]) hC (ci := 6) (r := (RX6, TX6, 9)) k1 rfl (fun l hl => m6_keepAlives l hl G ρ a1 p2 σ _ _ h) q638 q639 q640 q1 q641 ⟨rfl, hd6_keepAlives⟩ (by decide) ⟨(by decide), (by decide)⟩ (by first | exact Nat.le_of_ble_eq_true rfl | (simp [rv_cat]; done) | (simp (decide := true) [rv_cat, cat_ref, cat_int]; done)) rfl dL_keepAlives_4 (fun E σ2 hx => ?_) (fun v1 σ1 ρ1 hp1 hag1 => ?_)
  · have hE9 := hx.2
    have he := hE9
    have h := hx.1 he
    subst he
    refine x_catch hC [] [] (0, 9, 12, 13) htab (by intro z hz; simp at hz) (by decide) (by decide) q89 xcast_xIO (fun qx1 => ?_)
    refine xJ.nrm (k' := 1) (n' := 6) (pc' := 12) (st' := [.ref qx1]) rfl rfl rfl rfl ?_
    refine x_astore_n (L' := [(3, .ref qx1), (0, .ref (ρ a1)), (1, .int p2), (2, .ref (ρ a3))]) hC dL_keepAlives_12 (by decide) (by first | rfl | simp (decide := true) [rv_cat, cat_ref, cat_int]) ?_
    refine x_iconst (v := 1) hC dL_keepAlives_13 (by decide) ?_
    exact x_iret hC hr dL_keepAlives_14 (by decide) (by decide) ⟨rfl, _, rfl, h⟩
  · obtain ⟨e9, r1, e8, h⟩ := hp1
    rw [e8, e9]
    refine xJ.nrm (k' := 1) (n' := 6) (pc' := 7) (st' := [.int r1, .int 0, .ref (ρ a3)]) rfl rfl rfl rfl ?_
    refine x_i2l hC dL_keepAlives_7 ?_
    obtain ⟨k2, h⟩ := h
    obtain ⟨v2, h⟩ := h
    refine x_last (a := a3) hC k2 v2 dL_keepAlives_8 ?_
    refine xJ.nmH (fun σ3 e1 => ?_)
    have h := h σ3 e1
    have r2 : hR σ3 = hR σ1 ∧ hL σ3 = hL σ1 := by rw [e1]; exact ⟨rfl, rfl⟩
    refine x_goto (tgt := 15) hC dL_keepAlives_9 (by decide) ?_
    refine x_iconst (v := 0) hC dL_keepAlives_15 (by decide) ?_
    exact x_iret hC hr dL_keepAlives_16 (by decide) (by decide) ⟨rfl, _, rfl, h⟩
/-! PlantServerModel.keepAlives -/
theorem dX7_keepAlives_0 : decode cX7_keepAlives 0 = .ok (.aload_n 0, 1) := by decide +kernel
theorem dX7_keepAlives_1 : decode cX7_keepAlives 1 = .ok (.iload_n 1, 1) := by decide +kernel
theorem dX7_keepAlives_2 : decode cX7_keepAlives 2 = .ok (.invokevirtual 170, 3) := by decide +kernel
theorem dX7_keepAlives_5 : decode cX7_keepAlives 5 = .ok (.ifCond .eq 12, 3) := by decide +kernel
theorem dX7_keepAlives_8 : decode cX7_keepAlives 8 = .ok (.aload_n 0, 1) := by decide +kernel
theorem dX7_keepAlives_9 : decode cX7_keepAlives 9 = .ok (.getfield 44, 3) := by decide +kernel
theorem dX7_keepAlives_12 : decode cX7_keepAlives 12 = .ok (.iload_n 1, 1) := by decide +kernel
theorem dX7_keepAlives_13 : decode cX7_keepAlives 13 = .ok (.iaload, 1) := by decide +kernel
theorem dX7_keepAlives_14 : decode cX7_keepAlives 14 = .ok (.goto 4, 3) := by decide +kernel
theorem dX7_keepAlives_17 : decode cX7_keepAlives 17 = .ok (.iconst 0, 1) := by decide +kernel
theorem dX7_keepAlives_18 : decode cX7_keepAlives 18 = .ok (.ireturn, 1) := by decide +kernel
abbrev rm7_keepAlives : Room := { frames := 3, cells := 0, slots := 0, locals := 64 }
theorem hd7_keepAlives : yX7_keepAlives.cls ≠ "java/lang/invoke/MethodHandle" ∧ yX7_keepAlives.cls ≠ "java/lang/invoke/VarHandle" ∧ (parseMethodDescriptor yX7_keepAlives.desc).map (fun d => d.parameters.length) = some 1 := by decide +kernel
set_option maxHeartbeats 4000000 in
set_option maxRecDepth 20000 in
theorem m7_keepAlives (l : Launch) (hl : l.stackTraces = false) (G : xG) (ρ : Nm → Nat) (this : Nm) (p1 : Int32) (σ : PH) (Q : Int32 → PH → Prop) (h : w7_keepAlives this p1 σ Q) : xMet l yX7_keepAlives (.code yX7_keepAlives cX7_keepAlives 2 (some .int)) rm7_keepAlives G ρ σ [.ref (ρ this), .int p1] (eI ρ Q) xNo := by
  refine xMet.of hl (by decide +kernel) (Nat.le_of_ble_eq_true rfl) (fun X hC hr hn htab h0 => ?_)
  have hC : xC G X "PlantServerModel" cX7_keepAlives 2 rm7_keepAlives := hC
  unfold w7_keepAlives at h
  refine xJ.loc (L' := [(0, .ref (ρ this)), (1, .int p1)]) rfl ?_
  refine x_aload_n hC 0 rfl dX7_keepAlives_0 ?_
  refine x_iload_n hC 1 rfl dX7_keepAlives_1 ?_
  obtain ⟨k1, h⟩ := h
  refine x_callV (n0 := this) (as := [.int p1]) (rest := []) hC (ci := 7) (r := (RX7, TX7, 36)) k1 rfl (fun l hl => m7_asks l hl G ρ this p1 σ _ h) q900 q902 s26 q3 q903 ⟨rfl, hd7_asks⟩ (by decide) ⟨(by decide), (by decide)⟩ (by first | exact Nat.le_of_ble_eq_true rfl | (simp [rv_cat]; done) | (simp (decide := true) [rv_cat, cat_ref, cat_int]; done)) rfl dX7_keepAlives_2 (fun E σ9 hx => False.elim hx) (fun v1 σ1 ρ1 hp1 hag1 => ?_)
  obtain ⟨e9, r1, e8, h⟩ := hp1
  rw [e8, e9]
  refine xJ.nrm (k' := 0) (n' := 0) (pc' := 5) (st' := [.int r1]) rfl rfl rfl rfl ?_
  refine x_if_eq (tgt := 17) hC dX7_keepAlives_5 (by decide) (fun c1 => ?_) (fun c1 => ?_)
  · have h := h.1 c1
    refine x_iconst (v := 0) hC dX7_keepAlives_17 (by decide) ?_
    exact x_iret hC hr dX7_keepAlives_18 (by decide) (by decide) ⟨rfl, _, rfl, h⟩
  · have h := h.2 c1
    refine x_aload_n hC 0 rfl dX7_keepAlives_8 ?_
    have k2 : hK σ1 this = 8 := (hag1 this (by rw [k1]; decide)).1.trans k1
    refine x_getR (n0 := this) hC (ci := 7) (T := TX7) (N := 36) (C := RX7) 14 k2 rfl rfl (by decide) rfl q703 dX7_keepAlives_9 ?_
    refine x_iload_n hC 1 rfl dX7_keepAlives_12 ?_
    obtain ⟨m1, hm1, h⟩ := h
    rw [show rv ρ (hR σ1 this 14) = Value.ref (ρ m1) from by rw [hm1]; rfl]
    obtain ⟨k3, h⟩ := h
    obtain ⟨v2, h⟩ := h
    refine x_iald (a := m1) hC k3 v2 dX7_keepAlives_13 ?_
    refine x_goto (tgt := 18) hC dX7_keepAlives_14 (by decide) ?_
    exact x_iret hC hr dX7_keepAlives_18 (by decide) (by decide) ⟨rfl, _, rfl, h⟩
/-! PlantServer.waiting -/
theorem dX6_waiting_0 : decode cX6_waiting 0 = .ok (.aload_n 0, 1) := by decide +kernel
theorem dX6_waiting_1 : decode cX6_waiting 1 = .ok (.iload_n 1, 1) := by decide +kernel
theorem dX6_waiting_2 : decode cX6_waiting 2 = .ok (.invokevirtual 102, 3) := by decide +kernel
theorem dX6_waiting_5 : decode cX6_waiting 5 = .ok (.getfield 171, 3) := by decide +kernel
theorem dX6_waiting_8 : decode cX6_waiting 8 = .ok (.getfield 175, 3) := by decide +kernel
theorem dX6_waiting_11 : decode cX6_waiting 11 = .ok (.ireturn, 1) := by decide +kernel
abbrev rm6_waiting : Room := { frames := 7, cells := 1, slots := 6, locals := 112 }
theorem hd6_waiting : yX6_waiting.cls ≠ "java/lang/invoke/MethodHandle" ∧ yX6_waiting.cls ≠ "java/lang/invoke/VarHandle" ∧ (parseMethodDescriptor yX6_waiting.desc).map (fun d => d.parameters.length) = some 1 := by decide +kernel
set_option maxHeartbeats 4000000 in
set_option maxRecDepth 20000 in
theorem m6_waiting (l : Launch) (hl : l.stackTraces = false) (G : xG) (ρ : Nm → Nat) (this : Nm) (p1 : Int32) (σ : PH) (Q : Int32 → PH → Prop) (Xp : String → PH → Prop) (h : w6_waiting this p1 σ Q Xp) : xMet l yX6_waiting (.code yX6_waiting cX6_waiting 2 (some .int)) rm6_waiting G ρ σ [.ref (ρ this), .int p1] (eI ρ Q) Xp := by
  refine xMet.of hl (by decide +kernel) (Nat.le_of_ble_eq_true rfl) (fun X hC hr hn htab h0 => ?_)
  have hC : xC G X "PlantServer" cX6_waiting 2 rm6_waiting := hC
  unfold w6_waiting at h
  refine xJ.loc (L' := [(0, .ref (ρ this)), (1, .int p1)]) rfl ?_
  refine x_aload_n hC 0 rfl dX6_waiting_0 ?_
  refine x_iload_n hC 1 rfl dX6_waiting_1 ?_
  obtain ⟨k1, h⟩ := h
  refine x_callV (n0 := this) (as := [.int p1]) (rest := []) hC (ci := 6) (r := (RX6, TX6, 9)) k1 rfl (fun l hl => m6_liveItem l hl G ρ this p1 σ _ Xp h) q428 q430 s5 q1 q431 ⟨rfl, hd6_liveItem⟩ (by decide) ⟨(by decide), (by decide)⟩ (by first | exact Nat.le_of_ble_eq_true rfl | (simp [rv_cat]; done) | (simp (decide := true) [rv_cat, cat_ref, cat_int]; done)) rfl dX6_waiting_2 (fun E σ9 hx => x_out hC h0 htab (by decide) (by decide) hx) (fun v1 σ1 ρ1 hp1 hag1 => ?_)
  obtain ⟨e9, r1, e8, h⟩ := hp1
  rw [e8, e9]
  refine xJ.nrm (k' := 1) (n' := 6) (pc' := 5) (st' := [rv ρ r1]) rfl rfl rfl rfl ?_
  obtain ⟨m1, hm1, h⟩ := h
  rw [show rv ρ r1 = Value.ref (ρ m1) from by rw [hm1]; rfl]
  obtain ⟨k2, h⟩ := h
  refine x_getR (n0 := m1) hC (ci := 1) (T := TX1) (N := 12) (C := RX1) 5 k2 rfl rfl (by decide) rfl q359 dX6_waiting_5 ?_
  obtain ⟨m2, hm2, h⟩ := h
  rw [show rv ρ (hR σ1 m1 5) = Value.ref (ρ m2) from by rw [hm2]; rfl]
  obtain ⟨k3, h⟩ := h
  refine x_getI (n0 := m2) hC (ci := 3) (T := TX3) (N := 5) (C := RX3) 4 k3 rfl rfl (by decide) rfl q326 dX6_waiting_8 ?_
  exact x_iret hC hr dX6_waiting_11 (by decide) (by decide) ⟨rfl, _, rfl, h⟩
/-! PlantServerLaw.waiting -/
theorem dL_waiting_0 : decode cL_waiting 0 = .ok (.aload_n 2, 1) := by decide +kernel
theorem dL_waiting_1 : decode cL_waiting 1 = .ok (.iconst 0, 1) := by decide +kernel
theorem dL_waiting_2 : decode cL_waiting 2 = .ok (.aload_n 0, 1) := by decide +kernel
theorem dL_waiting_3 : decode cL_waiting 3 = .ok (.iload_n 1, 1) := by decide +kernel
theorem dL_waiting_4 : decode cL_waiting 4 = .ok (.invokevirtual 72, 3) := by decide +kernel
theorem dL_waiting_7 : decode cL_waiting 7 = .ok (.i2l, 1) := by decide +kernel
theorem dL_waiting_8 : decode cL_waiting 8 = .ok (.lastore, 1) := by decide +kernel
theorem dL_waiting_9 : decode cL_waiting 9 = .ok (.goto 6, 3) := by decide +kernel
theorem dL_waiting_12 : decode cL_waiting 12 = .ok (.astore_n 3, 1) := by decide +kernel
theorem dL_waiting_13 : decode cL_waiting 13 = .ok (.iconst 1, 1) := by decide +kernel
theorem dL_waiting_14 : decode cL_waiting 14 = .ok (.ireturn, 1) := by decide +kernel
theorem dL_waiting_15 : decode cL_waiting 15 = .ok (.iconst 0, 1) := by decide +kernel
theorem dL_waiting_16 : decode cL_waiting 16 = .ok (.ireturn, 1) := by decide +kernel
abbrev rmL_waiting : Room := { frames := 8, cells := 1, slots := 6, locals := 133 }
theorem hdL_waiting : yL_waiting.cls ≠ "java/lang/invoke/MethodHandle" ∧ yL_waiting.cls ≠ "java/lang/invoke/VarHandle" ∧ (parseMethodDescriptor yL_waiting.desc).map (fun d => d.parameters.length) = some 3 := by decide +kernel
set_option maxHeartbeats 4000000 in
set_option maxRecDepth 20000 in
theorem mL_waiting (l : Launch) (hl : l.stackTraces = false) (G : xG) (ρ : Nm → Nat) (a1 : Nm) (p2 : Int32) (a3 : Nm) (σ : PH) (Q : Int32 → PH → Prop) (h : wL_waiting a1 p2 a3 σ Q) : xMet l yL_waiting (.codeWith yL_waiting cL_waiting 4 (some .int) [(0, 9, 12, 13)]) rmL_waiting G ρ σ [.ref (ρ a1), .int p2, .ref (ρ a3)] (eI ρ Q) xNo := by
  refine xMet.ofW hl (by decide +kernel) (Nat.le_of_ble_eq_true rfl) (fun X hC hr hn htab h0 => ?_)
  have hC : xC G X "PlantServerLaw" cL_waiting 4 rmL_waiting := hC
  unfold wL_waiting at h
  refine xJ.loc (L' := [(0, .ref (ρ a1)), (1, .int p2), (2, .ref (ρ a3))]) rfl ?_
  refine x_aload_n hC 2 rfl dL_waiting_0 ?_
  refine x_iconst (v := 0) hC dL_waiting_1 (by decide) ?_
  refine x_aload_n hC 0 rfl dL_waiting_2 ?_
  refine x_iload_n hC 1 rfl dL_waiting_3 ?_
  obtain ⟨k1, h⟩ := h
  refine x_callV (n0 := a1) (as := [.int p2]) (rest := [.int 0, .ref (ρ a3)]) hC (ci := 6) (r := (RX6, TX6, 9)) k1 rfl (fun l hl => m6_waiting l hl G ρ a1 p2 σ _ _ h) q645 q646 q647 q1 q648 ⟨rfl, hd6_waiting⟩ (by decide) ⟨(by decide), (by decide)⟩ (by first | exact Nat.le_of_ble_eq_true rfl | (simp [rv_cat]; done) | (simp (decide := true) [rv_cat, cat_ref, cat_int]; done)) rfl dL_waiting_4 (fun E σ2 hx => ?_) (fun v1 σ1 ρ1 hp1 hag1 => ?_)
  · have hE9 := hx.2
    have he := hE9
    have h := hx.1 he
    subst he
    refine x_catch hC [] [] (0, 9, 12, 13) htab (by intro z hz; simp at hz) (by decide) (by decide) q89 xcast_xIO (fun qx1 => ?_)
    refine xJ.nrm (k' := 1) (n' := 6) (pc' := 12) (st' := [.ref qx1]) rfl rfl rfl rfl ?_
    refine x_astore_n (L' := [(3, .ref qx1), (0, .ref (ρ a1)), (1, .int p2), (2, .ref (ρ a3))]) hC dL_waiting_12 (by decide) (by first | rfl | simp (decide := true) [rv_cat, cat_ref, cat_int]) ?_
    refine x_iconst (v := 1) hC dL_waiting_13 (by decide) ?_
    exact x_iret hC hr dL_waiting_14 (by decide) (by decide) ⟨rfl, _, rfl, h⟩
  · obtain ⟨e9, r1, e8, h⟩ := hp1
    rw [e8, e9]
    refine xJ.nrm (k' := 1) (n' := 6) (pc' := 7) (st' := [.int r1, .int 0, .ref (ρ a3)]) rfl rfl rfl rfl ?_
    refine x_i2l hC dL_waiting_7 ?_
    obtain ⟨k2, h⟩ := h
    obtain ⟨v2, h⟩ := h
    refine x_last (a := a3) hC k2 v2 dL_waiting_8 ?_
    refine xJ.nmH (fun σ3 e1 => ?_)
    have h := h σ3 e1
    have r2 : hR σ3 = hR σ1 ∧ hL σ3 = hL σ1 := by rw [e1]; exact ⟨rfl, rfl⟩
    refine x_goto (tgt := 15) hC dL_waiting_9 (by decide) ?_
    refine x_iconst (v := 0) hC dL_waiting_15 (by decide) ?_
    exact x_iret hC hr dL_waiting_16 (by decide) (by decide) ⟨rfl, _, rfl, h⟩
/-! PlantServerModel.asksItem -/
theorem dX7_asksItem_0 : decode cX7_asksItem 0 = .ok (.aload_n 0, 1) := by decide +kernel
theorem dX7_asksItem_1 : decode cX7_asksItem 1 = .ok (.aload_n 0, 1) := by decide +kernel
theorem dX7_asksItem_2 : decode cX7_asksItem 2 = .ok (.iload_n 1, 1) := by decide +kernel
theorem dX7_asksItem_3 : decode cX7_asksItem 3 = .ok (.invokevirtual 132, 3) := by decide +kernel
theorem dX7_asksItem_6 : decode cX7_asksItem 6 = .ok (.ifCond .eq 7, 3) := by decide +kernel
theorem dX7_asksItem_9 : decode cX7_asksItem 9 = .ok (.iconst 0, 1) := by decide +kernel
theorem dX7_asksItem_10 : decode cX7_asksItem 10 = .ok (.goto 4, 3) := by decide +kernel
theorem dX7_asksItem_13 : decode cX7_asksItem 13 = .ok (.iconst 1, 1) := by decide +kernel
theorem dX7_asksItem_14 : decode cX7_asksItem 14 = .ok (.putfield 104, 3) := by decide +kernel
theorem dX7_asksItem_17 : decode cX7_asksItem 17 = .ok (.aload_n 0, 1) := by decide +kernel
theorem dX7_asksItem_18 : decode cX7_asksItem 18 = .ok (.getfield 104, 3) := by decide +kernel
theorem dX7_asksItem_21 : decode cX7_asksItem 21 = .ok (.ifCond .ne 7, 3) := by decide +kernel
theorem dX7_asksItem_24 : decode cX7_asksItem 24 = .ok (.iconst 1, 1) := by decide +kernel
theorem dX7_asksItem_25 : decode cX7_asksItem 25 = .ok (.goto 4, 3) := by decide +kernel
theorem dX7_asksItem_28 : decode cX7_asksItem 28 = .ok (.iconst 0, 1) := by decide +kernel
theorem dX7_asksItem_29 : decode cX7_asksItem 29 = .ok (.ireturn, 1) := by decide +kernel
abbrev rm7_asksItem : Room := { frames := 2, cells := 0, slots := 0, locals := 43 }
theorem hd7_asksItem : yX7_asksItem.cls ≠ "java/lang/invoke/MethodHandle" ∧ yX7_asksItem.cls ≠ "java/lang/invoke/VarHandle" ∧ (parseMethodDescriptor yX7_asksItem.desc).map (fun d => d.parameters.length) = some 1 := by decide +kernel
set_option maxHeartbeats 4000000 in
set_option maxRecDepth 20000 in
theorem m7_asksItem (l : Launch) (hl : l.stackTraces = false) (G : xG) (ρ : Nm → Nat) (this : Nm) (p1 : Int32) (σ : PH) (Q : Int32 → PH → Prop) (h : w7_asksItem this p1 σ Q) : xMet l yX7_asksItem (.code yX7_asksItem cX7_asksItem 2 (some .boolean)) rm7_asksItem G ρ σ [.ref (ρ this), .int p1] (eI ρ Q) xNo := by
  refine xMet.of hl (by decide +kernel) (Nat.le_of_ble_eq_true rfl) (fun X hC hr hn htab h0 => ?_)
  have hC : xC G X "PlantServerModel" cX7_asksItem 2 rm7_asksItem := hC
  unfold w7_asksItem at h
  refine xJ.loc (L' := [(0, .ref (ρ this)), (1, .int p1)]) rfl ?_
  refine x_aload_n hC 0 rfl dX7_asksItem_0 ?_
  refine x_aload_n hC 0 rfl dX7_asksItem_1 ?_
  refine x_iload_n hC 1 rfl dX7_asksItem_2 ?_
  obtain ⟨k1, h⟩ := h
  refine x_callV (n0 := this) (as := [.int p1]) (rest := [.ref (ρ this)]) hC (ci := 7) (r := (RX7, TX7, 36)) k1 rfl (fun l hl => m7_isItem l hl G ρ this p1 σ _ h) q844 q846 s18 q3 q847 ⟨rfl, hd7_isItem⟩ (by decide) ⟨(by decide), (by decide)⟩ (by first | exact Nat.le_of_ble_eq_true rfl | (simp [rv_cat]; done) | (simp (decide := true) [rv_cat, cat_ref, cat_int]; done)) rfl dX7_asksItem_3 (fun E σ9 hx => False.elim hx) (fun v1 σ1 ρ1 hp1 hag1 => ?_)
  obtain ⟨e9, r1, e8, h⟩ := hp1
  rw [e8, e9]
  refine xJ.nrm (k' := 0) (n' := 0) (pc' := 6) (st' := [.int r1, .ref (ρ this)]) rfl rfl rfl rfl ?_
  refine x_if_eq (tgt := 13) hC dX7_asksItem_6 (by decide) (fun c1 => ?_) (fun c1 => ?_)
  · have h := h.1 c1
    refine x_iconst (v := 1) hC dX7_asksItem_13 (by decide) ?_
    have k2 : hK σ1 this = 8 := (hag1 this (by rw [k1]; decide)).1.trans k1
    refine x_putI (n0 := this) hC (ci := 7) (T := TX7) (N := 36) (C := RX7) 0 k2 rfl rfl (by decide) rfl q689 rfl (tyX7_ok 0 (by decide)) dX7_asksItem_14 ?_
    refine xJ.nmH (fun σ2 e1 => ?_)
    have h := h σ2 e1
    have r2 : hR σ2 = hR σ1 ∧ hL σ2 = hL σ1 := by rw [e1]; exact ⟨rfl, rfl⟩
    refine x_aload_n hC 0 rfl dX7_asksItem_17 ?_
    have k3 : hK σ2 this = 8 := by rw [e1]; exact k2
    refine x_getI (n0 := this) hC (ci := 7) (T := TX7) (N := 36) (C := RX7) 0 k3 rfl rfl (by decide) rfl q689 dX7_asksItem_18 ?_
    refine x_if_ne (tgt := 28) hC dX7_asksItem_21 (by decide) (fun c2 => ?_) (fun c2 => ?_)
    · have h := h.1 c2
      refine x_iconst (v := 0) hC dX7_asksItem_28 (by decide) ?_
      exact x_zret hC hr zb0 dX7_asksItem_29 (by decide) (by decide) ⟨rfl, _, rfl, h⟩
    · have h := h.2 c2
      refine x_iconst (v := 1) hC dX7_asksItem_24 (by decide) ?_
      refine x_goto (tgt := 29) hC dX7_asksItem_25 (by decide) ?_
      exact x_zret hC hr zb1 dX7_asksItem_29 (by decide) (by decide) ⟨rfl, _, rfl, h⟩
  · have h := h.2 c1
    refine x_iconst (v := 0) hC dX7_asksItem_9 (by decide) ?_
    refine x_goto (tgt := 14) hC dX7_asksItem_10 (by decide) ?_
    have k4 : hK σ1 this = 8 := (hag1 this (by rw [k1]; decide)).1.trans k1
    refine x_putI (n0 := this) hC (ci := 7) (T := TX7) (N := 36) (C := RX7) 0 k4 rfl rfl (by decide) rfl q689 rfl (tyX7_ok 0 (by decide)) dX7_asksItem_14 ?_
    refine xJ.nmH (fun σ3 e2 => ?_)
    have h := h σ3 e2
    have r3 : hR σ3 = hR σ1 ∧ hL σ3 = hL σ1 := by rw [e2]; exact ⟨rfl, rfl⟩
    refine x_aload_n hC 0 rfl dX7_asksItem_17 ?_
    have k5 : hK σ3 this = 8 := by rw [e2]; exact k4
    refine x_getI (n0 := this) hC (ci := 7) (T := TX7) (N := 36) (C := RX7) 0 k5 rfl rfl (by decide) rfl q689 dX7_asksItem_18 ?_
    refine x_if_ne (tgt := 28) hC dX7_asksItem_21 (by decide) (fun c3 => ?_) (fun c3 => ?_)
    · have h := h.1 c3
      refine x_iconst (v := 0) hC dX7_asksItem_28 (by decide) ?_
      exact x_zret hC hr zb0 dX7_asksItem_29 (by decide) (by decide) ⟨rfl, _, rfl, h⟩
    · have h := h.2 c3
      refine x_iconst (v := 1) hC dX7_asksItem_24 (by decide) ?_
      refine x_goto (tgt := 29) hC dX7_asksItem_25 (by decide) ?_
      exact x_zret hC hr zb1 dX7_asksItem_29 (by decide) (by decide) ⟨rfl, _, rfl, h⟩
/-! PlantServerModel.waiting -/
theorem dX7_waiting_0 : decode cX7_waiting 0 = .ok (.aload_n 0, 1) := by decide +kernel
theorem dX7_waiting_1 : decode cX7_waiting 1 = .ok (.iload_n 1, 1) := by decide +kernel
theorem dX7_waiting_2 : decode cX7_waiting 2 = .ok (.invokevirtual 181, 3) := by decide +kernel
theorem dX7_waiting_5 : decode cX7_waiting 5 = .ok (.ifCond .eq 12, 3) := by decide +kernel
theorem dX7_waiting_8 : decode cX7_waiting 8 = .ok (.aload_n 0, 1) := by decide +kernel
theorem dX7_waiting_9 : decode cX7_waiting 9 = .ok (.getfield 80, 3) := by decide +kernel
theorem dX7_waiting_12 : decode cX7_waiting 12 = .ok (.iload_n 1, 1) := by decide +kernel
theorem dX7_waiting_13 : decode cX7_waiting 13 = .ok (.iaload, 1) := by decide +kernel
theorem dX7_waiting_14 : decode cX7_waiting 14 = .ok (.goto 4, 3) := by decide +kernel
theorem dX7_waiting_17 : decode cX7_waiting 17 = .ok (.iconst 0, 1) := by decide +kernel
theorem dX7_waiting_18 : decode cX7_waiting 18 = .ok (.ireturn, 1) := by decide +kernel
abbrev rm7_waiting : Room := { frames := 3, cells := 0, slots := 0, locals := 64 }
theorem hd7_waiting : yX7_waiting.cls ≠ "java/lang/invoke/MethodHandle" ∧ yX7_waiting.cls ≠ "java/lang/invoke/VarHandle" ∧ (parseMethodDescriptor yX7_waiting.desc).map (fun d => d.parameters.length) = some 1 := by decide +kernel
set_option maxHeartbeats 4000000 in
set_option maxRecDepth 20000 in
theorem m7_waiting (l : Launch) (hl : l.stackTraces = false) (G : xG) (ρ : Nm → Nat) (this : Nm) (p1 : Int32) (σ : PH) (Q : Int32 → PH → Prop) (h : w7_waiting this p1 σ Q) : xMet l yX7_waiting (.code yX7_waiting cX7_waiting 2 (some .int)) rm7_waiting G ρ σ [.ref (ρ this), .int p1] (eI ρ Q) xNo := by
  refine xMet.of hl (by decide +kernel) (Nat.le_of_ble_eq_true rfl) (fun X hC hr hn htab h0 => ?_)
  have hC : xC G X "PlantServerModel" cX7_waiting 2 rm7_waiting := hC
  unfold w7_waiting at h
  refine xJ.loc (L' := [(0, .ref (ρ this)), (1, .int p1)]) rfl ?_
  refine x_aload_n hC 0 rfl dX7_waiting_0 ?_
  refine x_iload_n hC 1 rfl dX7_waiting_1 ?_
  obtain ⟨k1, h⟩ := h
  refine x_callV (n0 := this) (as := [.int p1]) (rest := []) hC (ci := 7) (r := (RX7, TX7, 36)) k1 rfl (fun l hl => m7_asksItem l hl G ρ this p1 σ _ h) q940 q942 s29 q3 q943 ⟨rfl, hd7_asksItem⟩ (by decide) ⟨(by decide), (by decide)⟩ (by first | exact Nat.le_of_ble_eq_true rfl | (simp [rv_cat]; done) | (simp (decide := true) [rv_cat, cat_ref, cat_int]; done)) rfl dX7_waiting_2 (fun E σ9 hx => False.elim hx) (fun v1 σ1 ρ1 hp1 hag1 => ?_)
  obtain ⟨e9, r1, e8, h⟩ := hp1
  rw [e8, e9]
  refine xJ.nrm (k' := 0) (n' := 0) (pc' := 5) (st' := [.int r1]) rfl rfl rfl rfl ?_
  refine x_if_eq (tgt := 17) hC dX7_waiting_5 (by decide) (fun c1 => ?_) (fun c1 => ?_)
  · have h := h.1 c1
    refine x_iconst (v := 0) hC dX7_waiting_17 (by decide) ?_
    exact x_iret hC hr dX7_waiting_18 (by decide) (by decide) ⟨rfl, _, rfl, h⟩
  · have h := h.2 c1
    refine x_aload_n hC 0 rfl dX7_waiting_8 ?_
    have k2 : hK σ1 this = 8 := (hag1 this (by rw [k1]; decide)).1.trans k1
    refine x_getR (n0 := this) hC (ci := 7) (T := TX7) (N := 36) (C := RX7) 27 k2 rfl rfl (by decide) rfl q716 dX7_waiting_9 ?_
    refine x_iload_n hC 1 rfl dX7_waiting_12 ?_
    obtain ⟨m1, hm1, h⟩ := h
    rw [show rv ρ (hR σ1 this 27) = Value.ref (ρ m1) from by rw [hm1]; rfl]
    obtain ⟨k3, h⟩ := h
    obtain ⟨v2, h⟩ := h
    refine x_iald (a := m1) hC k3 v2 dX7_waiting_13 ?_
    refine x_goto (tgt := 18) hC dX7_waiting_14 (by decide) ?_
    exact x_iret hC hr dX7_waiting_18 (by decide) (by decide) ⟨rfl, _, rfl, h⟩
/-! PlantServer.queued -/
theorem dX6_queued_0 : decode cX6_queued 0 = .ok (.aload_n 0, 1) := by decide +kernel
theorem dX6_queued_1 : decode cX6_queued 1 = .ok (.iload_n 1, 1) := by decide +kernel
theorem dX6_queued_2 : decode cX6_queued 2 = .ok (.invokevirtual 102, 3) := by decide +kernel
theorem dX6_queued_5 : decode cX6_queued 5 = .ok (.getfield 176, 3) := by decide +kernel
theorem dX6_queued_8 : decode cX6_queued 8 = .ok (.ireturn, 1) := by decide +kernel
abbrev rm6_queued : Room := { frames := 7, cells := 1, slots := 6, locals := 112 }
theorem hd6_queued : yX6_queued.cls ≠ "java/lang/invoke/MethodHandle" ∧ yX6_queued.cls ≠ "java/lang/invoke/VarHandle" ∧ (parseMethodDescriptor yX6_queued.desc).map (fun d => d.parameters.length) = some 1 := by decide +kernel
set_option maxHeartbeats 4000000 in
set_option maxRecDepth 20000 in
theorem m6_queued (l : Launch) (hl : l.stackTraces = false) (G : xG) (ρ : Nm → Nat) (this : Nm) (p1 : Int32) (σ : PH) (Q : Int32 → PH → Prop) (Xp : String → PH → Prop) (h : w6_queued this p1 σ Q Xp) : xMet l yX6_queued (.code yX6_queued cX6_queued 2 (some .int)) rm6_queued G ρ σ [.ref (ρ this), .int p1] (eI ρ Q) Xp := by
  refine xMet.of hl (by decide +kernel) (Nat.le_of_ble_eq_true rfl) (fun X hC hr hn htab h0 => ?_)
  have hC : xC G X "PlantServer" cX6_queued 2 rm6_queued := hC
  unfold w6_queued at h
  refine xJ.loc (L' := [(0, .ref (ρ this)), (1, .int p1)]) rfl ?_
  refine x_aload_n hC 0 rfl dX6_queued_0 ?_
  refine x_iload_n hC 1 rfl dX6_queued_1 ?_
  obtain ⟨k1, h⟩ := h
  refine x_callV (n0 := this) (as := [.int p1]) (rest := []) hC (ci := 6) (r := (RX6, TX6, 9)) k1 rfl (fun l hl => m6_liveItem l hl G ρ this p1 σ _ Xp h) q428 q430 s5 q1 q431 ⟨rfl, hd6_liveItem⟩ (by decide) ⟨(by decide), (by decide)⟩ (by first | exact Nat.le_of_ble_eq_true rfl | (simp [rv_cat]; done) | (simp (decide := true) [rv_cat, cat_ref, cat_int]; done)) rfl dX6_queued_2 (fun E σ9 hx => x_out hC h0 htab (by decide) (by decide) hx) (fun v1 σ1 ρ1 hp1 hag1 => ?_)
  obtain ⟨e9, r1, e8, h⟩ := hp1
  rw [e8, e9]
  refine xJ.nrm (k' := 1) (n' := 6) (pc' := 5) (st' := [rv ρ r1]) rfl rfl rfl rfl ?_
  obtain ⟨m1, hm1, h⟩ := h
  rw [show rv ρ r1 = Value.ref (ρ m1) from by rw [hm1]; rfl]
  obtain ⟨k2, h⟩ := h
  refine x_getI (n0 := m1) hC (ci := 1) (T := TX1) (N := 12) (C := RX1) 8 k2 rfl rfl (by decide) rfl q366 dX6_queued_5 ?_
  exact x_iret hC hr dX6_queued_8 (by decide) (by decide) ⟨rfl, _, rfl, h⟩
/-! PlantServerLaw.queued -/
theorem dL_queued_0 : decode cL_queued 0 = .ok (.aload_n 2, 1) := by decide +kernel
theorem dL_queued_1 : decode cL_queued 1 = .ok (.iconst 0, 1) := by decide +kernel
theorem dL_queued_2 : decode cL_queued 2 = .ok (.aload_n 0, 1) := by decide +kernel
theorem dL_queued_3 : decode cL_queued 3 = .ok (.iload_n 1, 1) := by decide +kernel
theorem dL_queued_4 : decode cL_queued 4 = .ok (.invokevirtual 75, 3) := by decide +kernel
theorem dL_queued_7 : decode cL_queued 7 = .ok (.i2l, 1) := by decide +kernel
theorem dL_queued_8 : decode cL_queued 8 = .ok (.lastore, 1) := by decide +kernel
theorem dL_queued_9 : decode cL_queued 9 = .ok (.goto 6, 3) := by decide +kernel
theorem dL_queued_12 : decode cL_queued 12 = .ok (.astore_n 3, 1) := by decide +kernel
theorem dL_queued_13 : decode cL_queued 13 = .ok (.iconst 1, 1) := by decide +kernel
theorem dL_queued_14 : decode cL_queued 14 = .ok (.ireturn, 1) := by decide +kernel
theorem dL_queued_15 : decode cL_queued 15 = .ok (.iconst 0, 1) := by decide +kernel
theorem dL_queued_16 : decode cL_queued 16 = .ok (.ireturn, 1) := by decide +kernel
abbrev rmL_queued : Room := { frames := 8, cells := 1, slots := 6, locals := 133 }
theorem hdL_queued : yL_queued.cls ≠ "java/lang/invoke/MethodHandle" ∧ yL_queued.cls ≠ "java/lang/invoke/VarHandle" ∧ (parseMethodDescriptor yL_queued.desc).map (fun d => d.parameters.length) = some 3 := by decide +kernel
set_option maxHeartbeats 4000000 in
set_option maxRecDepth 20000 in
theorem mL_queued (l : Launch) (hl : l.stackTraces = false) (G : xG) (ρ : Nm → Nat) (a1 : Nm) (p2 : Int32) (a3 : Nm) (σ : PH) (Q : Int32 → PH → Prop) (h : wL_queued a1 p2 a3 σ Q) : xMet l yL_queued (.codeWith yL_queued cL_queued 4 (some .int) [(0, 9, 12, 13)]) rmL_queued G ρ σ [.ref (ρ a1), .int p2, .ref (ρ a3)] (eI ρ Q) xNo := by
  refine xMet.ofW hl (by decide +kernel) (Nat.le_of_ble_eq_true rfl) (fun X hC hr hn htab h0 => ?_)
  have hC : xC G X "PlantServerLaw" cL_queued 4 rmL_queued := hC
  unfold wL_queued at h
  refine xJ.loc (L' := [(0, .ref (ρ a1)), (1, .int p2), (2, .ref (ρ a3))]) rfl ?_
  refine x_aload_n hC 2 rfl dL_queued_0 ?_
  refine x_iconst (v := 0) hC dL_queued_1 (by decide) ?_
  refine x_aload_n hC 0 rfl dL_queued_2 ?_
  refine x_iload_n hC 1 rfl dL_queued_3 ?_
  obtain ⟨k1, h⟩ := h
  refine x_callV (n0 := a1) (as := [.int p2]) (rest := [.int 0, .ref (ρ a3)]) hC (ci := 6) (r := (RX6, TX6, 9)) k1 rfl (fun l hl => m6_queued l hl G ρ a1 p2 σ _ _ h) q652 q653 q654 q1 q655 ⟨rfl, hd6_queued⟩ (by decide) ⟨(by decide), (by decide)⟩ (by first | exact Nat.le_of_ble_eq_true rfl | (simp [rv_cat]; done) | (simp (decide := true) [rv_cat, cat_ref, cat_int]; done)) rfl dL_queued_4 (fun E σ2 hx => ?_) (fun v1 σ1 ρ1 hp1 hag1 => ?_)
  · have hE9 := hx.2
    have he := hE9
    have h := hx.1 he
    subst he
    refine x_catch hC [] [] (0, 9, 12, 13) htab (by intro z hz; simp at hz) (by decide) (by decide) q89 xcast_xIO (fun qx1 => ?_)
    refine xJ.nrm (k' := 1) (n' := 6) (pc' := 12) (st' := [.ref qx1]) rfl rfl rfl rfl ?_
    refine x_astore_n (L' := [(3, .ref qx1), (0, .ref (ρ a1)), (1, .int p2), (2, .ref (ρ a3))]) hC dL_queued_12 (by decide) (by first | rfl | simp (decide := true) [rv_cat, cat_ref, cat_int]) ?_
    refine x_iconst (v := 1) hC dL_queued_13 (by decide) ?_
    exact x_iret hC hr dL_queued_14 (by decide) (by decide) ⟨rfl, _, rfl, h⟩
  · obtain ⟨e9, r1, e8, h⟩ := hp1
    rw [e8, e9]
    refine xJ.nrm (k' := 1) (n' := 6) (pc' := 7) (st' := [.int r1, .int 0, .ref (ρ a3)]) rfl rfl rfl rfl ?_
    refine x_i2l hC dL_queued_7 ?_
    obtain ⟨k2, h⟩ := h
    obtain ⟨v2, h⟩ := h
    refine x_last (a := a3) hC k2 v2 dL_queued_8 ?_
    refine xJ.nmH (fun σ3 e1 => ?_)
    have h := h σ3 e1
    have r2 : hR σ3 = hR σ1 ∧ hL σ3 = hL σ1 := by rw [e1]; exact ⟨rfl, rfl⟩
    refine x_goto (tgt := 15) hC dL_queued_9 (by decide) ?_
    refine x_iconst (v := 0) hC dL_queued_15 (by decide) ?_
    exact x_iret hC hr dL_queued_16 (by decide) (by decide) ⟨rfl, _, rfl, h⟩
/-! PlantServerModel.queued -/
theorem dX7_queued_0 : decode cX7_queued 0 = .ok (.aload_n 0, 1) := by decide +kernel
theorem dX7_queued_1 : decode cX7_queued 1 = .ok (.iload_n 1, 1) := by decide +kernel
theorem dX7_queued_2 : decode cX7_queued 2 = .ok (.invokevirtual 181, 3) := by decide +kernel
theorem dX7_queued_5 : decode cX7_queued 5 = .ok (.ifCond .eq 12, 3) := by decide +kernel
theorem dX7_queued_8 : decode cX7_queued 8 = .ok (.aload_n 0, 1) := by decide +kernel
theorem dX7_queued_9 : decode cX7_queued 9 = .ok (.getfield 77, 3) := by decide +kernel
theorem dX7_queued_12 : decode cX7_queued 12 = .ok (.iload_n 1, 1) := by decide +kernel
theorem dX7_queued_13 : decode cX7_queued 13 = .ok (.iaload, 1) := by decide +kernel
theorem dX7_queued_14 : decode cX7_queued 14 = .ok (.goto 4, 3) := by decide +kernel
theorem dX7_queued_17 : decode cX7_queued 17 = .ok (.iconst 0, 1) := by decide +kernel
theorem dX7_queued_18 : decode cX7_queued 18 = .ok (.ireturn, 1) := by decide +kernel
abbrev rm7_queued : Room := { frames := 3, cells := 0, slots := 0, locals := 64 }
theorem hd7_queued : yX7_queued.cls ≠ "java/lang/invoke/MethodHandle" ∧ yX7_queued.cls ≠ "java/lang/invoke/VarHandle" ∧ (parseMethodDescriptor yX7_queued.desc).map (fun d => d.parameters.length) = some 1 := by decide +kernel
set_option maxHeartbeats 4000000 in
set_option maxRecDepth 20000 in
theorem m7_queued (l : Launch) (hl : l.stackTraces = false) (G : xG) (ρ : Nm → Nat) (this : Nm) (p1 : Int32) (σ : PH) (Q : Int32 → PH → Prop) (h : w7_queued this p1 σ Q) : xMet l yX7_queued (.code yX7_queued cX7_queued 2 (some .int)) rm7_queued G ρ σ [.ref (ρ this), .int p1] (eI ρ Q) xNo := by
  refine xMet.of hl (by decide +kernel) (Nat.le_of_ble_eq_true rfl) (fun X hC hr hn htab h0 => ?_)
  have hC : xC G X "PlantServerModel" cX7_queued 2 rm7_queued := hC
  unfold w7_queued at h
  refine xJ.loc (L' := [(0, .ref (ρ this)), (1, .int p1)]) rfl ?_
  refine x_aload_n hC 0 rfl dX7_queued_0 ?_
  refine x_iload_n hC 1 rfl dX7_queued_1 ?_
  obtain ⟨k1, h⟩ := h
  refine x_callV (n0 := this) (as := [.int p1]) (rest := []) hC (ci := 7) (r := (RX7, TX7, 36)) k1 rfl (fun l hl => m7_asksItem l hl G ρ this p1 σ _ h) q940 q942 s29 q3 q943 ⟨rfl, hd7_asksItem⟩ (by decide) ⟨(by decide), (by decide)⟩ (by first | exact Nat.le_of_ble_eq_true rfl | (simp [rv_cat]; done) | (simp (decide := true) [rv_cat, cat_ref, cat_int]; done)) rfl dX7_queued_2 (fun E σ9 hx => False.elim hx) (fun v1 σ1 ρ1 hp1 hag1 => ?_)
  obtain ⟨e9, r1, e8, h⟩ := hp1
  rw [e8, e9]
  refine xJ.nrm (k' := 0) (n' := 0) (pc' := 5) (st' := [.int r1]) rfl rfl rfl rfl ?_
  refine x_if_eq (tgt := 17) hC dX7_queued_5 (by decide) (fun c1 => ?_) (fun c1 => ?_)
  · have h := h.1 c1
    refine x_iconst (v := 0) hC dX7_queued_17 (by decide) ?_
    exact x_iret hC hr dX7_queued_18 (by decide) (by decide) ⟨rfl, _, rfl, h⟩
  · have h := h.2 c1
    refine x_aload_n hC 0 rfl dX7_queued_8 ?_
    have k2 : hK σ1 this = 8 := (hag1 this (by rw [k1]; decide)).1.trans k1
    refine x_getR (n0 := this) hC (ci := 7) (T := TX7) (N := 36) (C := RX7) 26 k2 rfl rfl (by decide) rfl q715 dX7_queued_9 ?_
    refine x_iload_n hC 1 rfl dX7_queued_12 ?_
    obtain ⟨m1, hm1, h⟩ := h
    rw [show rv ρ (hR σ1 this 26) = Value.ref (ρ m1) from by rw [hm1]; rfl]
    obtain ⟨k3, h⟩ := h
    obtain ⟨v2, h⟩ := h
    refine x_iald (a := m1) hC k3 v2 dX7_queued_13 ?_
    refine x_goto (tgt := 18) hC dX7_queued_14 (by decide) ?_
    exact x_iret hC hr dX7_queued_18 (by decide) (by decide) ⟨rfl, _, rfl, h⟩
/-! PlantServer$History.valueBefore -/
theorem dX0_valueBefore_0 : decode cX0_valueBefore 0 = .ok (.iload_n 1, 1) := by decide +kernel
theorem dX0_valueBefore_1 : decode cX0_valueBefore 1 = .ok (.iconst 1, 1) := by decide +kernel
theorem dX0_valueBefore_2 : decode cX0_valueBefore 2 = .ok (.isub, 1) := by decide +kernel
theorem dX0_valueBefore_3 : decode cX0_valueBefore 3 = .ok (.istore_n 3, 1) := by decide +kernel
theorem dX0_valueBefore_4 : decode cX0_valueBefore 4 = .ok (.iload_n 3, 1) := by decide +kernel
theorem dX0_valueBefore_5 : decode cX0_valueBefore 5 = .ok (.ifCond .lt 26, 3) := by decide +kernel
theorem dX0_valueBefore_8 : decode cX0_valueBefore 8 = .ok (.aload_n 0, 1) := by decide +kernel
theorem dX0_valueBefore_9 : decode cX0_valueBefore 9 = .ok (.getfield 15, 3) := by decide +kernel
theorem dX0_valueBefore_12 : decode cX0_valueBefore 12 = .ok (.iload_n 3, 1) := by decide +kernel
theorem dX0_valueBefore_13 : decode cX0_valueBefore 13 = .ok (.iaload, 1) := by decide +kernel
theorem dX0_valueBefore_14 : decode cX0_valueBefore 14 = .ok (.iload_n 2, 1) := by decide +kernel
theorem dX0_valueBefore_15 : decode cX0_valueBefore 15 = .ok (.if_icmp .ne 10, 3) := by decide +kernel
theorem dX0_valueBefore_18 : decode cX0_valueBefore 18 = .ok (.aload_n 0, 1) := by decide +kernel
theorem dX0_valueBefore_19 : decode cX0_valueBefore 19 = .ok (.getfield 18, 3) := by decide +kernel
theorem dX0_valueBefore_22 : decode cX0_valueBefore 22 = .ok (.iload_n 3, 1) := by decide +kernel
theorem dX0_valueBefore_23 : decode cX0_valueBefore 23 = .ok (.iaload, 1) := by decide +kernel
theorem dX0_valueBefore_24 : decode cX0_valueBefore 24 = .ok (.ireturn, 1) := by decide +kernel
theorem dX0_valueBefore_25 : decode cX0_valueBefore 25 = .ok (.iinc 3 (-1), 3) := by decide +kernel
theorem dX0_valueBefore_28 : decode cX0_valueBefore 28 = .ok (.goto (-24), 3) := by decide +kernel
theorem dX0_valueBefore_31 : decode cX0_valueBefore 31 = .ok (.iconst 0, 1) := by decide +kernel
theorem dX0_valueBefore_32 : decode cX0_valueBefore 32 = .ok (.ireturn, 1) := by decide +kernel
abbrev rm0_valueBefore : Room := { frames := 0, cells := 0, slots := 0, locals := 0 }
theorem hd0_valueBefore : yX0_valueBefore.cls ≠ "java/lang/invoke/MethodHandle" ∧ yX0_valueBefore.cls ≠ "java/lang/invoke/VarHandle" ∧ (parseMethodDescriptor yX0_valueBefore.desc).map (fun d => d.parameters.length) = some 2 := by decide +kernel
set_option maxHeartbeats 4000000 in
set_option maxRecDepth 20000 in
theorem ml0_valueBefore_4 {G : xG} {X : xX} (hC : xC G X "PlantServer$History" cX0_valueBefore 4 rm0_valueBefore) (hr : xRt X (some .int)) (htab : xTab X []) (this : Nm) (p1 : Int32) (p2 : Int32) {ρ : Nm → Nat} (h0 : xR0 X ρ) (k n : Nat) (hk1 : k ≤ 0) (hk2 : n ≤ 0) (K : Int32 → PH → Prop) (Q : Int32 → PH → Prop) (Xp : String → PH → Prop) : ∀ (f4 : Nat) (x4_3 : Int32) (τ4 : PH), l0_valueBefore_4 this p1 p2 K Q f4 x4_3 τ4 → (∀ (x4_3 : Int32) (τ4 : PH), K x4_3 τ4 → xJ G X (xT X (eI ρ Q) Xp G rm0_valueBefore) 4 ρ τ4 k n 31 [(0, .ref (ρ this)), (2, .int p2), (3, .int x4_3)] []) → xJ G X (xT X (eI ρ Q) Xp G rm0_valueBefore) 4 ρ τ4 k n 4 [(0, .ref (ρ this)), (2, .int p2), (3, .int x4_3)] [] := by
  intro f4
  induction f4 with
  | zero => intro x4_3 τ4 h hKK; unfold l0_valueBefore_4 at h; exact h.elim
  | succ f4 ih =>
    intro x4_3 τ4 h hKK
    unfold l0_valueBefore_4 at h
    refine x_iload_n hC 2 rfl dX0_valueBefore_4 ?_
    refine x_if_lt (tgt := 31) hC dX0_valueBefore_5 (by decide) (fun c1 => ?_) (fun c1 => ?_)
    · have h := h.1 c1
      exact hKK _ _ h
    · have h := h.2 c1
      refine x_aload_n hC 0 rfl dX0_valueBefore_8 ?_
      obtain ⟨k1, h⟩ := h
      refine x_getR (n0 := this) hC (ci := 0) (T := TX0) (N := 4) (C := RX0) 1 k1 rfl rfl (by decide) rfl q36 dX0_valueBefore_9 ?_
      refine x_iload_n hC 2 rfl dX0_valueBefore_12 ?_
      obtain ⟨m1, hm1, h⟩ := h
      rw [show rv ρ (hR τ4 this 1) = Value.ref (ρ m1) from by rw [hm1]; rfl]
      obtain ⟨k2, h⟩ := h
      obtain ⟨v1, h⟩ := h
      refine x_iald (a := m1) hC k2 v1 dX0_valueBefore_13 ?_
      refine x_iload_n hC 1 rfl dX0_valueBefore_14 ?_
      refine x_icmp_ne (tgt := 25) hC dX0_valueBefore_15 (by decide) (fun c2 => ?_) (fun c2 => ?_)
      · have h := h.1 c2
        refine x_iinc (v' := x4_3 + (-1)) (L' := [(3, .int (x4_3 + (-1))), (0, .ref (ρ this)), (2, .int p2)]) hC 2 rfl dX0_valueBefore_25 rfl (by decide) (by first | rfl | simp (decide := true) [rv_cat, cat_ref, cat_int]) ?_
        refine x_goto (tgt := 4) hC dX0_valueBefore_28 (by decide) ?_
        refine xJ.sub (L' := [(0, .ref (ρ this)), (2, .int p2), (3, .int (x4_3 + (-1)))]) [1, 2, 0] rfl ?_
        exact ih _ _ h hKK
      · have h := h.2 c2
        refine x_aload_n hC 0 rfl dX0_valueBefore_18 ?_
        refine x_getR (n0 := this) hC (ci := 0) (T := TX0) (N := 4) (C := RX0) 2 k1 rfl rfl (by decide) rfl q37 dX0_valueBefore_19 ?_
        refine x_iload_n hC 2 rfl dX0_valueBefore_22 ?_
        obtain ⟨m2, hm2, h⟩ := h
        rw [show rv ρ (hR τ4 this 2) = Value.ref (ρ m2) from by rw [hm2]; rfl]
        obtain ⟨k3, h⟩ := h
        obtain ⟨v2, h⟩ := h
        refine x_iald (a := m2) hC k3 v2 dX0_valueBefore_23 ?_
        exact x_iret hC hr dX0_valueBefore_24 (show _ ≤ 0 by omega) (show _ ≤ 0 by omega) ⟨rfl, _, rfl, h⟩
set_option maxHeartbeats 4000000 in
set_option maxRecDepth 20000 in
theorem m0_valueBefore (l : Launch) (hl : l.stackTraces = false) (G : xG) (ρ : Nm → Nat) (this : Nm) (p1 : Int32) (p2 : Int32) (σ : PH) (Q : Int32 → PH → Prop) (h : w0_valueBefore this p1 p2 σ Q) : xMet l yX0_valueBefore (.code yX0_valueBefore cX0_valueBefore 4 (some .int)) rm0_valueBefore G ρ σ [.ref (ρ this), .int p1, .int p2] (eI ρ Q) xNo := by
  refine xMet.of hl (by decide +kernel) (Nat.le_of_ble_eq_true rfl) (fun X hC hr hn htab h0 => ?_)
  have hC : xC G X "PlantServer$History" cX0_valueBefore 4 rm0_valueBefore := hC
  unfold w0_valueBefore at h
  refine xJ.loc (L' := [(0, .ref (ρ this)), (1, .int p1), (2, .int p2)]) rfl ?_
  refine x_iload_n hC 1 rfl dX0_valueBefore_0 ?_
  refine x_iconst (v := 1) hC dX0_valueBefore_1 (by decide) ?_
  refine x_isub hC dX0_valueBefore_2 ?_
  refine x_istore_n (L' := [(3, .int (p1 - 1)), (0, .ref (ρ this)), (1, .int p1), (2, .int p2)]) hC dX0_valueBefore_3 (by decide) (by first | rfl | simp (decide := true) [rv_cat, cat_ref, cat_int]) ?_
  refine xJ.sub (L' := [(0, .ref (ρ this)), (2, .int p2), (3, .int (p1 - 1))]) [1, 3, 0] rfl ?_
  obtain ⟨f4, h⟩ := h
  refine ml0_valueBefore_4 hC hr htab this p1 p2 h0 (0) (0) (by decide) (by decide) _ Q _ f4 _ _ h (fun y1 τ1 h => ?_)
  refine x_iconst (v := 0) hC dX0_valueBefore_31 (by decide) ?_
  exact x_iret hC hr dX0_valueBefore_32 (by decide) (by decide) ⟨rfl, _, rfl, h⟩
/-! PlantServer$History.isSampled -/
theorem dX0_isSampled_0 : decode cX0_isSampled 0 = .ok (.aload_n 1, 1) := by decide +kernel
theorem dX0_isSampled_1 : decode cX0_isSampled 1 = .ok (.getfield 48, 3) := by decide +kernel
theorem dX0_isSampled_4 : decode cX0_isSampled 4 = .ok (.getfield 52, 3) := by decide +kernel
theorem dX0_isSampled_7 : decode cX0_isSampled 7 = .ok (.istore 4, 2) := by decide +kernel
theorem dX0_isSampled_9 : decode cX0_isSampled 9 = .ok (.iload 4, 2) := by decide +kernel
theorem dX0_isSampled_11 : decode cX0_isSampled 11 = .ok (.iconst 1, 1) := by decide +kernel
theorem dX0_isSampled_12 : decode cX0_isSampled 12 = .ok (.if_icmp .ge 5, 3) := by decide +kernel
theorem dX0_isSampled_15 : decode cX0_isSampled 15 = .ok (.iconst 0, 1) := by decide +kernel
theorem dX0_isSampled_16 : decode cX0_isSampled 16 = .ok (.ireturn, 1) := by decide +kernel
theorem dX0_isSampled_17 : decode cX0_isSampled 17 = .ok (.iload_n 3, 1) := by decide +kernel
theorem dX0_isSampled_18 : decode cX0_isSampled 18 = .ok (.aload_n 1, 1) := by decide +kernel
theorem dX0_isSampled_19 : decode cX0_isSampled 19 = .ok (.getfield 37, 3) := by decide +kernel
theorem dX0_isSampled_22 : decode cX0_isSampled 22 = .ok (.isub, 1) := by decide +kernel
theorem dX0_isSampled_23 : decode cX0_isSampled 23 = .ok (.iload 4, 2) := by decide +kernel
theorem dX0_isSampled_25 : decode cX0_isSampled 25 = .ok (.idiv, 1) := by decide +kernel
theorem dX0_isSampled_26 : decode cX0_isSampled 26 = .ok (.iload_n 2, 1) := by decide +kernel
theorem dX0_isSampled_27 : decode cX0_isSampled 27 = .ok (.aload_n 1, 1) := by decide +kernel
theorem dX0_isSampled_28 : decode cX0_isSampled 28 = .ok (.getfield 37, 3) := by decide +kernel
theorem dX0_isSampled_31 : decode cX0_isSampled 31 = .ok (.isub, 1) := by decide +kernel
theorem dX0_isSampled_32 : decode cX0_isSampled 32 = .ok (.iload 4, 2) := by decide +kernel
theorem dX0_isSampled_34 : decode cX0_isSampled 34 = .ok (.idiv, 1) := by decide +kernel
theorem dX0_isSampled_35 : decode cX0_isSampled 35 = .ok (.if_icmp .le 7, 3) := by decide +kernel
theorem dX0_isSampled_38 : decode cX0_isSampled 38 = .ok (.iconst 1, 1) := by decide +kernel
theorem dX0_isSampled_39 : decode cX0_isSampled 39 = .ok (.goto 4, 3) := by decide +kernel
theorem dX0_isSampled_42 : decode cX0_isSampled 42 = .ok (.iconst 0, 1) := by decide +kernel
theorem dX0_isSampled_43 : decode cX0_isSampled 43 = .ok (.ireturn, 1) := by decide +kernel
abbrev rm0_isSampled : Room := { frames := 0, cells := 0, slots := 0, locals := 0 }
theorem hd0_isSampled : yX0_isSampled.cls ≠ "java/lang/invoke/MethodHandle" ∧ yX0_isSampled.cls ≠ "java/lang/invoke/VarHandle" ∧ (parseMethodDescriptor yX0_isSampled.desc).map (fun d => d.parameters.length) = some 3 := by decide +kernel
set_option maxHeartbeats 4000000 in
set_option maxRecDepth 20000 in
theorem m0_isSampled (l : Launch) (hl : l.stackTraces = false) (G : xG) (ρ : Nm → Nat) (this : Nm) (a1 : Nm) (p2 : Int32) (p3 : Int32) (σ : PH) (Q : Int32 → PH → Prop) (h : w0_isSampled this a1 p2 p3 σ Q) : xMet l yX0_isSampled (.code yX0_isSampled cX0_isSampled 5 (some .boolean)) rm0_isSampled G ρ σ [.ref (ρ this), .ref (ρ a1), .int p2, .int p3] (eI ρ Q) xNo := by
  refine xMet.of hl (by decide +kernel) (Nat.le_of_ble_eq_true rfl) (fun X hC hr hn htab h0 => ?_)
  have hC : xC G X "PlantServer$History" cX0_isSampled 5 rm0_isSampled := hC
  unfold w0_isSampled at h
  refine xJ.loc (L' := [(0, .ref (ρ this)), (1, .ref (ρ a1)), (2, .int p2), (3, .int p3)]) rfl ?_
  refine x_aload_n hC 1 rfl dX0_isSampled_0 ?_
  obtain ⟨k1, h⟩ := h
  refine x_getR (n0 := a1) hC (ci := 1) (T := TX1) (N := 12) (C := RX1) 4 k1 rfl rfl (by decide) rfl q355 dX0_isSampled_1 ?_
  obtain ⟨m1, hm1, h⟩ := h
  rw [show rv ρ (hR σ a1 4) = Value.ref (ρ m1) from by rw [hm1]; rfl]
  obtain ⟨k2, h⟩ := h
  refine x_getI (n0 := m1) hC (ci := 5) (T := TX5) (N := 2) (C := RX5) 0 k2 rfl rfl (by decide) rfl q229 dX0_isSampled_4 ?_
  refine x_istore (L' := [(4, .int (hI σ m1 0)), (0, .ref (ρ this)), (1, .ref (ρ a1)), (2, .int p2), (3, .int p3)]) hC dX0_isSampled_7 (by decide) (by first | rfl | simp (decide := true) [rv_cat, cat_ref, cat_int]) ?_
  refine x_iload hC 0 rfl dX0_isSampled_9 ?_
  refine x_iconst (v := 1) hC dX0_isSampled_11 (by decide) ?_
  refine x_icmp_ge (tgt := 17) hC dX0_isSampled_12 (by decide) (fun c1 => ?_) (fun c1 => ?_)
  · have h := h.1 c1
    refine x_iload_n hC 4 rfl dX0_isSampled_17 ?_
    refine x_aload_n hC 2 rfl dX0_isSampled_18 ?_
    refine x_getI (n0 := a1) hC (ci := 1) (T := TX1) (N := 12) (C := RX1) 10 k1 rfl rfl (by decide) rfl q369 dX0_isSampled_19 ?_
    refine x_isub hC dX0_isSampled_22 ?_
    refine x_iload hC 0 rfl dX0_isSampled_23 ?_
    obtain ⟨nz1, h⟩ := h
    refine x_idiv hC nz1 dX0_isSampled_25 ?_
    refine x_iload_n hC 3 rfl dX0_isSampled_26 ?_
    refine x_aload_n hC 2 rfl dX0_isSampled_27 ?_
    refine x_getI (n0 := a1) hC (ci := 1) (T := TX1) (N := 12) (C := RX1) 10 k1 rfl rfl (by decide) rfl q369 dX0_isSampled_28 ?_
    refine x_isub hC dX0_isSampled_31 ?_
    refine x_iload hC 0 rfl dX0_isSampled_32 ?_
    obtain ⟨nz2, h⟩ := h
    refine x_idiv hC nz2 dX0_isSampled_34 ?_
    refine x_icmp_le (tgt := 42) hC dX0_isSampled_35 (by decide) (fun c2 => ?_) (fun c2 => ?_)
    · have h := h.1 c2
      refine x_iconst (v := 0) hC dX0_isSampled_42 (by decide) ?_
      exact x_zret hC hr zb0 dX0_isSampled_43 (by decide) (by decide) ⟨rfl, _, rfl, h⟩
    · have h := h.2 c2
      refine x_iconst (v := 1) hC dX0_isSampled_38 (by decide) ?_
      refine x_goto (tgt := 43) hC dX0_isSampled_39 (by decide) ?_
      exact x_zret hC hr zb1 dX0_isSampled_43 (by decide) (by decide) ⟨rfl, _, rfl, h⟩
  · have h := h.2 c1
    refine x_iconst (v := 0) hC dX0_isSampled_15 (by decide) ?_
    exact x_zret hC hr zb0 dX0_isSampled_16 (by decide) (by decide) ⟨rfl, _, rfl, h⟩
