/-! PlantServerModel.placeOf -/
theorem dX7_placeOf_0 : decode cX7_placeOf 0 = .ok (.aload_n 0, 1) := by decide +kernel
theorem dX7_placeOf_1 : decode cX7_placeOf 1 = .ok (.iload_n 1, 1) := by decide +kernel
theorem dX7_placeOf_2 : decode cX7_placeOf 2 = .ok (.invokevirtual 125, 3) := by decide +kernel
theorem dX7_placeOf_5 : decode cX7_placeOf 5 = .ok (.ifCond .eq 12, 3) := by decide +kernel
theorem dX7_placeOf_8 : decode cX7_placeOf 8 = .ok (.aload_n 0, 1) := by decide +kernel
theorem dX7_placeOf_9 : decode cX7_placeOf 9 = .ok (.iload_n 1, 1) := by decide +kernel
theorem dX7_placeOf_10 : decode cX7_placeOf 10 = .ok (.iload_n 2, 1) := by decide +kernel
theorem dX7_placeOf_11 : decode cX7_placeOf 11 = .ok (.invokevirtual 173, 3) := by decide +kernel
theorem dX7_placeOf_14 : decode cX7_placeOf 14 = .ok (.goto 4, 3) := by decide +kernel
theorem dX7_placeOf_17 : decode cX7_placeOf 17 = .ok (.iconst (-1), 1) := by decide +kernel
theorem dX7_placeOf_18 : decode cX7_placeOf 18 = .ok (.istore 4, 2) := by decide +kernel
theorem dX7_placeOf_20 : decode cX7_placeOf 20 = .ok (.iload 4, 2) := by decide +kernel
theorem dX7_placeOf_22 : decode cX7_placeOf 22 = .ok (.iconst (-1), 1) := by decide +kernel
theorem dX7_placeOf_23 : decode cX7_placeOf 23 = .ok (.if_icmp .eq 34, 3) := by decide +kernel
theorem dX7_placeOf_26 : decode cX7_placeOf 26 = .ok (.iload_n 3, 1) := by decide +kernel
theorem dX7_placeOf_27 : decode cX7_placeOf 27 = .ok (.iconst 0, 1) := by decide +kernel
theorem dX7_placeOf_28 : decode cX7_placeOf 28 = .ok (.iload 4, 2) := by decide +kernel
theorem dX7_placeOf_30 : decode cX7_placeOf 30 = .ok (.iconst (-1), 1) := by decide +kernel
theorem dX7_placeOf_31 : decode cX7_placeOf 31 = .ok (.if_icmp .ne 7, 3) := by decide +kernel
theorem dX7_placeOf_34 : decode cX7_placeOf 34 = .ok (.iconst (-1), 1) := by decide +kernel
theorem dX7_placeOf_35 : decode cX7_placeOf 35 = .ok (.goto 12, 3) := by decide +kernel
theorem dX7_placeOf_38 : decode cX7_placeOf 38 = .ok (.aload_n 0, 1) := by decide +kernel
theorem dX7_placeOf_39 : decode cX7_placeOf 39 = .ok (.getfield 92, 3) := by decide +kernel
theorem dX7_placeOf_42 : decode cX7_placeOf 42 = .ok (.iload 4, 2) := by decide +kernel
theorem dX7_placeOf_44 : decode cX7_placeOf 44 = .ok (.iaload, 1) := by decide +kernel
theorem dX7_placeOf_45 : decode cX7_placeOf 45 = .ok (.iconst 1, 1) := by decide +kernel
theorem dX7_placeOf_46 : decode cX7_placeOf 46 = .ok (.isub, 1) := by decide +kernel
theorem dX7_placeOf_47 : decode cX7_placeOf 47 = .ok (.invokestatic 108, 3) := by decide +kernel
theorem dX7_placeOf_50 : decode cX7_placeOf 50 = .ok (.ifCond .eq 7, 3) := by decide +kernel
theorem dX7_placeOf_53 : decode cX7_placeOf 53 = .ok (.iconst 1, 1) := by decide +kernel
theorem dX7_placeOf_54 : decode cX7_placeOf 54 = .ok (.goto 4, 3) := by decide +kernel
theorem dX7_placeOf_57 : decode cX7_placeOf 57 = .ok (.iconst 0, 1) := by decide +kernel
theorem dX7_placeOf_58 : decode cX7_placeOf 58 = .ok (.istore 5, 2) := by decide +kernel
theorem dX7_placeOf_60 : decode cX7_placeOf 60 = .ok (.aload_n 0, 1) := by decide +kernel
theorem dX7_placeOf_61 : decode cX7_placeOf 61 = .ok (.aload_n 0, 1) := by decide +kernel
theorem dX7_placeOf_62 : decode cX7_placeOf 62 = .ok (.iload_n 1, 1) := by decide +kernel
theorem dX7_placeOf_63 : decode cX7_placeOf 63 = .ok (.invokevirtual 125, 3) := by decide +kernel
theorem dX7_placeOf_66 : decode cX7_placeOf 66 = .ok (.ifCond .ne 7, 3) := by decide +kernel
theorem dX7_placeOf_69 : decode cX7_placeOf 69 = .ok (.iconst 1, 1) := by decide +kernel
theorem dX7_placeOf_70 : decode cX7_placeOf 70 = .ok (.goto 13, 3) := by decide +kernel
theorem dX7_placeOf_73 : decode cX7_placeOf 73 = .ok (.iload 5, 2) := by decide +kernel
theorem dX7_placeOf_75 : decode cX7_placeOf 75 = .ok (.ifCond .eq 7, 3) := by decide +kernel
theorem dX7_placeOf_78 : decode cX7_placeOf 78 = .ok (.iconst 0, 1) := by decide +kernel
theorem dX7_placeOf_79 : decode cX7_placeOf 79 = .ok (.goto 4, 3) := by decide +kernel
theorem dX7_placeOf_82 : decode cX7_placeOf 82 = .ok (.iconst 2, 1) := by decide +kernel
theorem dX7_placeOf_83 : decode cX7_placeOf 83 = .ok (.putfield 104, 3) := by decide +kernel
theorem dX7_placeOf_86 : decode cX7_placeOf 86 = .ok (.iload 5, 2) := by decide +kernel
theorem dX7_placeOf_88 : decode cX7_placeOf 88 = .ok (.ifCond .eq 13, 3) := by decide +kernel
theorem dX7_placeOf_91 : decode cX7_placeOf 91 = .ok (.bipush 10, 2) := by decide +kernel
theorem dX7_placeOf_93 : decode cX7_placeOf 93 = .ok (.iload 4, 2) := by decide +kernel
theorem dX7_placeOf_95 : decode cX7_placeOf 95 = .ok (.imul, 1) := by decide +kernel
theorem dX7_placeOf_96 : decode cX7_placeOf 96 = .ok (.iload_n 3, 1) := by decide +kernel
theorem dX7_placeOf_97 : decode cX7_placeOf 97 = .ok (.iadd, 1) := by decide +kernel
theorem dX7_placeOf_98 : decode cX7_placeOf 98 = .ok (.goto 4, 3) := by decide +kernel
theorem dX7_placeOf_101 : decode cX7_placeOf 101 = .ok (.iconst (-1), 1) := by decide +kernel
theorem dX7_placeOf_102 : decode cX7_placeOf 102 = .ok (.ireturn, 1) := by decide +kernel
abbrev rm7_placeOf : Room := { frames := 2, cells := 0, slots := 0, locals := 43 }
theorem hd7_placeOf : yX7_placeOf.cls ≠ "java/lang/invoke/MethodHandle" ∧ yX7_placeOf.cls ≠ "java/lang/invoke/VarHandle" ∧ (parseMethodDescriptor yX7_placeOf.desc).map (fun d => d.parameters.length) = some 3 := by decide +kernel
set_option maxHeartbeats 4000000 in
set_option maxRecDepth 20000 in
theorem m7_placeOf (l : Launch) (hl : l.stackTraces = false) (G : xG) (ρ : Nm → Nat) (this : Nm) (p1 : Int32) (p2 : Int32) (p3 : Int32) (σ : PH) (Q : Int32 → PH → Prop) (h : w7_placeOf this p1 p2 p3 σ Q) : xMet l yX7_placeOf (.code yX7_placeOf cX7_placeOf 6 (some .int)) rm7_placeOf G ρ σ [.ref (ρ this), .int p1, .int p2, .int p3] (eI ρ Q) xNo := by
  refine xMet.of hl (by decide +kernel) (Nat.le_of_ble_eq_true rfl) (fun X hC hr hn htab h0 => ?_)
  have hC : xC G X "PlantServerModel" cX7_placeOf 6 rm7_placeOf := hC
  unfold w7_placeOf at h
  refine xJ.loc (L' := [(0, .ref (ρ this)), (1, .int p1), (2, .int p2), (3, .int p3)]) rfl ?_
  refine x_aload_n hC 0 rfl dX7_placeOf_0 ?_
  refine x_iload_n hC 1 rfl dX7_placeOf_1 ?_
  obtain ⟨k1, h⟩ := h
  refine x_callV (n0 := this) (as := [.int p1]) (rest := []) hC (ci := 7) (r := (RX7, TX7, 36)) k1 rfl (fun l hl => m7_isSubscription l hl G ρ this p1 σ _ h) q820 q822 s14 q3 q823 ⟨rfl, hd7_isSubscription⟩ (by decide) ⟨(by decide), (by decide)⟩ (by first | exact Nat.le_of_ble_eq_true rfl | (simp [rv_cat]; done) | (simp (decide := true) [rv_cat, cat_ref, cat_int]; done)) rfl dX7_placeOf_2 (fun E σ9 hx => False.elim hx) (fun v1 σ1 ρ1 hp1 hag1 => ?_)
  obtain ⟨e9, r1, e8, h⟩ := hp1
  rw [e8, e9]
  refine xJ.nrm (k' := 0) (n' := 0) (pc' := 5) (st' := [.int r1]) rfl rfl rfl rfl ?_
  refine x_if_eq (tgt := 17) hC dX7_placeOf_5 (by decide) (fun c1 => ?_) (fun c1 => ?_)
  · have h := h.1 c1
    refine x_iconst (v := (-1)) hC dX7_placeOf_17 (by decide) ?_
    refine x_istore (L' := [(4, .int (-1)), (0, .ref (ρ this)), (1, .int p1), (2, .int p2), (3, .int p3)]) hC dX7_placeOf_18 (by decide) (by first | rfl | simp (decide := true) [rv_cat, cat_ref, cat_int]) ?_
    refine x_iload hC 0 rfl dX7_placeOf_20 ?_
    refine x_iconst (v := (-1)) hC dX7_placeOf_22 (by decide) ?_
    refine x_icmp_eq (tgt := 57) hC dX7_placeOf_23 (by decide) (fun _ => ?_) (fun c2 => absurd c2 (by decide))
    refine x_iconst (v := 0) hC dX7_placeOf_57 (by decide) ?_
    refine x_istore (L' := [(5, .int 0), (4, .int (-1)), (0, .ref (ρ this)), (1, .int p1), (2, .int p2), (3, .int p3)]) hC dX7_placeOf_58 (by decide) (by first | rfl | simp (decide := true) [rv_cat, cat_ref, cat_int]) ?_
    refine x_aload_n hC 2 rfl dX7_placeOf_60 ?_
    refine x_aload_n hC 2 rfl dX7_placeOf_61 ?_
    refine x_iload_n hC 3 rfl dX7_placeOf_62 ?_
    have k2 : hK σ1 this = 8 := (hag1 this (by rw [k1]; decide)).1.trans k1
    refine x_callV (n0 := this) (as := [.int p1]) (rest := [.ref (ρ this)]) hC (ci := 7) (r := (RX7, TX7, 36)) k2 rfl (fun l hl => m7_isSubscription l hl G ρ this p1 σ1 _ h) q820 q822 s14 q3 q823 ⟨rfl, hd7_isSubscription⟩ (by decide) ⟨(by decide), (by decide)⟩ (by first | exact Nat.le_of_ble_eq_true rfl | (simp [rv_cat]; done) | (simp (decide := true) [rv_cat, cat_ref, cat_int]; done)) rfl dX7_placeOf_63 (fun E σ9 hx => False.elim hx) (fun v2 σ2 ρ2 hp2 hag2 => ?_)
    obtain ⟨e9, r2, e8, h⟩ := hp2
    rw [e8, e9]
    refine xJ.nrm (k' := 0) (n' := 0) (pc' := 66) (st' := [.int r2, .ref (ρ this)]) rfl rfl rfl rfl ?_
    refine x_if_ne (tgt := 73) hC dX7_placeOf_66 (by decide) (fun c3 => ?_) (fun c3 => ?_)
    · have h := h.1 c3
      refine x_iload hC 0 rfl dX7_placeOf_73 ?_
      refine x_if_eq (tgt := 82) hC dX7_placeOf_75 (by decide) (fun _ => ?_) (fun c4 => absurd c4 (by decide))
      refine x_iconst (v := 2) hC dX7_placeOf_82 (by decide) ?_
      have k3 : hK σ2 this = 8 := (hag2 this (by rw [k2]; decide)).1.trans k2
      refine x_putI (n0 := this) hC (ci := 7) (T := TX7) (N := 36) (C := RX7) 0 k3 rfl rfl (by decide) rfl q689 rfl (tyX7_ok 0 (by decide)) dX7_placeOf_83 ?_
      refine xJ.nmH (fun σ3 e1 => ?_)
      have h := h σ3 e1
      have r3 : hR σ3 = hR σ2 ∧ hL σ3 = hL σ2 := by rw [e1]; exact ⟨rfl, rfl⟩
      refine x_iload hC 0 rfl dX7_placeOf_86 ?_
      refine x_if_eq (tgt := 101) hC dX7_placeOf_88 (by decide) (fun _ => ?_) (fun c5 => absurd c5 (by decide))
      refine x_iconst (v := (-1)) hC dX7_placeOf_101 (by decide) ?_
      exact x_iret hC hr dX7_placeOf_102 (by decide) (by decide) ⟨rfl, _, rfl, h⟩
    · have h := h.2 c3
      refine x_iconst (v := 1) hC dX7_placeOf_69 (by decide) ?_
      refine x_goto (tgt := 83) hC dX7_placeOf_70 (by decide) ?_
      have k4 : hK σ2 this = 8 := (hag2 this (by rw [k2]; decide)).1.trans k2
      refine x_putI (n0 := this) hC (ci := 7) (T := TX7) (N := 36) (C := RX7) 0 k4 rfl rfl (by decide) rfl q689 rfl (tyX7_ok 0 (by decide)) dX7_placeOf_83 ?_
      refine xJ.nmH (fun σ4 e2 => ?_)
      have h := h σ4 e2
      have r4 : hR σ4 = hR σ2 ∧ hL σ4 = hL σ2 := by rw [e2]; exact ⟨rfl, rfl⟩
      refine x_iload hC 0 rfl dX7_placeOf_86 ?_
      refine x_if_eq (tgt := 101) hC dX7_placeOf_88 (by decide) (fun _ => ?_) (fun c6 => absurd c6 (by decide))
      refine x_iconst (v := (-1)) hC dX7_placeOf_101 (by decide) ?_
      exact x_iret hC hr dX7_placeOf_102 (by decide) (by decide) ⟨rfl, _, rfl, h⟩
  · have h := h.2 c1
    refine x_aload_n hC 0 rfl dX7_placeOf_8 ?_
    refine x_iload_n hC 1 rfl dX7_placeOf_9 ?_
    refine x_iload_n hC 2 rfl dX7_placeOf_10 ?_
    have k5 : hK σ1 this = 8 := (hag1 this (by rw [k1]; decide)).1.trans k1
    refine x_callV (n0 := this) (as := [.int p1, .int p2]) (rest := []) hC (ci := 7) (r := (RX7, TX7, 36)) k5 rfl (fun l hl => m7_keptAt l hl G ρ this p1 p2 σ1 _ h) q904 q906 s27 q3 q907 ⟨rfl, hd7_keptAt⟩ (by decide) ⟨(by decide), (by decide)⟩ (by first | exact Nat.le_of_ble_eq_true rfl | (simp [rv_cat]; done) | (simp (decide := true) [rv_cat, cat_ref, cat_int]; done)) rfl dX7_placeOf_11 (fun E σ9 hx => False.elim hx) (fun v3 σ5 ρ3 hp3 hag3 => ?_)
    obtain ⟨e9, r5, e8, h⟩ := hp3
    rw [e8, e9]
    refine xJ.nrm (k' := 0) (n' := 0) (pc' := 14) (st' := [.int r5]) rfl rfl rfl rfl ?_
    refine x_goto (tgt := 18) hC dX7_placeOf_14 (by decide) ?_
    refine x_istore (L' := [(4, .int r5), (0, .ref (ρ this)), (1, .int p1), (2, .int p2), (3, .int p3)]) hC dX7_placeOf_18 (by decide) (by first | rfl | simp (decide := true) [rv_cat, cat_ref, cat_int]) ?_
    refine x_iload hC 0 rfl dX7_placeOf_20 ?_
    refine x_iconst (v := (-1)) hC dX7_placeOf_22 (by decide) ?_
    refine x_icmp_eq (tgt := 57) hC dX7_placeOf_23 (by decide) (fun c7 => ?_) (fun c7 => ?_)
    · have h := h.1 c7
      refine x_iconst (v := 0) hC dX7_placeOf_57 (by decide) ?_
      refine x_istore (L' := [(5, .int 0), (4, .int r5), (0, .ref (ρ this)), (1, .int p1), (2, .int p2), (3, .int p3)]) hC dX7_placeOf_58 (by decide) (by first | rfl | simp (decide := true) [rv_cat, cat_ref, cat_int]) ?_
      refine x_aload_n hC 2 rfl dX7_placeOf_60 ?_
      refine x_aload_n hC 2 rfl dX7_placeOf_61 ?_
      refine x_iload_n hC 3 rfl dX7_placeOf_62 ?_
      have k6 : hK σ5 this = 8 := (hag3 this (by rw [k5]; decide)).1.trans k5
      refine x_callV (n0 := this) (as := [.int p1]) (rest := [.ref (ρ this)]) hC (ci := 7) (r := (RX7, TX7, 36)) k6 rfl (fun l hl => m7_isSubscription l hl G ρ this p1 σ5 _ h) q820 q822 s14 q3 q823 ⟨rfl, hd7_isSubscription⟩ (by decide) ⟨(by decide), (by decide)⟩ (by first | exact Nat.le_of_ble_eq_true rfl | (simp [rv_cat]; done) | (simp (decide := true) [rv_cat, cat_ref, cat_int]; done)) rfl dX7_placeOf_63 (fun E σ9 hx => False.elim hx) (fun v4 σ6 ρ4 hp4 hag4 => ?_)
      obtain ⟨e9, r6, e8, h⟩ := hp4
      rw [e8, e9]
      refine xJ.nrm (k' := 0) (n' := 0) (pc' := 66) (st' := [.int r6, .ref (ρ this)]) rfl rfl rfl rfl ?_
      refine x_if_ne (tgt := 73) hC dX7_placeOf_66 (by decide) (fun c8 => ?_) (fun c8 => ?_)
      · have h := h.1 c8
        refine x_iload hC 0 rfl dX7_placeOf_73 ?_
        refine x_if_eq (tgt := 82) hC dX7_placeOf_75 (by decide) (fun _ => ?_) (fun c9 => absurd c9 (by decide))
        refine x_iconst (v := 2) hC dX7_placeOf_82 (by decide) ?_
        have k7 : hK σ6 this = 8 := (hag4 this (by rw [k6]; decide)).1.trans k6
        refine x_putI (n0 := this) hC (ci := 7) (T := TX7) (N := 36) (C := RX7) 0 k7 rfl rfl (by decide) rfl q689 rfl (tyX7_ok 0 (by decide)) dX7_placeOf_83 ?_
        refine xJ.nmH (fun σ7 e3 => ?_)
        have h := h σ7 e3
        have r7 : hR σ7 = hR σ6 ∧ hL σ7 = hL σ6 := by rw [e3]; exact ⟨rfl, rfl⟩
        refine x_iload hC 0 rfl dX7_placeOf_86 ?_
        refine x_if_eq (tgt := 101) hC dX7_placeOf_88 (by decide) (fun _ => ?_) (fun c10 => absurd c10 (by decide))
        refine x_iconst (v := (-1)) hC dX7_placeOf_101 (by decide) ?_
        exact x_iret hC hr dX7_placeOf_102 (by decide) (by decide) ⟨rfl, _, rfl, h⟩
      · have h := h.2 c8
        refine x_iconst (v := 1) hC dX7_placeOf_69 (by decide) ?_
        refine x_goto (tgt := 83) hC dX7_placeOf_70 (by decide) ?_
        have k8 : hK σ6 this = 8 := (hag4 this (by rw [k6]; decide)).1.trans k6
        refine x_putI (n0 := this) hC (ci := 7) (T := TX7) (N := 36) (C := RX7) 0 k8 rfl rfl (by decide) rfl q689 rfl (tyX7_ok 0 (by decide)) dX7_placeOf_83 ?_
        refine xJ.nmH (fun σ8 e4 => ?_)
        have h := h σ8 e4
        have r8 : hR σ8 = hR σ6 ∧ hL σ8 = hL σ6 := by rw [e4]; exact ⟨rfl, rfl⟩
        refine x_iload hC 0 rfl dX7_placeOf_86 ?_
        refine x_if_eq (tgt := 101) hC dX7_placeOf_88 (by decide) (fun _ => ?_) (fun c11 => absurd c11 (by decide))
        refine x_iconst (v := (-1)) hC dX7_placeOf_101 (by decide) ?_
        exact x_iret hC hr dX7_placeOf_102 (by decide) (by decide) ⟨rfl, _, rfl, h⟩
    · have h := h.2 c7
      refine x_iload_n hC 4 rfl dX7_placeOf_26 ?_
      refine x_iconst (v := 0) hC dX7_placeOf_27 (by decide) ?_
      refine x_iload hC 0 rfl dX7_placeOf_28 ?_
      refine x_iconst (v := (-1)) hC dX7_placeOf_30 (by decide) ?_
      refine x_icmp_ne (tgt := 38) hC dX7_placeOf_31 (by decide) (fun c12 => ?_) (fun c12 => ?_)
      · have h := h.1 c12
        refine x_aload_n hC 1 rfl dX7_placeOf_38 ?_
        have k9 : hK σ5 this = 8 := (hag3 this (by rw [k5]; decide)).1.trans k5
        refine x_getR (n0 := this) hC (ci := 7) (T := TX7) (N := 36) (C := RX7) 31 k9 rfl rfl (by decide) rfl q720 dX7_placeOf_39 ?_
        refine x_iload hC 0 rfl dX7_placeOf_42 ?_
        obtain ⟨m1, hm1, h⟩ := h
        rw [show rv ρ (hR σ5 this 31) = Value.ref (ρ m1) from by rw [hm1]; rfl]
        obtain ⟨k10, h⟩ := h
        obtain ⟨v5, h⟩ := h
        refine x_iald (a := m1) hC k10 v5 dX7_placeOf_44 ?_
        refine x_iconst (v := 1) hC dX7_placeOf_45 (by decide) ?_
        refine x_isub hC dX7_placeOf_46 ?_
        refine x_callS (as := [.int p3, .int 0, .int ((hI σ5 m1 (Int32.toNatClampNeg r5)) - 1)]) (rest := []) hC (fun l hl => m7_in l hl G ρ p3 0 ((hI σ5 m1 (Int32.toNatClampNeg r5)) - 1) σ5 _ h) q809 q810 q3 q811 hd7_in (by decide) ⟨(by decide), (by decide)⟩ (by first | exact Nat.le_of_ble_eq_true rfl | (simp [rv_cat]; done) | (simp (decide := true) [rv_cat, cat_ref, cat_int]; done)) rfl dX7_placeOf_47 (fun E σ9 hx => False.elim hx) (fun v6 σ9 ρ5 hp5 hag5 => ?_)
        obtain ⟨e9, r9, e8, h⟩ := hp5
        rw [e8, e9]
        refine xJ.nrm (k' := 0) (n' := 0) (pc' := 50) (st' := [.int r9]) rfl rfl rfl rfl ?_
        refine x_if_eq (tgt := 57) hC dX7_placeOf_50 (by decide) (fun c13 => ?_) (fun c13 => ?_)
        · have h := h.1 c13
          refine x_iconst (v := 0) hC dX7_placeOf_57 (by decide) ?_
          refine x_istore (L' := [(5, .int 0), (4, .int r5), (0, .ref (ρ this)), (1, .int p1), (2, .int p2), (3, .int p3)]) hC dX7_placeOf_58 (by decide) (by first | rfl | simp (decide := true) [rv_cat, cat_ref, cat_int]) ?_
          refine x_aload_n hC 2 rfl dX7_placeOf_60 ?_
          refine x_aload_n hC 2 rfl dX7_placeOf_61 ?_
          refine x_iload_n hC 3 rfl dX7_placeOf_62 ?_
          have k11 : hK σ9 this = 8 := (hag5 this (by rw [k9]; decide)).1.trans k9
          refine x_callV (n0 := this) (as := [.int p1]) (rest := [.ref (ρ this)]) hC (ci := 7) (r := (RX7, TX7, 36)) k11 rfl (fun l hl => m7_isSubscription l hl G ρ this p1 σ9 _ h) q820 q822 s14 q3 q823 ⟨rfl, hd7_isSubscription⟩ (by decide) ⟨(by decide), (by decide)⟩ (by first | exact Nat.le_of_ble_eq_true rfl | (simp [rv_cat]; done) | (simp (decide := true) [rv_cat, cat_ref, cat_int]; done)) rfl dX7_placeOf_63 (fun E σ9 hx => False.elim hx) (fun v7 σ10 ρ6 hp6 hag6 => ?_)
          obtain ⟨e9, r10, e8, h⟩ := hp6
          rw [e8, e9]
          refine xJ.nrm (k' := 0) (n' := 0) (pc' := 66) (st' := [.int r10, .ref (ρ this)]) rfl rfl rfl rfl ?_
          refine x_if_ne (tgt := 73) hC dX7_placeOf_66 (by decide) (fun c14 => ?_) (fun c14 => ?_)
          · have h := h.1 c14
            refine x_iload hC 0 rfl dX7_placeOf_73 ?_
            refine x_if_eq (tgt := 82) hC dX7_placeOf_75 (by decide) (fun _ => ?_) (fun c15 => absurd c15 (by decide))
            refine x_iconst (v := 2) hC dX7_placeOf_82 (by decide) ?_
            have k12 : hK σ10 this = 8 := (hag6 this (by rw [k11]; decide)).1.trans k11
            refine x_putI (n0 := this) hC (ci := 7) (T := TX7) (N := 36) (C := RX7) 0 k12 rfl rfl (by decide) rfl q689 rfl (tyX7_ok 0 (by decide)) dX7_placeOf_83 ?_
            refine xJ.nmH (fun σ11 e5 => ?_)
            have h := h σ11 e5
            have r11 : hR σ11 = hR σ10 ∧ hL σ11 = hL σ10 := by rw [e5]; exact ⟨rfl, rfl⟩
            refine x_iload hC 0 rfl dX7_placeOf_86 ?_
            refine x_if_eq (tgt := 101) hC dX7_placeOf_88 (by decide) (fun _ => ?_) (fun c16 => absurd c16 (by decide))
            refine x_iconst (v := (-1)) hC dX7_placeOf_101 (by decide) ?_
            exact x_iret hC hr dX7_placeOf_102 (by decide) (by decide) ⟨rfl, _, rfl, h⟩
          · have h := h.2 c14
            refine x_iconst (v := 1) hC dX7_placeOf_69 (by decide) ?_
            refine x_goto (tgt := 83) hC dX7_placeOf_70 (by decide) ?_
            have k13 : hK σ10 this = 8 := (hag6 this (by rw [k11]; decide)).1.trans k11
            refine x_putI (n0 := this) hC (ci := 7) (T := TX7) (N := 36) (C := RX7) 0 k13 rfl rfl (by decide) rfl q689 rfl (tyX7_ok 0 (by decide)) dX7_placeOf_83 ?_
            refine xJ.nmH (fun σ12 e6 => ?_)
            have h := h σ12 e6
            have r12 : hR σ12 = hR σ10 ∧ hL σ12 = hL σ10 := by rw [e6]; exact ⟨rfl, rfl⟩
            refine x_iload hC 0 rfl dX7_placeOf_86 ?_
            refine x_if_eq (tgt := 101) hC dX7_placeOf_88 (by decide) (fun _ => ?_) (fun c17 => absurd c17 (by decide))
            refine x_iconst (v := (-1)) hC dX7_placeOf_101 (by decide) ?_
            exact x_iret hC hr dX7_placeOf_102 (by decide) (by decide) ⟨rfl, _, rfl, h⟩
        · have h := h.2 c13
          refine x_iconst (v := 1) hC dX7_placeOf_53 (by decide) ?_
          refine x_goto (tgt := 58) hC dX7_placeOf_54 (by decide) ?_
          refine x_istore (L' := [(5, .int 1), (4, .int r5), (0, .ref (ρ this)), (1, .int p1), (2, .int p2), (3, .int p3)]) hC dX7_placeOf_58 (by decide) (by first | rfl | simp (decide := true) [rv_cat, cat_ref, cat_int]) ?_
          refine x_aload_n hC 2 rfl dX7_placeOf_60 ?_
          refine x_aload_n hC 2 rfl dX7_placeOf_61 ?_
          refine x_iload_n hC 3 rfl dX7_placeOf_62 ?_
          have k14 : hK σ9 this = 8 := (hag5 this (by rw [k9]; decide)).1.trans k9
          refine x_callV (n0 := this) (as := [.int p1]) (rest := [.ref (ρ this)]) hC (ci := 7) (r := (RX7, TX7, 36)) k14 rfl (fun l hl => m7_isSubscription l hl G ρ this p1 σ9 _ h) q820 q822 s14 q3 q823 ⟨rfl, hd7_isSubscription⟩ (by decide) ⟨(by decide), (by decide)⟩ (by first | exact Nat.le_of_ble_eq_true rfl | (simp [rv_cat]; done) | (simp (decide := true) [rv_cat, cat_ref, cat_int]; done)) rfl dX7_placeOf_63 (fun E σ9 hx => False.elim hx) (fun v8 σ13 ρ7 hp7 hag7 => ?_)
          obtain ⟨e9, r13, e8, h⟩ := hp7
          rw [e8, e9]
          refine xJ.nrm (k' := 0) (n' := 0) (pc' := 66) (st' := [.int r13, .ref (ρ this)]) rfl rfl rfl rfl ?_
          refine x_if_ne (tgt := 73) hC dX7_placeOf_66 (by decide) (fun c18 => ?_) (fun c18 => ?_)
          · have h := h.1 c18
            refine x_iload hC 0 rfl dX7_placeOf_73 ?_
            refine x_if_eq (tgt := 82) hC dX7_placeOf_75 (by decide) (fun c19 => absurd c19 (by decide)) (fun _ => ?_)
            refine x_iconst (v := 0) hC dX7_placeOf_78 (by decide) ?_
            refine x_goto (tgt := 83) hC dX7_placeOf_79 (by decide) ?_
            have k15 : hK σ13 this = 8 := (hag7 this (by rw [k14]; decide)).1.trans k14
            refine x_putI (n0 := this) hC (ci := 7) (T := TX7) (N := 36) (C := RX7) 0 k15 rfl rfl (by decide) rfl q689 rfl (tyX7_ok 0 (by decide)) dX7_placeOf_83 ?_
            refine xJ.nmH (fun σ14 e7 => ?_)
            have h := h σ14 e7
            have r14 : hR σ14 = hR σ13 ∧ hL σ14 = hL σ13 := by rw [e7]; exact ⟨rfl, rfl⟩
            refine x_iload hC 0 rfl dX7_placeOf_86 ?_
            refine x_if_eq (tgt := 101) hC dX7_placeOf_88 (by decide) (fun c20 => absurd c20 (by decide)) (fun _ => ?_)
            refine x_bipush (v := 10) hC dX7_placeOf_91 (by decide) ?_
            refine x_iload hC 1 rfl dX7_placeOf_93 ?_
            refine x_imul hC dX7_placeOf_95 ?_
            refine x_iload_n hC 5 rfl dX7_placeOf_96 ?_
            refine x_iadd hC dX7_placeOf_97 ?_
            refine x_goto (tgt := 102) hC dX7_placeOf_98 (by decide) ?_
            exact x_iret hC hr dX7_placeOf_102 (by decide) (by decide) ⟨rfl, _, rfl, h⟩
          · have h := h.2 c18
            refine x_iconst (v := 1) hC dX7_placeOf_69 (by decide) ?_
            refine x_goto (tgt := 83) hC dX7_placeOf_70 (by decide) ?_
            have k16 : hK σ13 this = 8 := (hag7 this (by rw [k14]; decide)).1.trans k14
            refine x_putI (n0 := this) hC (ci := 7) (T := TX7) (N := 36) (C := RX7) 0 k16 rfl rfl (by decide) rfl q689 rfl (tyX7_ok 0 (by decide)) dX7_placeOf_83 ?_
            refine xJ.nmH (fun σ15 e8 => ?_)
            have h := h σ15 e8
            have r15 : hR σ15 = hR σ13 ∧ hL σ15 = hL σ13 := by rw [e8]; exact ⟨rfl, rfl⟩
            refine x_iload hC 0 rfl dX7_placeOf_86 ?_
            refine x_if_eq (tgt := 101) hC dX7_placeOf_88 (by decide) (fun c21 => absurd c21 (by decide)) (fun _ => ?_)
            refine x_bipush (v := 10) hC dX7_placeOf_91 (by decide) ?_
            refine x_iload hC 1 rfl dX7_placeOf_93 ?_
            refine x_imul hC dX7_placeOf_95 ?_
            refine x_iload_n hC 5 rfl dX7_placeOf_96 ?_
            refine x_iadd hC dX7_placeOf_97 ?_
            refine x_goto (tgt := 102) hC dX7_placeOf_98 (by decide) ?_
            exact x_iret hC hr dX7_placeOf_102 (by decide) (by decide) ⟨rfl, _, rfl, h⟩
      · have h := h.2 c12
        refine x_iconst (v := (-1)) hC dX7_placeOf_34 (by decide) ?_
        refine x_goto (tgt := 47) hC dX7_placeOf_35 (by decide) ?_
        refine x_callS (as := [.int p3, .int 0, .int (-1)]) (rest := []) hC (fun l hl => m7_in l hl G ρ p3 0 (-1) σ5 _ h) q809 q810 q3 q811 hd7_in (by decide) ⟨(by decide), (by decide)⟩ (by first | exact Nat.le_of_ble_eq_true rfl | (simp [rv_cat]; done) | (simp (decide := true) [rv_cat, cat_ref, cat_int]; done)) rfl dX7_placeOf_47 (fun E σ9 hx => False.elim hx) (fun v9 σ16 ρ8 hp8 hag8 => ?_)
        obtain ⟨e9, r16, e8, h⟩ := hp8
        rw [e8, e9]
        refine xJ.nrm (k' := 0) (n' := 0) (pc' := 50) (st' := [.int r16]) rfl rfl rfl rfl ?_
        refine x_if_eq (tgt := 57) hC dX7_placeOf_50 (by decide) (fun c22 => ?_) (fun c22 => ?_)
        · have h := h.1 c22
          refine x_iconst (v := 0) hC dX7_placeOf_57 (by decide) ?_
          refine x_istore (L' := [(5, .int 0), (4, .int r5), (0, .ref (ρ this)), (1, .int p1), (2, .int p2), (3, .int p3)]) hC dX7_placeOf_58 (by decide) (by first | rfl | simp (decide := true) [rv_cat, cat_ref, cat_int]) ?_
          refine x_aload_n hC 2 rfl dX7_placeOf_60 ?_
          refine x_aload_n hC 2 rfl dX7_placeOf_61 ?_
          refine x_iload_n hC 3 rfl dX7_placeOf_62 ?_
          have k17 : hK σ5 this = 8 := (hag3 this (by rw [k5]; decide)).1.trans k5
          have k18 : hK σ16 this = 8 := (hag8 this (by rw [k17]; decide)).1.trans k17
          refine x_callV (n0 := this) (as := [.int p1]) (rest := [.ref (ρ this)]) hC (ci := 7) (r := (RX7, TX7, 36)) k18 rfl (fun l hl => m7_isSubscription l hl G ρ this p1 σ16 _ h) q820 q822 s14 q3 q823 ⟨rfl, hd7_isSubscription⟩ (by decide) ⟨(by decide), (by decide)⟩ (by first | exact Nat.le_of_ble_eq_true rfl | (simp [rv_cat]; done) | (simp (decide := true) [rv_cat, cat_ref, cat_int]; done)) rfl dX7_placeOf_63 (fun E σ9 hx => False.elim hx) (fun v10 σ17 ρ9 hp9 hag9 => ?_)
          obtain ⟨e9, r17, e8, h⟩ := hp9
          rw [e8, e9]
          refine xJ.nrm (k' := 0) (n' := 0) (pc' := 66) (st' := [.int r17, .ref (ρ this)]) rfl rfl rfl rfl ?_
          refine x_if_ne (tgt := 73) hC dX7_placeOf_66 (by decide) (fun c23 => ?_) (fun c23 => ?_)
          · have h := h.1 c23
            refine x_iload hC 0 rfl dX7_placeOf_73 ?_
            refine x_if_eq (tgt := 82) hC dX7_placeOf_75 (by decide) (fun _ => ?_) (fun c24 => absurd c24 (by decide))
            refine x_iconst (v := 2) hC dX7_placeOf_82 (by decide) ?_
            have k19 : hK σ17 this = 8 := (hag9 this (by rw [k18]; decide)).1.trans k18
            refine x_putI (n0 := this) hC (ci := 7) (T := TX7) (N := 36) (C := RX7) 0 k19 rfl rfl (by decide) rfl q689 rfl (tyX7_ok 0 (by decide)) dX7_placeOf_83 ?_
            refine xJ.nmH (fun σ18 e9 => ?_)
            have h := h σ18 e9
            have r18 : hR σ18 = hR σ17 ∧ hL σ18 = hL σ17 := by rw [e9]; exact ⟨rfl, rfl⟩
            refine x_iload hC 0 rfl dX7_placeOf_86 ?_
            refine x_if_eq (tgt := 101) hC dX7_placeOf_88 (by decide) (fun _ => ?_) (fun c25 => absurd c25 (by decide))
            refine x_iconst (v := (-1)) hC dX7_placeOf_101 (by decide) ?_
            exact x_iret hC hr dX7_placeOf_102 (by decide) (by decide) ⟨rfl, _, rfl, h⟩
          · have h := h.2 c23
            refine x_iconst (v := 1) hC dX7_placeOf_69 (by decide) ?_
            refine x_goto (tgt := 83) hC dX7_placeOf_70 (by decide) ?_
            have k20 : hK σ17 this = 8 := (hag9 this (by rw [k18]; decide)).1.trans k18
            refine x_putI (n0 := this) hC (ci := 7) (T := TX7) (N := 36) (C := RX7) 0 k20 rfl rfl (by decide) rfl q689 rfl (tyX7_ok 0 (by decide)) dX7_placeOf_83 ?_
            refine xJ.nmH (fun σ19 e10 => ?_)
            have h := h σ19 e10
            have r19 : hR σ19 = hR σ17 ∧ hL σ19 = hL σ17 := by rw [e10]; exact ⟨rfl, rfl⟩
            refine x_iload hC 0 rfl dX7_placeOf_86 ?_
            refine x_if_eq (tgt := 101) hC dX7_placeOf_88 (by decide) (fun _ => ?_) (fun c26 => absurd c26 (by decide))
            refine x_iconst (v := (-1)) hC dX7_placeOf_101 (by decide) ?_
            exact x_iret hC hr dX7_placeOf_102 (by decide) (by decide) ⟨rfl, _, rfl, h⟩
        · have h := h.2 c22
          refine x_iconst (v := 1) hC dX7_placeOf_53 (by decide) ?_
          refine x_goto (tgt := 58) hC dX7_placeOf_54 (by decide) ?_
          refine x_istore (L' := [(5, .int 1), (4, .int r5), (0, .ref (ρ this)), (1, .int p1), (2, .int p2), (3, .int p3)]) hC dX7_placeOf_58 (by decide) (by first | rfl | simp (decide := true) [rv_cat, cat_ref, cat_int]) ?_
          refine x_aload_n hC 2 rfl dX7_placeOf_60 ?_
          refine x_aload_n hC 2 rfl dX7_placeOf_61 ?_
          refine x_iload_n hC 3 rfl dX7_placeOf_62 ?_
          have k21 : hK σ5 this = 8 := (hag3 this (by rw [k5]; decide)).1.trans k5
          have k22 : hK σ16 this = 8 := (hag8 this (by rw [k21]; decide)).1.trans k21
          refine x_callV (n0 := this) (as := [.int p1]) (rest := [.ref (ρ this)]) hC (ci := 7) (r := (RX7, TX7, 36)) k22 rfl (fun l hl => m7_isSubscription l hl G ρ this p1 σ16 _ h) q820 q822 s14 q3 q823 ⟨rfl, hd7_isSubscription⟩ (by decide) ⟨(by decide), (by decide)⟩ (by first | exact Nat.le_of_ble_eq_true rfl | (simp [rv_cat]; done) | (simp (decide := true) [rv_cat, cat_ref, cat_int]; done)) rfl dX7_placeOf_63 (fun E σ9 hx => False.elim hx) (fun v11 σ20 ρ10 hp10 hag10 => ?_)
          obtain ⟨e9, r20, e8, h⟩ := hp10
          rw [e8, e9]
          refine xJ.nrm (k' := 0) (n' := 0) (pc' := 66) (st' := [.int r20, .ref (ρ this)]) rfl rfl rfl rfl ?_
          refine x_if_ne (tgt := 73) hC dX7_placeOf_66 (by decide) (fun c27 => ?_) (fun c27 => ?_)
          · have h := h.1 c27
            refine x_iload hC 0 rfl dX7_placeOf_73 ?_
            refine x_if_eq (tgt := 82) hC dX7_placeOf_75 (by decide) (fun c28 => absurd c28 (by decide)) (fun _ => ?_)
            refine x_iconst (v := 0) hC dX7_placeOf_78 (by decide) ?_
            refine x_goto (tgt := 83) hC dX7_placeOf_79 (by decide) ?_
            have k23 : hK σ20 this = 8 := (hag10 this (by rw [k22]; decide)).1.trans k22
            refine x_putI (n0 := this) hC (ci := 7) (T := TX7) (N := 36) (C := RX7) 0 k23 rfl rfl (by decide) rfl q689 rfl (tyX7_ok 0 (by decide)) dX7_placeOf_83 ?_
            refine xJ.nmH (fun σ21 e11 => ?_)
            have h := h σ21 e11
            have r21 : hR σ21 = hR σ20 ∧ hL σ21 = hL σ20 := by rw [e11]; exact ⟨rfl, rfl⟩
            refine x_iload hC 0 rfl dX7_placeOf_86 ?_
            refine x_if_eq (tgt := 101) hC dX7_placeOf_88 (by decide) (fun c29 => absurd c29 (by decide)) (fun _ => ?_)
            refine x_bipush (v := 10) hC dX7_placeOf_91 (by decide) ?_
            refine x_iload hC 1 rfl dX7_placeOf_93 ?_
            refine x_imul hC dX7_placeOf_95 ?_
            refine x_iload_n hC 5 rfl dX7_placeOf_96 ?_
            refine x_iadd hC dX7_placeOf_97 ?_
            refine x_goto (tgt := 102) hC dX7_placeOf_98 (by decide) ?_
            exact x_iret hC hr dX7_placeOf_102 (by decide) (by decide) ⟨rfl, _, rfl, h⟩
          · have h := h.2 c27
            refine x_iconst (v := 1) hC dX7_placeOf_69 (by decide) ?_
            refine x_goto (tgt := 83) hC dX7_placeOf_70 (by decide) ?_
            have k24 : hK σ20 this = 8 := (hag10 this (by rw [k22]; decide)).1.trans k22
            refine x_putI (n0 := this) hC (ci := 7) (T := TX7) (N := 36) (C := RX7) 0 k24 rfl rfl (by decide) rfl q689 rfl (tyX7_ok 0 (by decide)) dX7_placeOf_83 ?_
            refine xJ.nmH (fun σ22 e12 => ?_)
            have h := h σ22 e12
            have r22 : hR σ22 = hR σ20 ∧ hL σ22 = hL σ20 := by rw [e12]; exact ⟨rfl, rfl⟩
            refine x_iload hC 0 rfl dX7_placeOf_86 ?_
            refine x_if_eq (tgt := 101) hC dX7_placeOf_88 (by decide) (fun c30 => absurd c30 (by decide)) (fun _ => ?_)
            refine x_bipush (v := 10) hC dX7_placeOf_91 (by decide) ?_
            refine x_iload hC 1 rfl dX7_placeOf_93 ?_
            refine x_imul hC dX7_placeOf_95 ?_
            refine x_iload_n hC 5 rfl dX7_placeOf_96 ?_
            refine x_iadd hC dX7_placeOf_97 ?_
            refine x_goto (tgt := 102) hC dX7_placeOf_98 (by decide) ?_
            exact x_iret hC hr dX7_placeOf_102 (by decide) (by decide) ⟨rfl, _, rfl, h⟩
/-! PlantServerModel.valueAt -/
theorem dX7_valueAt_0 : decode cX7_valueAt 0 = .ok (.aload_n 0, 1) := by decide +kernel
theorem dX7_valueAt_1 : decode cX7_valueAt 1 = .ok (.iload_n 1, 1) := by decide +kernel
theorem dX7_valueAt_2 : decode cX7_valueAt 2 = .ok (.iload_n 2, 1) := by decide +kernel
theorem dX7_valueAt_3 : decode cX7_valueAt 3 = .ok (.iload_n 3, 1) := by decide +kernel
theorem dX7_valueAt_4 : decode cX7_valueAt 4 = .ok (.invokevirtual 177, 3) := by decide +kernel
theorem dX7_valueAt_7 : decode cX7_valueAt 7 = .ok (.istore 4, 2) := by decide +kernel
theorem dX7_valueAt_9 : decode cX7_valueAt 9 = .ok (.iload 4, 2) := by decide +kernel
theorem dX7_valueAt_11 : decode cX7_valueAt 11 = .ok (.iconst (-1), 1) := by decide +kernel
theorem dX7_valueAt_12 : decode cX7_valueAt 12 = .ok (.if_icmp .ne 7, 3) := by decide +kernel
theorem dX7_valueAt_15 : decode cX7_valueAt 15 = .ok (.iconst 0, 1) := by decide +kernel
theorem dX7_valueAt_16 : decode cX7_valueAt 16 = .ok (.goto 10, 3) := by decide +kernel
theorem dX7_valueAt_19 : decode cX7_valueAt 19 = .ok (.aload_n 0, 1) := by decide +kernel
theorem dX7_valueAt_20 : decode cX7_valueAt 20 = .ok (.getfield 95, 3) := by decide +kernel
theorem dX7_valueAt_23 : decode cX7_valueAt 23 = .ok (.iload 4, 2) := by decide +kernel
theorem dX7_valueAt_25 : decode cX7_valueAt 25 = .ok (.iaload, 1) := by decide +kernel
theorem dX7_valueAt_26 : decode cX7_valueAt 26 = .ok (.ireturn, 1) := by decide +kernel
abbrev rm7_valueAt : Room := { frames := 3, cells := 0, slots := 0, locals := 68 }
theorem hd7_valueAt : yX7_valueAt.cls ≠ "java/lang/invoke/MethodHandle" ∧ yX7_valueAt.cls ≠ "java/lang/invoke/VarHandle" ∧ (parseMethodDescriptor yX7_valueAt.desc).map (fun d => d.parameters.length) = some 3 := by decide +kernel
set_option maxHeartbeats 4000000 in
set_option maxRecDepth 20000 in
theorem m7_valueAt (l : Launch) (hl : l.stackTraces = false) (G : xG) (ρ : Nm → Nat) (this : Nm) (p1 : Int32) (p2 : Int32) (p3 : Int32) (σ : PH) (Q : Int32 → PH → Prop) (h : w7_valueAt this p1 p2 p3 σ Q) : xMet l yX7_valueAt (.code yX7_valueAt cX7_valueAt 5 (some .int)) rm7_valueAt G ρ σ [.ref (ρ this), .int p1, .int p2, .int p3] (eI ρ Q) xNo := by
  refine xMet.of hl (by decide +kernel) (Nat.le_of_ble_eq_true rfl) (fun X hC hr hn htab h0 => ?_)
  have hC : xC G X "PlantServerModel" cX7_valueAt 5 rm7_valueAt := hC
  unfold w7_valueAt at h
  refine xJ.loc (L' := [(0, .ref (ρ this)), (1, .int p1), (2, .int p2), (3, .int p3)]) rfl ?_
  refine x_aload_n hC 0 rfl dX7_valueAt_0 ?_
  refine x_iload_n hC 1 rfl dX7_valueAt_1 ?_
  refine x_iload_n hC 2 rfl dX7_valueAt_2 ?_
  refine x_iload_n hC 3 rfl dX7_valueAt_3 ?_
  obtain ⟨k1, h⟩ := h
  refine x_callV (n0 := this) (as := [.int p1, .int p2, .int p3]) (rest := []) hC (ci := 7) (r := (RX7, TX7, 36)) k1 rfl (fun l hl => m7_placeOf l hl G ρ this p1 p2 p3 σ _ h) q916 q918 s28 q3 q919 ⟨rfl, hd7_placeOf⟩ (by decide) ⟨(by decide), (by decide)⟩ (by first | exact Nat.le_of_ble_eq_true rfl | (simp [rv_cat]; done) | (simp (decide := true) [rv_cat, cat_ref, cat_int]; done)) rfl dX7_valueAt_4 (fun E σ9 hx => False.elim hx) (fun v1 σ1 ρ1 hp1 hag1 => ?_)
  obtain ⟨e9, r1, e8, h⟩ := hp1
  rw [e8, e9]
  refine xJ.nrm (k' := 0) (n' := 0) (pc' := 7) (st' := [.int r1]) rfl rfl rfl rfl ?_
  refine x_istore (L' := [(4, .int r1), (0, .ref (ρ this)), (1, .int p1), (2, .int p2), (3, .int p3)]) hC dX7_valueAt_7 (by decide) (by first | rfl | simp (decide := true) [rv_cat, cat_ref, cat_int]) ?_
  refine x_iload hC 0 rfl dX7_valueAt_9 ?_
  refine x_iconst (v := (-1)) hC dX7_valueAt_11 (by decide) ?_
  refine x_icmp_ne (tgt := 19) hC dX7_valueAt_12 (by decide) (fun c1 => ?_) (fun c1 => ?_)
  · have h := h.1 c1
    refine x_aload_n hC 1 rfl dX7_valueAt_19 ?_
    have k2 : hK σ1 this = 8 := (hag1 this (by rw [k1]; decide)).1.trans k1
    refine x_getR (n0 := this) hC (ci := 7) (T := TX7) (N := 36) (C := RX7) 32 k2 rfl rfl (by decide) rfl q721 dX7_valueAt_20 ?_
    refine x_iload hC 0 rfl dX7_valueAt_23 ?_
    obtain ⟨m1, hm1, h⟩ := h
    rw [show rv ρ (hR σ1 this 32) = Value.ref (ρ m1) from by rw [hm1]; rfl]
    obtain ⟨k3, h⟩ := h
    obtain ⟨v2, h⟩ := h
    refine x_iald (a := m1) hC k3 v2 dX7_valueAt_25 ?_
    exact x_iret hC hr dX7_valueAt_26 (by decide) (by decide) ⟨rfl, _, rfl, h⟩
  · have h := h.2 c1
    refine x_iconst (v := 0) hC dX7_valueAt_15 (by decide) ?_
    refine x_goto (tgt := 26) hC dX7_valueAt_16 (by decide) ?_
    exact x_iret hC hr dX7_valueAt_26 (by decide) (by decide) ⟨rfl, _, rfl, h⟩
/-! PlantServer.itemAt -/
theorem dX6_itemAt_0 : decode cX6_itemAt 0 = .ok (.aload_n 0, 1) := by decide +kernel
theorem dX6_itemAt_1 : decode cX6_itemAt 1 = .ok (.iload_n 1, 1) := by decide +kernel
theorem dX6_itemAt_2 : decode cX6_itemAt 2 = .ok (.iload_n 2, 1) := by decide +kernel
theorem dX6_itemAt_3 : decode cX6_itemAt 3 = .ok (.iload_n 3, 1) := by decide +kernel
theorem dX6_itemAt_4 : decode cX6_itemAt 4 = .ok (.invokevirtual 152, 3) := by decide +kernel
theorem dX6_itemAt_7 : decode cX6_itemAt 7 = .ok (.getfield 159, 3) := by decide +kernel
theorem dX6_itemAt_10 : decode cX6_itemAt 10 = .ok (.iload_n 3, 1) := by decide +kernel
theorem dX6_itemAt_11 : decode cX6_itemAt 11 = .ok (.iaload, 1) := by decide +kernel
theorem dX6_itemAt_12 : decode cX6_itemAt 12 = .ok (.ireturn, 1) := by decide +kernel
abbrev rm6_itemAt : Room := { frames := 8, cells := 2, slots := 12, locals := 136 }
theorem hd6_itemAt : yX6_itemAt.cls ≠ "java/lang/invoke/MethodHandle" ∧ yX6_itemAt.cls ≠ "java/lang/invoke/VarHandle" ∧ (parseMethodDescriptor yX6_itemAt.desc).map (fun d => d.parameters.length) = some 3 := by decide +kernel
set_option maxHeartbeats 4000000 in
set_option maxRecDepth 20000 in
theorem m6_itemAt (l : Launch) (hl : l.stackTraces = false) (G : xG) (ρ : Nm → Nat) (this : Nm) (p1 : Int32) (p2 : Int32) (p3 : Int32) (σ : PH) (Q : Int32 → PH → Prop) (Xp : String → PH → Prop) (h : w6_itemAt this p1 p2 p3 σ Q Xp) : xMet l yX6_itemAt (.code yX6_itemAt cX6_itemAt 4 (some .int)) rm6_itemAt G ρ σ [.ref (ρ this), .int p1, .int p2, .int p3] (eI ρ Q) Xp := by
  refine xMet.of hl (by decide +kernel) (Nat.le_of_ble_eq_true rfl) (fun X hC hr hn htab h0 => ?_)
  have hC : xC G X "PlantServer" cX6_itemAt 4 rm6_itemAt := hC
  unfold w6_itemAt at h
  refine xJ.loc (L' := [(0, .ref (ρ this)), (1, .int p1), (2, .int p2), (3, .int p3)]) rfl ?_
  refine x_aload_n hC 0 rfl dX6_itemAt_0 ?_
  refine x_iload_n hC 1 rfl dX6_itemAt_1 ?_
  refine x_iload_n hC 2 rfl dX6_itemAt_2 ?_
  refine x_iload_n hC 3 rfl dX6_itemAt_3 ?_
  obtain ⟨k1, h⟩ := h
  refine x_callV (n0 := this) (as := [.int p1, .int p2, .int p3]) (rest := []) hC (ci := 6) (r := (RX6, TX6, 9)) k1 rfl (fun l hl => m6_messageWith l hl G ρ this p1 p2 p3 σ _ Xp h) q593 q595 s11 q1 q596 ⟨rfl, hd6_messageWith⟩ (by decide) ⟨(by decide), (by decide)⟩ (by first | exact Nat.le_of_ble_eq_true rfl | (simp [rv_cat]; done) | (simp (decide := true) [rv_cat, cat_ref, cat_int]; done)) rfl dX6_itemAt_4 (fun E σ9 hx => x_out hC h0 htab (by decide) (by decide) hx) (fun v1 σ1 ρ1 hp1 hag1 => ?_)
  obtain ⟨e9, r1, e8, h⟩ := hp1
  rw [e8, e9]
  refine xJ.nrm (k' := 2) (n' := 12) (pc' := 7) (st' := [rv ρ r1]) rfl rfl rfl rfl ?_
  obtain ⟨m1, hm1, h⟩ := h
  rw [show rv ρ r1 = Value.ref (ρ m1) from by rw [hm1]; rfl]
  obtain ⟨k2, h⟩ := h
  refine x_getR (n0 := m1) hC (ci := 2) (T := TX2) (N := 5) (C := RX2) 1 k2 rfl rfl (by decide) rfl q526 dX6_itemAt_7 ?_
  refine x_iload_n hC 3 rfl dX6_itemAt_10 ?_
  obtain ⟨m2, hm2, h⟩ := h
  rw [show rv ρ (hR σ1 m1 1) = Value.ref (ρ m2) from by rw [hm2]; rfl]
  obtain ⟨k3, h⟩ := h
  obtain ⟨v2, h⟩ := h
  refine x_iald (a := m2) hC k3 v2 dX6_itemAt_11 ?_
  exact x_iret hC hr dX6_itemAt_12 (by decide) (by decide) ⟨rfl, _, rfl, h⟩
/-! PlantServerLaw.itemAt -/
theorem dL_itemAt_0 : decode cL_itemAt 0 = .ok (.aload 4, 2) := by decide +kernel
theorem dL_itemAt_2 : decode cL_itemAt 2 = .ok (.iconst 0, 1) := by decide +kernel
theorem dL_itemAt_3 : decode cL_itemAt 3 = .ok (.aload_n 0, 1) := by decide +kernel
theorem dL_itemAt_4 : decode cL_itemAt 4 = .ok (.iload_n 1, 1) := by decide +kernel
theorem dL_itemAt_5 : decode cL_itemAt 5 = .ok (.iload_n 2, 1) := by decide +kernel
theorem dL_itemAt_6 : decode cL_itemAt 6 = .ok (.iload_n 3, 1) := by decide +kernel
theorem dL_itemAt_7 : decode cL_itemAt 7 = .ok (.invokevirtual 59, 3) := by decide +kernel
theorem dL_itemAt_10 : decode cL_itemAt 10 = .ok (.i2l, 1) := by decide +kernel
theorem dL_itemAt_11 : decode cL_itemAt 11 = .ok (.lastore, 1) := by decide +kernel
theorem dL_itemAt_12 : decode cL_itemAt 12 = .ok (.goto 11, 3) := by decide +kernel
theorem dL_itemAt_15 : decode cL_itemAt 15 = .ok (.astore 5, 2) := by decide +kernel
theorem dL_itemAt_17 : decode cL_itemAt 17 = .ok (.iconst 1, 1) := by decide +kernel
theorem dL_itemAt_18 : decode cL_itemAt 18 = .ok (.ireturn, 1) := by decide +kernel
theorem dL_itemAt_19 : decode cL_itemAt 19 = .ok (.astore 5, 2) := by decide +kernel
theorem dL_itemAt_21 : decode cL_itemAt 21 = .ok (.iconst 2, 1) := by decide +kernel
theorem dL_itemAt_22 : decode cL_itemAt 22 = .ok (.ireturn, 1) := by decide +kernel
theorem dL_itemAt_23 : decode cL_itemAt 23 = .ok (.iconst 0, 1) := by decide +kernel
theorem dL_itemAt_24 : decode cL_itemAt 24 = .ok (.ireturn, 1) := by decide +kernel
abbrev rmL_itemAt : Room := { frames := 9, cells := 2, slots := 12, locals := 159 }
theorem hdL_itemAt : yL_itemAt.cls ≠ "java/lang/invoke/MethodHandle" ∧ yL_itemAt.cls ≠ "java/lang/invoke/VarHandle" ∧ (parseMethodDescriptor yL_itemAt.desc).map (fun d => d.parameters.length) = some 5 := by decide +kernel
set_option maxHeartbeats 4000000 in
set_option maxRecDepth 20000 in
theorem mL_itemAt (l : Launch) (hl : l.stackTraces = false) (G : xG) (ρ : Nm → Nat) (a1 : Nm) (p2 : Int32) (p3 : Int32) (p4 : Int32) (a5 : Nm) (σ : PH) (Q : Int32 → PH → Prop) (h : wL_itemAt a1 p2 p3 p4 a5 σ Q) : xMet l yL_itemAt (.codeWith yL_itemAt cL_itemAt 6 (some .int) [(0, 12, 15, 13), (0, 12, 19, 57)]) rmL_itemAt G ρ σ [.ref (ρ a1), .int p2, .int p3, .int p4, .ref (ρ a5)] (eI ρ Q) xNo := by
  refine xMet.ofW hl (by decide +kernel) (Nat.le_of_ble_eq_true rfl) (fun X hC hr hn htab h0 => ?_)
  have hC : xC G X "PlantServerLaw" cL_itemAt 6 rmL_itemAt := hC
  unfold wL_itemAt at h
  refine xJ.loc (L' := [(0, .ref (ρ a1)), (1, .int p2), (2, .int p3), (3, .int p4), (4, .ref (ρ a5))]) rfl ?_
  refine x_aload hC 4 rfl dL_itemAt_0 ?_
  refine x_iconst (v := 0) hC dL_itemAt_2 (by decide) ?_
  refine x_aload_n hC 0 rfl dL_itemAt_3 ?_
  refine x_iload_n hC 1 rfl dL_itemAt_4 ?_
  refine x_iload_n hC 2 rfl dL_itemAt_5 ?_
  refine x_iload_n hC 3 rfl dL_itemAt_6 ?_
  obtain ⟨k1, h⟩ := h
  refine x_callV (n0 := a1) (as := [.int p2, .int p3, .int p4]) (rest := [.int 0, .ref (ρ a5)]) hC (ci := 6) (r := (RX6, TX6, 9)) k1 rfl (fun l hl => m6_itemAt l hl G ρ a1 p2 p3 p4 σ _ _ h) q617 q618 q619 q1 q620 ⟨rfl, hd6_itemAt⟩ (by decide) ⟨(by decide), (by decide)⟩ (by first | exact Nat.le_of_ble_eq_true rfl | (simp [rv_cat]; done) | (simp (decide := true) [rv_cat, cat_ref, cat_int]; done)) rfl dL_itemAt_7 (fun E σ2 hx => ?_) (fun v1 σ1 ρ1 hp1 hag1 => ?_)
  · have hE9 := hx.2.2
    rcases hE9 with he | he
    · have h := hx.1 he
      subst he
      refine x_catch hC [] [(0, 12, 19, 57)] (0, 12, 15, 13) htab (by intro z hz; simp at hz) (by decide) (by decide) q89 xcast_xIO (fun qx1 => ?_)
      refine xJ.nrm (k' := 2) (n' := 12) (pc' := 15) (st' := [.ref qx1]) rfl rfl rfl rfl ?_
      refine x_astore (L' := [(5, .ref qx1), (0, .ref (ρ a1)), (1, .int p2), (2, .int p3), (3, .int p4), (4, .ref (ρ a5))]) hC dL_itemAt_15 (by decide) (by first | rfl | simp (decide := true) [rv_cat, cat_ref, cat_int]) ?_
      refine x_iconst (v := 1) hC dL_itemAt_17 (by decide) ?_
      exact x_iret hC hr dL_itemAt_18 (by decide) (by decide) ⟨rfl, _, rfl, h⟩
    · have h := hx.2.1 he
      subst he
      refine x_catch hC [(0, 12, 15, 13)] [] (0, 12, 19, 57) htab (xpass1 (E := xNE) q89 (by decide) (by decide +kernel)) (by decide) (by decide) q588 xcast_xNE (fun qx2 => ?_)
      refine xJ.nrm (k' := 2) (n' := 12) (pc' := 19) (st' := [.ref qx2]) rfl rfl rfl rfl ?_
      refine x_astore (L' := [(5, .ref qx2), (0, .ref (ρ a1)), (1, .int p2), (2, .int p3), (3, .int p4), (4, .ref (ρ a5))]) hC dL_itemAt_19 (by decide) (by first | rfl | simp (decide := true) [rv_cat, cat_ref, cat_int]) ?_
      refine x_iconst (v := 2) hC dL_itemAt_21 (by decide) ?_
      exact x_iret hC hr dL_itemAt_22 (by decide) (by decide) ⟨rfl, _, rfl, h⟩
  · obtain ⟨e9, r1, e8, h⟩ := hp1
    rw [e8, e9]
    refine xJ.nrm (k' := 2) (n' := 12) (pc' := 10) (st' := [.int r1, .int 0, .ref (ρ a5)]) rfl rfl rfl rfl ?_
    refine x_i2l hC dL_itemAt_10 ?_
    obtain ⟨k2, h⟩ := h
    obtain ⟨v2, h⟩ := h
    refine x_last (a := a5) hC k2 v2 dL_itemAt_11 ?_
    refine xJ.nmH (fun σ3 e1 => ?_)
    have h := h σ3 e1
    have r2 : hR σ3 = hR σ1 ∧ hL σ3 = hL σ1 := by rw [e1]; exact ⟨rfl, rfl⟩
    refine x_goto (tgt := 23) hC dL_itemAt_12 (by decide) ?_
    refine x_iconst (v := 0) hC dL_itemAt_23 (by decide) ?_
    exact x_iret hC hr dL_itemAt_24 (by decide) (by decide) ⟨rfl, _, rfl, h⟩
/-! PlantServerModel.itemAt -/
theorem dX7_itemAt_0 : decode cX7_itemAt 0 = .ok (.aload_n 0, 1) := by decide +kernel
theorem dX7_itemAt_1 : decode cX7_itemAt 1 = .ok (.iload_n 1, 1) := by decide +kernel
theorem dX7_itemAt_2 : decode cX7_itemAt 2 = .ok (.iload_n 2, 1) := by decide +kernel
theorem dX7_itemAt_3 : decode cX7_itemAt 3 = .ok (.iload_n 3, 1) := by decide +kernel
theorem dX7_itemAt_4 : decode cX7_itemAt 4 = .ok (.invokevirtual 177, 3) := by decide +kernel
theorem dX7_itemAt_7 : decode cX7_itemAt 7 = .ok (.istore 4, 2) := by decide +kernel
theorem dX7_itemAt_9 : decode cX7_itemAt 9 = .ok (.iload 4, 2) := by decide +kernel
theorem dX7_itemAt_11 : decode cX7_itemAt 11 = .ok (.iconst (-1), 1) := by decide +kernel
theorem dX7_itemAt_12 : decode cX7_itemAt 12 = .ok (.if_icmp .ne 7, 3) := by decide +kernel
theorem dX7_itemAt_15 : decode cX7_itemAt 15 = .ok (.iconst 0, 1) := by decide +kernel
theorem dX7_itemAt_16 : decode cX7_itemAt 16 = .ok (.goto 10, 3) := by decide +kernel
theorem dX7_itemAt_19 : decode cX7_itemAt 19 = .ok (.aload_n 0, 1) := by decide +kernel
theorem dX7_itemAt_20 : decode cX7_itemAt 20 = .ok (.getfield 98, 3) := by decide +kernel
theorem dX7_itemAt_23 : decode cX7_itemAt 23 = .ok (.iload 4, 2) := by decide +kernel
theorem dX7_itemAt_25 : decode cX7_itemAt 25 = .ok (.iaload, 1) := by decide +kernel
theorem dX7_itemAt_26 : decode cX7_itemAt 26 = .ok (.ireturn, 1) := by decide +kernel
abbrev rm7_itemAt : Room := { frames := 3, cells := 0, slots := 0, locals := 68 }
theorem hd7_itemAt : yX7_itemAt.cls ≠ "java/lang/invoke/MethodHandle" ∧ yX7_itemAt.cls ≠ "java/lang/invoke/VarHandle" ∧ (parseMethodDescriptor yX7_itemAt.desc).map (fun d => d.parameters.length) = some 3 := by decide +kernel
set_option maxHeartbeats 4000000 in
set_option maxRecDepth 20000 in
theorem m7_itemAt (l : Launch) (hl : l.stackTraces = false) (G : xG) (ρ : Nm → Nat) (this : Nm) (p1 : Int32) (p2 : Int32) (p3 : Int32) (σ : PH) (Q : Int32 → PH → Prop) (h : w7_itemAt this p1 p2 p3 σ Q) : xMet l yX7_itemAt (.code yX7_itemAt cX7_itemAt 5 (some .int)) rm7_itemAt G ρ σ [.ref (ρ this), .int p1, .int p2, .int p3] (eI ρ Q) xNo := by
  refine xMet.of hl (by decide +kernel) (Nat.le_of_ble_eq_true rfl) (fun X hC hr hn htab h0 => ?_)
  have hC : xC G X "PlantServerModel" cX7_itemAt 5 rm7_itemAt := hC
  unfold w7_itemAt at h
  refine xJ.loc (L' := [(0, .ref (ρ this)), (1, .int p1), (2, .int p2), (3, .int p3)]) rfl ?_
  refine x_aload_n hC 0 rfl dX7_itemAt_0 ?_
  refine x_iload_n hC 1 rfl dX7_itemAt_1 ?_
  refine x_iload_n hC 2 rfl dX7_itemAt_2 ?_
  refine x_iload_n hC 3 rfl dX7_itemAt_3 ?_
  obtain ⟨k1, h⟩ := h
  refine x_callV (n0 := this) (as := [.int p1, .int p2, .int p3]) (rest := []) hC (ci := 7) (r := (RX7, TX7, 36)) k1 rfl (fun l hl => m7_placeOf l hl G ρ this p1 p2 p3 σ _ h) q916 q918 s28 q3 q919 ⟨rfl, hd7_placeOf⟩ (by decide) ⟨(by decide), (by decide)⟩ (by first | exact Nat.le_of_ble_eq_true rfl | (simp [rv_cat]; done) | (simp (decide := true) [rv_cat, cat_ref, cat_int]; done)) rfl dX7_itemAt_4 (fun E σ9 hx => False.elim hx) (fun v1 σ1 ρ1 hp1 hag1 => ?_)
  obtain ⟨e9, r1, e8, h⟩ := hp1
  rw [e8, e9]
  refine xJ.nrm (k' := 0) (n' := 0) (pc' := 7) (st' := [.int r1]) rfl rfl rfl rfl ?_
  refine x_istore (L' := [(4, .int r1), (0, .ref (ρ this)), (1, .int p1), (2, .int p2), (3, .int p3)]) hC dX7_itemAt_7 (by decide) (by first | rfl | simp (decide := true) [rv_cat, cat_ref, cat_int]) ?_
  refine x_iload hC 0 rfl dX7_itemAt_9 ?_
  refine x_iconst (v := (-1)) hC dX7_itemAt_11 (by decide) ?_
  refine x_icmp_ne (tgt := 19) hC dX7_itemAt_12 (by decide) (fun c1 => ?_) (fun c1 => ?_)
  · have h := h.1 c1
    refine x_aload_n hC 1 rfl dX7_itemAt_19 ?_
    have k2 : hK σ1 this = 8 := (hag1 this (by rw [k1]; decide)).1.trans k1
    refine x_getR (n0 := this) hC (ci := 7) (T := TX7) (N := 36) (C := RX7) 33 k2 rfl rfl (by decide) rfl q722 dX7_itemAt_20 ?_
    refine x_iload hC 0 rfl dX7_itemAt_23 ?_
    obtain ⟨m1, hm1, h⟩ := h
    rw [show rv ρ (hR σ1 this 33) = Value.ref (ρ m1) from by rw [hm1]; rfl]
    obtain ⟨k3, h⟩ := h
    obtain ⟨v2, h⟩ := h
    refine x_iald (a := m1) hC k3 v2 dX7_itemAt_25 ?_
    exact x_iret hC hr dX7_itemAt_26 (by decide) (by decide) ⟨rfl, _, rfl, h⟩
  · have h := h.2 c1
    refine x_iconst (v := 0) hC dX7_itemAt_15 (by decide) ?_
    refine x_goto (tgt := 26) hC dX7_itemAt_16 (by decide) ?_
    exact x_iret hC hr dX7_itemAt_26 (by decide) (by decide) ⟨rfl, _, rfl, h⟩
/-! PlantServer.isMarked -/
theorem dX6_isMarked_0 : decode cX6_isMarked 0 = .ok (.aload_n 0, 1) := by decide +kernel
theorem dX6_isMarked_1 : decode cX6_isMarked 1 = .ok (.iload_n 1, 1) := by decide +kernel
theorem dX6_isMarked_2 : decode cX6_isMarked 2 = .ok (.iload_n 2, 1) := by decide +kernel
theorem dX6_isMarked_3 : decode cX6_isMarked 3 = .ok (.iload_n 3, 1) := by decide +kernel
theorem dX6_isMarked_4 : decode cX6_isMarked 4 = .ok (.invokevirtual 152, 3) := by decide +kernel
theorem dX6_isMarked_7 : decode cX6_isMarked 7 = .ok (.getfield 161, 3) := by decide +kernel
theorem dX6_isMarked_10 : decode cX6_isMarked 10 = .ok (.iload_n 3, 1) := by decide +kernel
theorem dX6_isMarked_11 : decode cX6_isMarked 11 = .ok (.baload, 1) := by decide +kernel
theorem dX6_isMarked_12 : decode cX6_isMarked 12 = .ok (.ireturn, 1) := by decide +kernel
abbrev rm6_isMarked : Room := { frames := 8, cells := 2, slots := 12, locals := 136 }
theorem hd6_isMarked : yX6_isMarked.cls ≠ "java/lang/invoke/MethodHandle" ∧ yX6_isMarked.cls ≠ "java/lang/invoke/VarHandle" ∧ (parseMethodDescriptor yX6_isMarked.desc).map (fun d => d.parameters.length) = some 3 := by decide +kernel
set_option maxHeartbeats 4000000 in
set_option maxRecDepth 20000 in
theorem m6_isMarked (l : Launch) (hl : l.stackTraces = false) (G : xG) (ρ : Nm → Nat) (this : Nm) (p1 : Int32) (p2 : Int32) (p3 : Int32) (σ : PH) (Q : Int32 → PH → Prop) (Xp : String → PH → Prop) (h : w6_isMarked this p1 p2 p3 σ Q Xp) : xMet l yX6_isMarked (.code yX6_isMarked cX6_isMarked 4 (some .boolean)) rm6_isMarked G ρ σ [.ref (ρ this), .int p1, .int p2, .int p3] (eI ρ Q) Xp := by
  refine xMet.of hl (by decide +kernel) (Nat.le_of_ble_eq_true rfl) (fun X hC hr hn htab h0 => ?_)
  have hC : xC G X "PlantServer" cX6_isMarked 4 rm6_isMarked := hC
  unfold w6_isMarked at h
  refine xJ.loc (L' := [(0, .ref (ρ this)), (1, .int p1), (2, .int p2), (3, .int p3)]) rfl ?_
  refine x_aload_n hC 0 rfl dX6_isMarked_0 ?_
  refine x_iload_n hC 1 rfl dX6_isMarked_1 ?_
  refine x_iload_n hC 2 rfl dX6_isMarked_2 ?_
  refine x_iload_n hC 3 rfl dX6_isMarked_3 ?_
  obtain ⟨k1, h⟩ := h
  refine x_callV (n0 := this) (as := [.int p1, .int p2, .int p3]) (rest := []) hC (ci := 6) (r := (RX6, TX6, 9)) k1 rfl (fun l hl => m6_messageWith l hl G ρ this p1 p2 p3 σ _ Xp h) q593 q595 s11 q1 q596 ⟨rfl, hd6_messageWith⟩ (by decide) ⟨(by decide), (by decide)⟩ (by first | exact Nat.le_of_ble_eq_true rfl | (simp [rv_cat]; done) | (simp (decide := true) [rv_cat, cat_ref, cat_int]; done)) rfl dX6_isMarked_4 (fun E σ9 hx => x_out hC h0 htab (by decide) (by decide) hx) (fun v1 σ1 ρ1 hp1 hag1 => ?_)
  obtain ⟨e9, r1, e8, h⟩ := hp1
  rw [e8, e9]
  refine xJ.nrm (k' := 2) (n' := 12) (pc' := 7) (st' := [rv ρ r1]) rfl rfl rfl rfl ?_
  obtain ⟨m1, hm1, h⟩ := h
  rw [show rv ρ r1 = Value.ref (ρ m1) from by rw [hm1]; rfl]
  obtain ⟨k2, h⟩ := h
  refine x_getR (n0 := m1) hC (ci := 2) (T := TX2) (N := 5) (C := RX2) 2 k2 rfl rfl (by decide) rfl q528 dX6_isMarked_7 ?_
  refine x_iload_n hC 3 rfl dX6_isMarked_10 ?_
  obtain ⟨m2, hm2, h⟩ := h
  rw [show rv ρ (hR σ1 m1 2) = Value.ref (ρ m2) from by rw [hm2]; rfl]
  obtain ⟨k3, h⟩ := h
  obtain ⟨v2, h⟩ := h
  refine x_zald (a := m2) hC k3 v2 dX6_isMarked_11 ?_
  obtain ⟨zh1, h⟩ := h
  exact x_zret hC hr zh1 dX6_isMarked_12 (by decide) (by decide) ⟨rfl, _, rfl, h⟩
/-! PlantServerLaw.isMarked -/
theorem dL_isMarked_0 : decode cL_isMarked 0 = .ok (.aload 4, 2) := by decide +kernel
theorem dL_isMarked_2 : decode cL_isMarked 2 = .ok (.iconst 0, 1) := by decide +kernel
theorem dL_isMarked_3 : decode cL_isMarked 3 = .ok (.aload_n 0, 1) := by decide +kernel
theorem dL_isMarked_4 : decode cL_isMarked 4 = .ok (.iload_n 1, 1) := by decide +kernel
theorem dL_isMarked_5 : decode cL_isMarked 5 = .ok (.iload_n 2, 1) := by decide +kernel
theorem dL_isMarked_6 : decode cL_isMarked 6 = .ok (.iload_n 3, 1) := by decide +kernel
theorem dL_isMarked_7 : decode cL_isMarked 7 = .ok (.invokevirtual 62, 3) := by decide +kernel
theorem dL_isMarked_10 : decode cL_isMarked 10 = .ok (.ifCond .eq 7, 3) := by decide +kernel
theorem dL_isMarked_13 : decode cL_isMarked 13 = .ok (.lconst 1, 1) := by decide +kernel
theorem dL_isMarked_14 : decode cL_isMarked 14 = .ok (.goto 4, 3) := by decide +kernel
theorem dL_isMarked_17 : decode cL_isMarked 17 = .ok (.lconst 0, 1) := by decide +kernel
theorem dL_isMarked_18 : decode cL_isMarked 18 = .ok (.lastore, 1) := by decide +kernel
theorem dL_isMarked_19 : decode cL_isMarked 19 = .ok (.goto 11, 3) := by decide +kernel
theorem dL_isMarked_22 : decode cL_isMarked 22 = .ok (.astore 5, 2) := by decide +kernel
theorem dL_isMarked_24 : decode cL_isMarked 24 = .ok (.iconst 1, 1) := by decide +kernel
theorem dL_isMarked_25 : decode cL_isMarked 25 = .ok (.ireturn, 1) := by decide +kernel
theorem dL_isMarked_26 : decode cL_isMarked 26 = .ok (.astore 5, 2) := by decide +kernel
theorem dL_isMarked_28 : decode cL_isMarked 28 = .ok (.iconst 2, 1) := by decide +kernel
theorem dL_isMarked_29 : decode cL_isMarked 29 = .ok (.ireturn, 1) := by decide +kernel
theorem dL_isMarked_30 : decode cL_isMarked 30 = .ok (.iconst 0, 1) := by decide +kernel
theorem dL_isMarked_31 : decode cL_isMarked 31 = .ok (.ireturn, 1) := by decide +kernel
abbrev rmL_isMarked : Room := { frames := 9, cells := 2, slots := 12, locals := 159 }
theorem hdL_isMarked : yL_isMarked.cls ≠ "java/lang/invoke/MethodHandle" ∧ yL_isMarked.cls ≠ "java/lang/invoke/VarHandle" ∧ (parseMethodDescriptor yL_isMarked.desc).map (fun d => d.parameters.length) = some 5 := by decide +kernel
set_option maxHeartbeats 4000000 in
set_option maxRecDepth 20000 in
theorem mL_isMarked (l : Launch) (hl : l.stackTraces = false) (G : xG) (ρ : Nm → Nat) (a1 : Nm) (p2 : Int32) (p3 : Int32) (p4 : Int32) (a5 : Nm) (σ : PH) (Q : Int32 → PH → Prop) (h : wL_isMarked a1 p2 p3 p4 a5 σ Q) : xMet l yL_isMarked (.codeWith yL_isMarked cL_isMarked 6 (some .int) [(0, 19, 22, 13), (0, 19, 26, 57)]) rmL_isMarked G ρ σ [.ref (ρ a1), .int p2, .int p3, .int p4, .ref (ρ a5)] (eI ρ Q) xNo := by
  refine xMet.ofW hl (by decide +kernel) (Nat.le_of_ble_eq_true rfl) (fun X hC hr hn htab h0 => ?_)
  have hC : xC G X "PlantServerLaw" cL_isMarked 6 rmL_isMarked := hC
  unfold wL_isMarked at h
  refine xJ.loc (L' := [(0, .ref (ρ a1)), (1, .int p2), (2, .int p3), (3, .int p4), (4, .ref (ρ a5))]) rfl ?_
  refine x_aload hC 4 rfl dL_isMarked_0 ?_
  refine x_iconst (v := 0) hC dL_isMarked_2 (by decide) ?_
  refine x_aload_n hC 0 rfl dL_isMarked_3 ?_
  refine x_iload_n hC 1 rfl dL_isMarked_4 ?_
  refine x_iload_n hC 2 rfl dL_isMarked_5 ?_
  refine x_iload_n hC 3 rfl dL_isMarked_6 ?_
  obtain ⟨k1, h⟩ := h
  refine x_callV (n0 := a1) (as := [.int p2, .int p3, .int p4]) (rest := [.int 0, .ref (ρ a5)]) hC (ci := 6) (r := (RX6, TX6, 9)) k1 rfl (fun l hl => m6_isMarked l hl G ρ a1 p2 p3 p4 σ _ _ h) q624 q625 q626 q1 q627 ⟨rfl, hd6_isMarked⟩ (by decide) ⟨(by decide), (by decide)⟩ (by first | exact Nat.le_of_ble_eq_true rfl | (simp [rv_cat]; done) | (simp (decide := true) [rv_cat, cat_ref, cat_int]; done)) rfl dL_isMarked_7 (fun E σ2 hx => ?_) (fun v1 σ1 ρ1 hp1 hag1 => ?_)
  · have hE9 := hx.2.2
    rcases hE9 with he | he
    · have h := hx.1 he
      subst he
      refine x_catch hC [] [(0, 19, 26, 57)] (0, 19, 22, 13) htab (by intro z hz; simp at hz) (by decide) (by decide) q89 xcast_xIO (fun qx1 => ?_)
      refine xJ.nrm (k' := 2) (n' := 12) (pc' := 22) (st' := [.ref qx1]) rfl rfl rfl rfl ?_
      refine x_astore (L' := [(5, .ref qx1), (0, .ref (ρ a1)), (1, .int p2), (2, .int p3), (3, .int p4), (4, .ref (ρ a5))]) hC dL_isMarked_22 (by decide) (by first | rfl | simp (decide := true) [rv_cat, cat_ref, cat_int]) ?_
      refine x_iconst (v := 1) hC dL_isMarked_24 (by decide) ?_
      exact x_iret hC hr dL_isMarked_25 (by decide) (by decide) ⟨rfl, _, rfl, h⟩
    · have h := hx.2.1 he
      subst he
      refine x_catch hC [(0, 19, 22, 13)] [] (0, 19, 26, 57) htab (xpass1 (E := xNE) q89 (by decide) (by decide +kernel)) (by decide) (by decide) q588 xcast_xNE (fun qx2 => ?_)
      refine xJ.nrm (k' := 2) (n' := 12) (pc' := 26) (st' := [.ref qx2]) rfl rfl rfl rfl ?_
      refine x_astore (L' := [(5, .ref qx2), (0, .ref (ρ a1)), (1, .int p2), (2, .int p3), (3, .int p4), (4, .ref (ρ a5))]) hC dL_isMarked_26 (by decide) (by first | rfl | simp (decide := true) [rv_cat, cat_ref, cat_int]) ?_
      refine x_iconst (v := 2) hC dL_isMarked_28 (by decide) ?_
      exact x_iret hC hr dL_isMarked_29 (by decide) (by decide) ⟨rfl, _, rfl, h⟩
  · obtain ⟨e9, r1, e8, h⟩ := hp1
    rw [e8, e9]
    refine xJ.nrm (k' := 2) (n' := 12) (pc' := 10) (st' := [.int r1, .int 0, .ref (ρ a5)]) rfl rfl rfl rfl ?_
    refine x_if_eq (tgt := 17) hC dL_isMarked_10 (by decide) (fun c1 => ?_) (fun c1 => ?_)
    · have h := h.1 c1
      refine x_lconst (v := 0) hC dL_isMarked_17 (by decide) ?_
      obtain ⟨k2, h⟩ := h
      obtain ⟨v2, h⟩ := h
      refine x_last (a := a5) hC k2 v2 dL_isMarked_18 ?_
      refine xJ.nmH (fun σ3 e1 => ?_)
      have h := h σ3 e1
      have r2 : hR σ3 = hR σ1 ∧ hL σ3 = hL σ1 := by rw [e1]; exact ⟨rfl, rfl⟩
      refine x_goto (tgt := 30) hC dL_isMarked_19 (by decide) ?_
      refine x_iconst (v := 0) hC dL_isMarked_30 (by decide) ?_
      exact x_iret hC hr dL_isMarked_31 (by decide) (by decide) ⟨rfl, _, rfl, h⟩
    · have h := h.2 c1
      refine x_lconst (v := 1) hC dL_isMarked_13 (by decide) ?_
      refine x_goto (tgt := 18) hC dL_isMarked_14 (by decide) ?_
      obtain ⟨k3, h⟩ := h
      obtain ⟨v3, h⟩ := h
      refine x_last (a := a5) hC k3 v3 dL_isMarked_18 ?_
      refine xJ.nmH (fun σ4 e2 => ?_)
      have h := h σ4 e2
      have r3 : hR σ4 = hR σ1 ∧ hL σ4 = hL σ1 := by rw [e2]; exact ⟨rfl, rfl⟩
      refine x_goto (tgt := 30) hC dL_isMarked_19 (by decide) ?_
      refine x_iconst (v := 0) hC dL_isMarked_30 (by decide) ?_
      exact x_iret hC hr dL_isMarked_31 (by decide) (by decide) ⟨rfl, _, rfl, h⟩
/-! PlantServerModel.isMarked -/
theorem dX7_isMarked_0 : decode cX7_isMarked 0 = .ok (.aload_n 0, 1) := by decide +kernel
theorem dX7_isMarked_1 : decode cX7_isMarked 1 = .ok (.iload_n 1, 1) := by decide +kernel
theorem dX7_isMarked_2 : decode cX7_isMarked 2 = .ok (.iload_n 2, 1) := by decide +kernel
theorem dX7_isMarked_3 : decode cX7_isMarked 3 = .ok (.iload_n 3, 1) := by decide +kernel
theorem dX7_isMarked_4 : decode cX7_isMarked 4 = .ok (.invokevirtual 177, 3) := by decide +kernel
theorem dX7_isMarked_7 : decode cX7_isMarked 7 = .ok (.istore 4, 2) := by decide +kernel
theorem dX7_isMarked_9 : decode cX7_isMarked 9 = .ok (.iload 4, 2) := by decide +kernel
theorem dX7_isMarked_11 : decode cX7_isMarked 11 = .ok (.iconst (-1), 1) := by decide +kernel
theorem dX7_isMarked_12 : decode cX7_isMarked 12 = .ok (.if_icmp .eq 17, 3) := by decide +kernel
theorem dX7_isMarked_15 : decode cX7_isMarked 15 = .ok (.aload_n 0, 1) := by decide +kernel
theorem dX7_isMarked_16 : decode cX7_isMarked 16 = .ok (.getfield 101, 3) := by decide +kernel
theorem dX7_isMarked_19 : decode cX7_isMarked 19 = .ok (.iload 4, 2) := by decide +kernel
theorem dX7_isMarked_21 : decode cX7_isMarked 21 = .ok (.baload, 1) := by decide +kernel
theorem dX7_isMarked_22 : decode cX7_isMarked 22 = .ok (.ifCond .eq 7, 3) := by decide +kernel
theorem dX7_isMarked_25 : decode cX7_isMarked 25 = .ok (.iconst 1, 1) := by decide +kernel
theorem dX7_isMarked_26 : decode cX7_isMarked 26 = .ok (.goto 4, 3) := by decide +kernel
theorem dX7_isMarked_29 : decode cX7_isMarked 29 = .ok (.iconst 0, 1) := by decide +kernel
theorem dX7_isMarked_30 : decode cX7_isMarked 30 = .ok (.ireturn, 1) := by decide +kernel
abbrev rm7_isMarked : Room := { frames := 3, cells := 0, slots := 0, locals := 68 }
theorem hd7_isMarked : yX7_isMarked.cls ≠ "java/lang/invoke/MethodHandle" ∧ yX7_isMarked.cls ≠ "java/lang/invoke/VarHandle" ∧ (parseMethodDescriptor yX7_isMarked.desc).map (fun d => d.parameters.length) = some 3 := by decide +kernel
set_option maxHeartbeats 4000000 in
set_option maxRecDepth 20000 in
theorem m7_isMarked (l : Launch) (hl : l.stackTraces = false) (G : xG) (ρ : Nm → Nat) (this : Nm) (p1 : Int32) (p2 : Int32) (p3 : Int32) (σ : PH) (Q : Int32 → PH → Prop) (h : w7_isMarked this p1 p2 p3 σ Q) : xMet l yX7_isMarked (.code yX7_isMarked cX7_isMarked 5 (some .boolean)) rm7_isMarked G ρ σ [.ref (ρ this), .int p1, .int p2, .int p3] (eI ρ Q) xNo := by
  refine xMet.of hl (by decide +kernel) (Nat.le_of_ble_eq_true rfl) (fun X hC hr hn htab h0 => ?_)
  have hC : xC G X "PlantServerModel" cX7_isMarked 5 rm7_isMarked := hC
  unfold w7_isMarked at h
  refine xJ.loc (L' := [(0, .ref (ρ this)), (1, .int p1), (2, .int p2), (3, .int p3)]) rfl ?_
  refine x_aload_n hC 0 rfl dX7_isMarked_0 ?_
  refine x_iload_n hC 1 rfl dX7_isMarked_1 ?_
  refine x_iload_n hC 2 rfl dX7_isMarked_2 ?_
  refine x_iload_n hC 3 rfl dX7_isMarked_3 ?_
  obtain ⟨k1, h⟩ := h
  refine x_callV (n0 := this) (as := [.int p1, .int p2, .int p3]) (rest := []) hC (ci := 7) (r := (RX7, TX7, 36)) k1 rfl (fun l hl => m7_placeOf l hl G ρ this p1 p2 p3 σ _ h) q916 q918 s28 q3 q919 ⟨rfl, hd7_placeOf⟩ (by decide) ⟨(by decide), (by decide)⟩ (by first | exact Nat.le_of_ble_eq_true rfl | (simp [rv_cat]; done) | (simp (decide := true) [rv_cat, cat_ref, cat_int]; done)) rfl dX7_isMarked_4 (fun E σ9 hx => False.elim hx) (fun v1 σ1 ρ1 hp1 hag1 => ?_)
  obtain ⟨e9, r1, e8, h⟩ := hp1
  rw [e8, e9]
  refine xJ.nrm (k' := 0) (n' := 0) (pc' := 7) (st' := [.int r1]) rfl rfl rfl rfl ?_
  refine x_istore (L' := [(4, .int r1), (0, .ref (ρ this)), (1, .int p1), (2, .int p2), (3, .int p3)]) hC dX7_isMarked_7 (by decide) (by first | rfl | simp (decide := true) [rv_cat, cat_ref, cat_int]) ?_
  refine x_iload hC 0 rfl dX7_isMarked_9 ?_
  refine x_iconst (v := (-1)) hC dX7_isMarked_11 (by decide) ?_
  refine x_icmp_eq (tgt := 29) hC dX7_isMarked_12 (by decide) (fun c1 => ?_) (fun c1 => ?_)
  · have h := h.1 c1
    refine x_iconst (v := 0) hC dX7_isMarked_29 (by decide) ?_
    exact x_zret hC hr zb0 dX7_isMarked_30 (by decide) (by decide) ⟨rfl, _, rfl, h⟩
  · have h := h.2 c1
    refine x_aload_n hC 1 rfl dX7_isMarked_15 ?_
    have k2 : hK σ1 this = 8 := (hag1 this (by rw [k1]; decide)).1.trans k1
    refine x_getR (n0 := this) hC (ci := 7) (T := TX7) (N := 36) (C := RX7) 34 k2 rfl rfl (by decide) rfl q723 dX7_isMarked_16 ?_
    refine x_iload hC 0 rfl dX7_isMarked_19 ?_
    obtain ⟨m1, hm1, h⟩ := h
    rw [show rv ρ (hR σ1 this 34) = Value.ref (ρ m1) from by rw [hm1]; rfl]
    obtain ⟨k3, h⟩ := h
    obtain ⟨v2, h⟩ := h
    refine x_zald (a := m1) hC k3 v2 dX7_isMarked_21 ?_
    refine x_if_eq (tgt := 29) hC dX7_isMarked_22 (by decide) (fun c2 => ?_) (fun c2 => ?_)
    · have h := h.1 c2
      refine x_iconst (v := 0) hC dX7_isMarked_29 (by decide) ?_
      exact x_zret hC hr zb0 dX7_isMarked_30 (by decide) (by decide) ⟨rfl, _, rfl, h⟩
    · have h := h.2 c2
      refine x_iconst (v := 1) hC dX7_isMarked_25 (by decide) ?_
      refine x_goto (tgt := 30) hC dX7_isMarked_26 (by decide) ?_
      exact x_zret hC hr zb1 dX7_isMarked_30 (by decide) (by decide) ⟨rfl, _, rfl, h⟩
/-! PlantServer.latest -/
theorem dX6_latest_0 : decode cX6_latest 0 = .ok (.aload_n 0, 1) := by decide +kernel
theorem dX6_latest_1 : decode cX6_latest 1 = .ok (.iload_n 1, 1) := by decide +kernel
theorem dX6_latest_2 : decode cX6_latest 2 = .ok (.invokevirtual 73, 3) := by decide +kernel
theorem dX6_latest_5 : decode cX6_latest 5 = .ok (.getfield 165, 3) := by decide +kernel
theorem dX6_latest_8 : decode cX6_latest 8 = .ok (.ireturn, 1) := by decide +kernel
abbrev rm6_latest : Room := { frames := 7, cells := 1, slots := 6, locals := 112 }
theorem hd6_latest : yX6_latest.cls ≠ "java/lang/invoke/MethodHandle" ∧ yX6_latest.cls ≠ "java/lang/invoke/VarHandle" ∧ (parseMethodDescriptor yX6_latest.desc).map (fun d => d.parameters.length) = some 1 := by decide +kernel
set_option maxHeartbeats 4000000 in
set_option maxRecDepth 20000 in
theorem m6_latest (l : Launch) (hl : l.stackTraces = false) (G : xG) (ρ : Nm → Nat) (this : Nm) (p1 : Int32) (σ : PH) (Q : Int32 → PH → Prop) (Xp : String → PH → Prop) (h : w6_latest this p1 σ Q Xp) : xMet l yX6_latest (.code yX6_latest cX6_latest 2 (some .int)) rm6_latest G ρ σ [.ref (ρ this), .int p1] (eI ρ Q) Xp := by
  refine xMet.of hl (by decide +kernel) (Nat.le_of_ble_eq_true rfl) (fun X hC hr hn htab h0 => ?_)
  have hC : xC G X "PlantServer" cX6_latest 2 rm6_latest := hC
  unfold w6_latest at h
  refine xJ.loc (L' := [(0, .ref (ρ this)), (1, .int p1)]) rfl ?_
  refine x_aload_n hC 0 rfl dX6_latest_0 ?_
  refine x_iload_n hC 1 rfl dX6_latest_1 ?_
  obtain ⟨k1, h⟩ := h
  refine x_callV (n0 := this) (as := [.int p1]) (rest := []) hC (ci := 6) (r := (RX6, TX6, 9)) k1 rfl (fun l hl => m6_openSubscription l hl G ρ this p1 σ _ Xp h) q296 q298 s2 q1 q299 ⟨rfl, hd6_openSubscription⟩ (by decide) ⟨(by decide), (by decide)⟩ (by first | exact Nat.le_of_ble_eq_true rfl | (simp [rv_cat]; done) | (simp (decide := true) [rv_cat, cat_ref, cat_int]; done)) rfl dX6_latest_2 (fun E σ9 hx => x_out hC h0 htab (by decide) (by decide) hx) (fun v1 σ1 ρ1 hp1 hag1 => ?_)
  obtain ⟨e9, r1, e8, h⟩ := hp1
  rw [e8, e9]
  refine xJ.nrm (k' := 1) (n' := 6) (pc' := 5) (st' := [rv ρ r1]) rfl rfl rfl rfl ?_
  obtain ⟨m1, hm1, h⟩ := h
  rw [show rv ρ r1 = Value.ref (ρ m1) from by rw [hm1]; rfl]
  obtain ⟨k2, h⟩ := h
  refine x_getI (n0 := m1) hC (ci := 4) (T := TX4) (N := 14) (C := RX4) 10 k2 rfl rfl (by decide) rfl q251 dX6_latest_5 ?_
  exact x_iret hC hr dX6_latest_8 (by decide) (by decide) ⟨rfl, _, rfl, h⟩
