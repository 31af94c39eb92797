/-! PlantServerModel.publishes -/
theorem dX7_publishes_0 : decode cX7_publishes 0 = .ok (.aload_n 0, 1) := by decide +kernel
theorem dX7_publishes_1 : decode cX7_publishes 1 = .ok (.iload_n 1, 1) := by decide +kernel
theorem dX7_publishes_2 : decode cX7_publishes 2 = .ok (.invokevirtual 153, 3) := by decide +kernel
theorem dX7_publishes_5 : decode cX7_publishes 5 = .ok (.istore_n 2, 1) := by decide +kernel
theorem dX7_publishes_6 : decode cX7_publishes 6 = .ok (.aload_n 0, 1) := by decide +kernel
theorem dX7_publishes_7 : decode cX7_publishes 7 = .ok (.getfield 35, 3) := by decide +kernel
theorem dX7_publishes_10 : decode cX7_publishes 10 = .ok (.iload_n 1, 1) := by decide +kernel
theorem dX7_publishes_11 : decode cX7_publishes 11 = .ok (.iload_n 2, 1) := by decide +kernel
theorem dX7_publishes_12 : decode cX7_publishes 12 = .ok (.ifCond .eq 7, 3) := by decide +kernel
theorem dX7_publishes_15 : decode cX7_publishes 15 = .ok (.iconst 0, 1) := by decide +kernel
theorem dX7_publishes_16 : decode cX7_publishes 16 = .ok (.goto 11, 3) := by decide +kernel
theorem dX7_publishes_19 : decode cX7_publishes 19 = .ok (.aload_n 0, 1) := by decide +kernel
theorem dX7_publishes_20 : decode cX7_publishes 20 = .ok (.getfield 35, 3) := by decide +kernel
theorem dX7_publishes_23 : decode cX7_publishes 23 = .ok (.iload_n 1, 1) := by decide +kernel
theorem dX7_publishes_24 : decode cX7_publishes 24 = .ok (.iaload, 1) := by decide +kernel
theorem dX7_publishes_25 : decode cX7_publishes 25 = .ok (.iconst 1, 1) := by decide +kernel
theorem dX7_publishes_26 : decode cX7_publishes 26 = .ok (.iadd, 1) := by decide +kernel
theorem dX7_publishes_27 : decode cX7_publishes 27 = .ok (.iastore, 1) := by decide +kernel
theorem dX7_publishes_28 : decode cX7_publishes 28 = .ok (.iload_n 2, 1) := by decide +kernel
theorem dX7_publishes_29 : decode cX7_publishes 29 = .ok (.ifCond .ne 20, 3) := by decide +kernel
theorem dX7_publishes_32 : decode cX7_publishes 32 = .ok (.aload_n 0, 1) := by decide +kernel
theorem dX7_publishes_33 : decode cX7_publishes 33 = .ok (.getfield 35, 3) := by decide +kernel
theorem dX7_publishes_36 : decode cX7_publishes 36 = .ok (.iload_n 1, 1) := by decide +kernel
theorem dX7_publishes_37 : decode cX7_publishes 37 = .ok (.iaload, 1) := by decide +kernel
theorem dX7_publishes_38 : decode cX7_publishes 38 = .ok (.aload_n 0, 1) := by decide +kernel
theorem dX7_publishes_39 : decode cX7_publishes 39 = .ok (.getfield 23, 3) := by decide +kernel
theorem dX7_publishes_42 : decode cX7_publishes 42 = .ok (.iload_n 1, 1) := by decide +kernel
theorem dX7_publishes_43 : decode cX7_publishes 43 = .ok (.iaload, 1) := by decide +kernel
theorem dX7_publishes_44 : decode cX7_publishes 44 = .ok (.if_icmp .ge 5, 3) := by decide +kernel
theorem dX7_publishes_47 : decode cX7_publishes 47 = .ok (.iconst 0, 1) := by decide +kernel
theorem dX7_publishes_48 : decode cX7_publishes 48 = .ok (.ireturn, 1) := by decide +kernel
theorem dX7_publishes_49 : decode cX7_publishes 49 = .ok (.aload_n 0, 1) := by decide +kernel
theorem dX7_publishes_50 : decode cX7_publishes 50 = .ok (.getfield 156, 3) := by decide +kernel
theorem dX7_publishes_53 : decode cX7_publishes 53 = .ok (.ifCond .ne 41, 3) := by decide +kernel
theorem dX7_publishes_56 : decode cX7_publishes 56 = .ok (.aload_n 0, 1) := by decide +kernel
theorem dX7_publishes_57 : decode cX7_publishes 57 = .ok (.getfield 38, 3) := by decide +kernel
theorem dX7_publishes_60 : decode cX7_publishes 60 = .ok (.iload_n 1, 1) := by decide +kernel
theorem dX7_publishes_61 : decode cX7_publishes 61 = .ok (.dup2, 1) := by decide +kernel
theorem dX7_publishes_62 : decode cX7_publishes 62 = .ok (.iaload, 1) := by decide +kernel
theorem dX7_publishes_63 : decode cX7_publishes 63 = .ok (.iconst 1, 1) := by decide +kernel
theorem dX7_publishes_64 : decode cX7_publishes 64 = .ok (.iadd, 1) := by decide +kernel
theorem dX7_publishes_65 : decode cX7_publishes 65 = .ok (.iastore, 1) := by decide +kernel
theorem dX7_publishes_66 : decode cX7_publishes 66 = .ok (.aload_n 0, 1) := by decide +kernel
theorem dX7_publishes_67 : decode cX7_publishes 67 = .ok (.getfield 13, 3) := by decide +kernel
theorem dX7_publishes_70 : decode cX7_publishes 70 = .ok (.iload_n 1, 1) := by decide +kernel
theorem dX7_publishes_71 : decode cX7_publishes 71 = .ok (.aload_n 0, 1) := by decide +kernel
theorem dX7_publishes_72 : decode cX7_publishes 72 = .ok (.getfield 38, 3) := by decide +kernel
theorem dX7_publishes_75 : decode cX7_publishes 75 = .ok (.iload_n 1, 1) := by decide +kernel
theorem dX7_publishes_76 : decode cX7_publishes 76 = .ok (.iaload, 1) := by decide +kernel
theorem dX7_publishes_77 : decode cX7_publishes 77 = .ok (.aload_n 0, 1) := by decide +kernel
theorem dX7_publishes_78 : decode cX7_publishes 78 = .ok (.getfield 26, 3) := by decide +kernel
theorem dX7_publishes_81 : decode cX7_publishes 81 = .ok (.iload_n 1, 1) := by decide +kernel
theorem dX7_publishes_82 : decode cX7_publishes 82 = .ok (.iaload, 1) := by decide +kernel
theorem dX7_publishes_83 : decode cX7_publishes 83 = .ok (.if_icmp .ge 7, 3) := by decide +kernel
theorem dX7_publishes_86 : decode cX7_publishes 86 = .ok (.iconst 1, 1) := by decide +kernel
theorem dX7_publishes_87 : decode cX7_publishes 87 = .ok (.goto 4, 3) := by decide +kernel
theorem dX7_publishes_90 : decode cX7_publishes 90 = .ok (.iconst 0, 1) := by decide +kernel
theorem dX7_publishes_91 : decode cX7_publishes 91 = .ok (.bastore, 1) := by decide +kernel
theorem dX7_publishes_92 : decode cX7_publishes 92 = .ok (.iconst 0, 1) := by decide +kernel
theorem dX7_publishes_93 : decode cX7_publishes 93 = .ok (.ireturn, 1) := by decide +kernel
theorem dX7_publishes_94 : decode cX7_publishes 94 = .ok (.aload_n 0, 1) := by decide +kernel
theorem dX7_publishes_95 : decode cX7_publishes 95 = .ok (.dup, 1) := by decide +kernel
theorem dX7_publishes_96 : decode cX7_publishes 96 = .ok (.getfield 156, 3) := by decide +kernel
theorem dX7_publishes_99 : decode cX7_publishes 99 = .ok (.iconst 1, 1) := by decide +kernel
theorem dX7_publishes_100 : decode cX7_publishes 100 = .ok (.isub, 1) := by decide +kernel
theorem dX7_publishes_101 : decode cX7_publishes 101 = .ok (.putfield 156, 3) := by decide +kernel
theorem dX7_publishes_104 : decode cX7_publishes 104 = .ok (.aload_n 0, 1) := by decide +kernel
theorem dX7_publishes_105 : decode cX7_publishes 105 = .ok (.getfield 35, 3) := by decide +kernel
theorem dX7_publishes_108 : decode cX7_publishes 108 = .ok (.iload_n 1, 1) := by decide +kernel
theorem dX7_publishes_109 : decode cX7_publishes 109 = .ok (.iconst 0, 1) := by decide +kernel
theorem dX7_publishes_110 : decode cX7_publishes 110 = .ok (.iastore, 1) := by decide +kernel
theorem dX7_publishes_111 : decode cX7_publishes 111 = .ok (.aload_n 0, 1) := by decide +kernel
theorem dX7_publishes_112 : decode cX7_publishes 112 = .ok (.getfield 38, 3) := by decide +kernel
theorem dX7_publishes_115 : decode cX7_publishes 115 = .ok (.iload_n 1, 1) := by decide +kernel
theorem dX7_publishes_116 : decode cX7_publishes 116 = .ok (.iconst 0, 1) := by decide +kernel
theorem dX7_publishes_117 : decode cX7_publishes 117 = .ok (.iastore, 1) := by decide +kernel
theorem dX7_publishes_118 : decode cX7_publishes 118 = .ok (.iload_n 2, 1) := by decide +kernel
theorem dX7_publishes_119 : decode cX7_publishes 119 = .ok (.ifCond .ne 16, 3) := by decide +kernel
theorem dX7_publishes_122 : decode cX7_publishes 122 = .ok (.aload_n 0, 1) := by decide +kernel
theorem dX7_publishes_123 : decode cX7_publishes 123 = .ok (.getfield 44, 3) := by decide +kernel
theorem dX7_publishes_126 : decode cX7_publishes 126 = .ok (.iload_n 1, 1) := by decide +kernel
theorem dX7_publishes_127 : decode cX7_publishes 127 = .ok (.dup2, 1) := by decide +kernel
theorem dX7_publishes_128 : decode cX7_publishes 128 = .ok (.iaload, 1) := by decide +kernel
theorem dX7_publishes_129 : decode cX7_publishes 129 = .ok (.iconst 1, 1) := by decide +kernel
theorem dX7_publishes_130 : decode cX7_publishes 130 = .ok (.iadd, 1) := by decide +kernel
theorem dX7_publishes_131 : decode cX7_publishes 131 = .ok (.iastore, 1) := by decide +kernel
theorem dX7_publishes_132 : decode cX7_publishes 132 = .ok (.goto 9, 3) := by decide +kernel
theorem dX7_publishes_135 : decode cX7_publishes 135 = .ok (.aload_n 0, 1) := by decide +kernel
theorem dX7_publishes_136 : decode cX7_publishes 136 = .ok (.iload_n 1, 1) := by decide +kernel
theorem dX7_publishes_137 : decode cX7_publishes 137 = .ok (.iload_n 2, 1) := by decide +kernel
theorem dX7_publishes_138 : decode cX7_publishes 138 = .ok (.invokevirtual 159, 3) := by decide +kernel
theorem dX7_publishes_141 : decode cX7_publishes 141 = .ok (.iconst 1, 1) := by decide +kernel
theorem dX7_publishes_142 : decode cX7_publishes 142 = .ok (.ireturn, 1) := by decide +kernel
abbrev rm7_publishes : Room := { frames := 3, cells := 0, slots := 0, locals := 70 }
theorem hd7_publishes : yX7_publishes.cls ≠ "java/lang/invoke/MethodHandle" ∧ yX7_publishes.cls ≠ "java/lang/invoke/VarHandle" ∧ (parseMethodDescriptor yX7_publishes.desc).map (fun d => d.parameters.length) = some 1 := by decide +kernel
set_option maxHeartbeats 4000000 in
set_option maxRecDepth 20000 in
theorem m7_publishes (l : Launch) (hl : l.stackTraces = false) (G : xG) (ρ : Nm → Nat) (this : Nm) (p1 : Int32) (σ : PH) (Q : Int32 → PH → Prop) (h : w7_publishes this p1 σ Q) : xMet l yX7_publishes (.code yX7_publishes cX7_publishes 3 (some .int)) rm7_publishes G ρ σ [.ref (ρ this), .int p1] (eI ρ Q) xNo := by
  refine xMet.of hl (by decide +kernel) (Nat.le_of_ble_eq_true rfl) (fun X hC hr hn htab h0 => ?_)
  have hC : xC G X "PlantServerModel" cX7_publishes 3 rm7_publishes := hC
  unfold w7_publishes at h
  refine xJ.loc (L' := [(0, .ref (ρ this)), (1, .int p1)]) rfl ?_
  refine x_aload_n hC 0 rfl dX7_publishes_0 ?_
  refine x_iload_n hC 1 rfl dX7_publishes_1 ?_
  obtain ⟨k1, h⟩ := h
  refine x_callV (n0 := this) (as := [.int p1]) (rest := []) hC (ci := 7) (r := (RX7, TX7, 36)) k1 rfl (fun l hl => m7_toldItems l hl G ρ this p1 σ _ h) q868 q870 s21 q3 q871 ⟨rfl, hd7_toldItems⟩ (by decide) ⟨(by decide), (by decide)⟩ (by first | exact Nat.le_of_ble_eq_true rfl | (simp [rv_cat]; done) | (simp (decide := true) [rv_cat, cat_ref, cat_int]; done)) rfl dX7_publishes_2 (fun E σ9 hx => False.elim hx) (fun v1 σ1 ρ1 hp1 hag1 => ?_)
  obtain ⟨e9, r1, e8, h⟩ := hp1
  rw [e8, e9]
  refine xJ.nrm (k' := 0) (n' := 0) (pc' := 5) (st' := [.int r1]) rfl rfl rfl rfl ?_
  refine x_istore_n (L' := [(2, .int r1), (0, .ref (ρ this)), (1, .int p1)]) hC dX7_publishes_5 (by decide) (by first | rfl | simp (decide := true) [rv_cat, cat_ref, cat_int]) ?_
  refine x_aload_n hC 1 rfl dX7_publishes_6 ?_
  have k2 : hK σ1 this = 8 := (hag1 this (by rw [k1]; decide)).1.trans k1
  refine x_getR (n0 := this) hC (ci := 7) (T := TX7) (N := 36) (C := RX7) 11 k2 rfl rfl (by decide) rfl q700 dX7_publishes_7 ?_
  refine x_iload_n hC 2 rfl dX7_publishes_10 ?_
  refine x_iload_n hC 0 rfl dX7_publishes_11 ?_
  refine x_if_eq (tgt := 19) hC dX7_publishes_12 (by decide) (fun c1 => ?_) (fun c1 => ?_)
  · have h := h.1 c1
    refine x_aload_n hC 1 rfl dX7_publishes_19 ?_
    refine x_getR (n0 := this) hC (ci := 7) (T := TX7) (N := 36) (C := RX7) 11 k2 rfl rfl (by decide) rfl q700 dX7_publishes_20 ?_
    refine x_iload_n hC 2 rfl dX7_publishes_23 ?_
    obtain ⟨m1, hm1, h⟩ := h
    rw [show rv ρ (hR σ1 this 11) = Value.ref (ρ m1) from by rw [hm1]; rfl]
    obtain ⟨k3, h⟩ := h
    obtain ⟨v2, h⟩ := h
    refine x_iald (a := m1) hC k3 v2 dX7_publishes_24 ?_
    refine x_iconst (v := 1) hC dX7_publishes_25 (by decide) ?_
    refine x_iadd hC dX7_publishes_26 ?_
    refine x_iast (a := m1) hC k3 v2 dX7_publishes_27 ?_
    refine xJ.nmH (fun σ2 e1 => ?_)
    have h := h σ2 e1
    have r2 : hR σ2 = hR σ1 ∧ hL σ2 = hL σ1 := by rw [e1]; exact ⟨rfl, rfl⟩
    refine x_iload_n hC 0 rfl dX7_publishes_28 ?_
    refine x_if_ne (tgt := 49) hC dX7_publishes_29 (by decide) (fun c2 => ?_) (fun c2 => ?_)
    · have h := h.1 c2
      refine x_aload_n hC 1 rfl dX7_publishes_49 ?_
      have k4 : hK σ2 this = 8 := by rw [e1]; exact k2
      refine x_getI (n0 := this) hC (ci := 7) (T := TX7) (N := 36) (C := RX7) 35 k4 rfl rfl (by decide) rfl q724 dX7_publishes_50 ?_
      refine x_if_ne (tgt := 94) hC dX7_publishes_53 (by decide) (fun c3 => ?_) (fun c3 => ?_)
      · have h := h.1 c3
        refine x_aload_n hC 1 rfl dX7_publishes_94 ?_
        refine x_dup hC (by first | rfl | exact rv_cat) dX7_publishes_95 ?_
        refine x_getI (n0 := this) hC (ci := 7) (T := TX7) (N := 36) (C := RX7) 35 k4 rfl rfl (by decide) rfl q724 dX7_publishes_96 ?_
        refine x_iconst (v := 1) hC dX7_publishes_99 (by decide) ?_
        refine x_isub hC dX7_publishes_100 ?_
        refine x_putI (n0 := this) hC (ci := 7) (T := TX7) (N := 36) (C := RX7) 35 k4 rfl rfl (by decide) rfl q724 rfl (tyX7_ok 35 (by decide)) dX7_publishes_101 ?_
        refine xJ.nmH (fun σ3 e2 => ?_)
        have h := h σ3 e2
        have r3 : hR σ3 = hR σ1 ∧ hL σ3 = hL σ1 := by rw [e2]; exact ⟨r2.1, r2.2⟩
        refine x_aload_n hC 1 rfl dX7_publishes_104 ?_
        have k5 : hK σ3 this = 8 := by rw [e2]; exact k4
        refine x_getR (n0 := this) hC (ci := 7) (T := TX7) (N := 36) (C := RX7) 11 k5 rfl rfl (by decide) rfl q700 dX7_publishes_105 ?_
        rw [r3.1]
        rw [show rv ρ (hR σ1 this 11) = Value.ref (ρ m1) from by rw [hm1]; rfl]
        refine x_iload_n hC 2 rfl dX7_publishes_108 ?_
        refine x_iconst (v := 0) hC dX7_publishes_109 (by decide) ?_
        have k6 : hK σ2 m1 = 9 := by rw [e1]; exact k3
        have k7 : hK σ3 m1 = 9 := by rw [e2]; exact k6
        refine x_iast (a := m1) hC k7 (by rw [r3.2]; exact v2) dX7_publishes_110 ?_
        refine xJ.nmH (fun σ4 e3 => ?_)
        have h := h σ4 e3
        have r4 : hR σ4 = hR σ1 ∧ hL σ4 = hL σ1 := by rw [e3]; exact ⟨r3.1, r3.2⟩
        refine x_aload_n hC 1 rfl dX7_publishes_111 ?_
        have k8 : hK σ4 this = 8 := by rw [e3]; exact k5
        refine x_getR (n0 := this) hC (ci := 7) (T := TX7) (N := 36) (C := RX7) 12 k8 rfl rfl (by decide) rfl q701 dX7_publishes_112 ?_
        rw [r4.1]
        refine x_iload_n hC 2 rfl dX7_publishes_115 ?_
        refine x_iconst (v := 0) hC dX7_publishes_116 (by decide) ?_
        obtain ⟨m2, hm2, h⟩ := h
        rw [show rv ρ (hR σ1 this 12) = Value.ref (ρ m2) from by rw [hm2]; rfl]
        obtain ⟨k9, h⟩ := h
        obtain ⟨v3, h⟩ := h
        refine x_iast (a := m2) hC k9 (by rw [r4.2]; exact v3) dX7_publishes_117 ?_
        refine xJ.nmH (fun σ5 e4 => ?_)
        have h := h σ5 e4
        have r5 : hR σ5 = hR σ1 ∧ hL σ5 = hL σ1 := by rw [e4]; exact ⟨r4.1, r4.2⟩
        refine x_iload_n hC 0 rfl dX7_publishes_118 ?_
        refine x_if_ne (tgt := 135) hC dX7_publishes_119 (by decide) (fun c4 => ?_) (fun c4 => ?_)
        · have h := h.1 c4
          refine x_aload_n hC 1 rfl dX7_publishes_135 ?_
          refine x_iload_n hC 2 rfl dX7_publishes_136 ?_
          refine x_iload_n hC 0 rfl dX7_publishes_137 ?_
          have k10 : hK σ5 this = 8 := by rw [e4]; exact k8
          refine x_callV (n0 := this) (as := [.int p1, .int r1]) (rest := []) hC (ci := 7) (r := (RX7, TX7, 36)) k10 rfl (fun l hl => m7_sendsMessage l hl G ρ this p1 r1 σ5 _ h) q880 q882 s24 q3 q883 ⟨rfl, hd7_sendsMessage⟩ (by decide) ⟨(by decide), (by decide)⟩ (by first | exact Nat.le_of_ble_eq_true rfl | (simp [rv_cat]; done) | (simp (decide := true) [rv_cat, cat_ref, cat_int]; done)) rfl dX7_publishes_138 (fun E σ9 hx => False.elim hx) (fun v4 σ6 ρ2 hp2 hag2 => ?_)
          obtain ⟨e9, e8, h⟩ := hp2
          rw [e8, e9]
          refine xJ.nrm (k' := 0) (n' := 0) (pc' := 141) (st' := []) rfl rfl rfl rfl ?_
          refine x_iconst (v := 1) hC dX7_publishes_141 (by decide) ?_
          exact x_iret hC hr dX7_publishes_142 (by decide) (by decide) ⟨rfl, _, rfl, h⟩
        · have h := h.2 c4
          refine x_aload_n hC 1 rfl dX7_publishes_122 ?_
          have k11 : hK σ5 this = 8 := by rw [e4]; exact k8
          refine x_getR (n0 := this) hC (ci := 7) (T := TX7) (N := 36) (C := RX7) 14 k11 rfl rfl (by decide) rfl q703 dX7_publishes_123 ?_
          rw [r5.1]
          refine x_iload_n hC 2 rfl dX7_publishes_126 ?_
          refine x_dup2 hC (by first | rfl | exact rv_cat) (by first | rfl | exact rv_cat) dX7_publishes_127 ?_
          obtain ⟨m3, hm3, h⟩ := h
          rw [show rv ρ (hR σ1 this 14) = Value.ref (ρ m3) from by rw [hm3]; rfl]
          obtain ⟨k12, h⟩ := h
          obtain ⟨v5, h⟩ := h
          refine x_iald (a := m3) hC k12 (by rw [r5.2]; exact v5) dX7_publishes_128 ?_
          refine x_iconst (v := 1) hC dX7_publishes_129 (by decide) ?_
          refine x_iadd hC dX7_publishes_130 ?_
          refine x_iast (a := m3) hC k12 (by rw [r5.2]; exact v5) dX7_publishes_131 ?_
          refine xJ.nmH (fun σ7 e5 => ?_)
          have h := h σ7 e5
          have r6 : hR σ7 = hR σ1 ∧ hL σ7 = hL σ1 := by rw [e5]; exact ⟨r5.1, r5.2⟩
          refine x_goto (tgt := 141) hC dX7_publishes_132 (by decide) ?_
          refine x_iconst (v := 1) hC dX7_publishes_141 (by decide) ?_
          exact x_iret hC hr dX7_publishes_142 (by decide) (by decide) ⟨rfl, _, rfl, h⟩
      · have h := h.2 c3
        refine x_aload_n hC 1 rfl dX7_publishes_56 ?_
        refine x_getR (n0 := this) hC (ci := 7) (T := TX7) (N := 36) (C := RX7) 12 k4 rfl rfl (by decide) rfl q701 dX7_publishes_57 ?_
        rw [r2.1]
        refine x_iload_n hC 2 rfl dX7_publishes_60 ?_
        refine x_dup2 hC (by first | rfl | exact rv_cat) (by first | rfl | exact rv_cat) dX7_publishes_61 ?_
        obtain ⟨m4, hm4, h⟩ := h
        rw [show rv ρ (hR σ1 this 12) = Value.ref (ρ m4) from by rw [hm4]; rfl]
        obtain ⟨k13, h⟩ := h
        obtain ⟨v6, h⟩ := h
        refine x_iald (a := m4) hC k13 (by rw [r2.2]; exact v6) dX7_publishes_62 ?_
        refine x_iconst (v := 1) hC dX7_publishes_63 (by decide) ?_
        refine x_iadd hC dX7_publishes_64 ?_
        refine x_iast (a := m4) hC k13 (by rw [r2.2]; exact v6) dX7_publishes_65 ?_
        refine xJ.nmH (fun σ8 e6 => ?_)
        have h := h σ8 e6
        have r7 : hR σ8 = hR σ1 ∧ hL σ8 = hL σ1 := by rw [e6]; exact ⟨r2.1, r2.2⟩
        refine x_aload_n hC 1 rfl dX7_publishes_66 ?_
        have k14 : hK σ8 this = 8 := by rw [e6]; exact k4
        refine x_getR (n0 := this) hC (ci := 7) (T := TX7) (N := 36) (C := RX7) 4 k14 rfl rfl (by decide) rfl q693 dX7_publishes_67 ?_
        rw [r7.1]
        refine x_iload_n hC 2 rfl dX7_publishes_70 ?_
        refine x_aload_n hC 1 rfl dX7_publishes_71 ?_
        refine x_getR (n0 := this) hC (ci := 7) (T := TX7) (N := 36) (C := RX7) 12 k14 rfl rfl (by decide) rfl q701 dX7_publishes_72 ?_
        rw [r7.1]
        rw [show rv ρ (hR σ1 this 12) = Value.ref (ρ m4) from by rw [hm4]; rfl]
        refine x_iload_n hC 2 rfl dX7_publishes_75 ?_
        have k15 : hK σ8 m4 = 9 := by rw [e6]; exact k13
        refine x_iald (a := m4) hC k15 (by rw [r7.2]; exact v6) dX7_publishes_76 ?_
        refine x_aload_n hC 1 rfl dX7_publishes_77 ?_
        refine x_getR (n0 := this) hC (ci := 7) (T := TX7) (N := 36) (C := RX7) 8 k14 rfl rfl (by decide) rfl q697 dX7_publishes_78 ?_
        rw [r7.1]
        refine x_iload_n hC 2 rfl dX7_publishes_81 ?_
        obtain ⟨m5, hm5, h⟩ := h
        rw [show rv ρ (hR σ1 this 8) = Value.ref (ρ m5) from by rw [hm5]; rfl]
        obtain ⟨k16, h⟩ := h
        obtain ⟨v7, h⟩ := h
        refine x_iald (a := m5) hC k16 (by rw [r7.2]; exact v7) dX7_publishes_82 ?_
        refine x_icmp_ge (tgt := 90) hC dX7_publishes_83 (by decide) (fun c5 => ?_) (fun c5 => ?_)
        · have h := h.1 c5
          refine x_iconst (v := 0) hC dX7_publishes_90 (by decide) ?_
          obtain ⟨m6, hm6, h⟩ := h
          rw [show rv ρ (hR σ1 this 4) = Value.ref (ρ m6) from by rw [hm6]; rfl]
          obtain ⟨k17, h⟩ := h
          obtain ⟨v8, h⟩ := h
          refine x_zast (a := m6) hC zb0 k17 (by rw [r7.2]; exact v8) dX7_publishes_91 ?_
          refine xJ.nmH (fun σ9 e7 => ?_)
          have h := h σ9 e7
          have r8 : hR σ9 = hR σ1 ∧ hL σ9 = hL σ1 := by rw [e7]; exact ⟨r7.1, r7.2⟩
          refine x_iconst (v := 0) hC dX7_publishes_92 (by decide) ?_
          exact x_iret hC hr dX7_publishes_93 (by decide) (by decide) ⟨rfl, _, rfl, h⟩
        · have h := h.2 c5
          refine x_iconst (v := 1) hC dX7_publishes_86 (by decide) ?_
          refine x_goto (tgt := 91) hC dX7_publishes_87 (by decide) ?_
          obtain ⟨m7, hm7, h⟩ := h
          rw [show rv ρ (hR σ1 this 4) = Value.ref (ρ m7) from by rw [hm7]; rfl]
          obtain ⟨k18, h⟩ := h
          obtain ⟨v9, h⟩ := h
          refine x_zast (a := m7) hC zb1 k18 (by rw [r7.2]; exact v9) dX7_publishes_91 ?_
          refine xJ.nmH (fun σ10 e8 => ?_)
          have h := h σ10 e8
          have r9 : hR σ10 = hR σ1 ∧ hL σ10 = hL σ1 := by rw [e8]; exact ⟨r7.1, r7.2⟩
          refine x_iconst (v := 0) hC dX7_publishes_92 (by decide) ?_
          exact x_iret hC hr dX7_publishes_93 (by decide) (by decide) ⟨rfl, _, rfl, h⟩
    · have h := h.2 c2
      refine x_aload_n hC 1 rfl dX7_publishes_32 ?_
      have k19 : hK σ2 this = 8 := by rw [e1]; exact k2
      refine x_getR (n0 := this) hC (ci := 7) (T := TX7) (N := 36) (C := RX7) 11 k19 rfl rfl (by decide) rfl q700 dX7_publishes_33 ?_
      rw [r2.1]
      rw [show rv ρ (hR σ1 this 11) = Value.ref (ρ m1) from by rw [hm1]; rfl]
      refine x_iload_n hC 2 rfl dX7_publishes_36 ?_
      have k20 : hK σ2 m1 = 9 := by rw [e1]; exact k3
      refine x_iald (a := m1) hC k20 (by rw [r2.2]; exact v2) dX7_publishes_37 ?_
      refine x_aload_n hC 1 rfl dX7_publishes_38 ?_
      refine x_getR (n0 := this) hC (ci := 7) (T := TX7) (N := 36) (C := RX7) 7 k19 rfl rfl (by decide) rfl q696 dX7_publishes_39 ?_
      rw [r2.1]
      refine x_iload_n hC 2 rfl dX7_publishes_42 ?_
      obtain ⟨m8, hm8, h⟩ := h
      rw [show rv ρ (hR σ1 this 7) = Value.ref (ρ m8) from by rw [hm8]; rfl]
      obtain ⟨k21, h⟩ := h
      obtain ⟨v10, h⟩ := h
      refine x_iald (a := m8) hC k21 (by rw [r2.2]; exact v10) dX7_publishes_43 ?_
      refine x_icmp_ge (tgt := 49) hC dX7_publishes_44 (by decide) (fun c6 => ?_) (fun c6 => ?_)
      · have h := h.1 c6
        refine x_aload_n hC 1 rfl dX7_publishes_49 ?_
        refine x_getI (n0 := this) hC (ci := 7) (T := TX7) (N := 36) (C := RX7) 35 k19 rfl rfl (by decide) rfl q724 dX7_publishes_50 ?_
        refine x_if_ne (tgt := 94) hC dX7_publishes_53 (by decide) (fun c7 => ?_) (fun c7 => ?_)
        · have h := h.1 c7
          refine x_aload_n hC 1 rfl dX7_publishes_94 ?_
          refine x_dup hC (by first | rfl | exact rv_cat) dX7_publishes_95 ?_
          refine x_getI (n0 := this) hC (ci := 7) (T := TX7) (N := 36) (C := RX7) 35 k19 rfl rfl (by decide) rfl q724 dX7_publishes_96 ?_
          refine x_iconst (v := 1) hC dX7_publishes_99 (by decide) ?_
          refine x_isub hC dX7_publishes_100 ?_
          refine x_putI (n0 := this) hC (ci := 7) (T := TX7) (N := 36) (C := RX7) 35 k19 rfl rfl (by decide) rfl q724 rfl (tyX7_ok 35 (by decide)) dX7_publishes_101 ?_
          refine xJ.nmH (fun σ11 e9 => ?_)
          have h := h σ11 e9
          have r10 : hR σ11 = hR σ1 ∧ hL σ11 = hL σ1 := by rw [e9]; exact ⟨r2.1, r2.2⟩
          refine x_aload_n hC 1 rfl dX7_publishes_104 ?_
          have k22 : hK σ11 this = 8 := by rw [e9]; exact k19
          refine x_getR (n0 := this) hC (ci := 7) (T := TX7) (N := 36) (C := RX7) 11 k22 rfl rfl (by decide) rfl q700 dX7_publishes_105 ?_
          rw [r10.1]
          rw [show rv ρ (hR σ1 this 11) = Value.ref (ρ m1) from by rw [hm1]; rfl]
          refine x_iload_n hC 2 rfl dX7_publishes_108 ?_
          refine x_iconst (v := 0) hC dX7_publishes_109 (by decide) ?_
          have k23 : hK σ11 m1 = 9 := by rw [e9]; exact k20
          refine x_iast (a := m1) hC k23 (by rw [r10.2]; exact v2) dX7_publishes_110 ?_
          refine xJ.nmH (fun σ12 e10 => ?_)
          have h := h σ12 e10
          have r11 : hR σ12 = hR σ1 ∧ hL σ12 = hL σ1 := by rw [e10]; exact ⟨r10.1, r10.2⟩
          refine x_aload_n hC 1 rfl dX7_publishes_111 ?_
          have k24 : hK σ12 this = 8 := by rw [e10]; exact k22
          refine x_getR (n0 := this) hC (ci := 7) (T := TX7) (N := 36) (C := RX7) 12 k24 rfl rfl (by decide) rfl q701 dX7_publishes_112 ?_
          rw [r11.1]
          refine x_iload_n hC 2 rfl dX7_publishes_115 ?_
          refine x_iconst (v := 0) hC dX7_publishes_116 (by decide) ?_
          obtain ⟨m9, hm9, h⟩ := h
          rw [show rv ρ (hR σ1 this 12) = Value.ref (ρ m9) from by rw [hm9]; rfl]
          obtain ⟨k25, h⟩ := h
          obtain ⟨v11, h⟩ := h
          refine x_iast (a := m9) hC k25 (by rw [r11.2]; exact v11) dX7_publishes_117 ?_
          refine xJ.nmH (fun σ13 e11 => ?_)
          have h := h σ13 e11
          have r12 : hR σ13 = hR σ1 ∧ hL σ13 = hL σ1 := by rw [e11]; exact ⟨r11.1, r11.2⟩
          refine x_iload_n hC 0 rfl dX7_publishes_118 ?_
          refine x_if_ne (tgt := 135) hC dX7_publishes_119 (by decide) (fun c8 => ?_) (fun c8 => ?_)
          · have h := h.1 c8
            refine x_aload_n hC 1 rfl dX7_publishes_135 ?_
            refine x_iload_n hC 2 rfl dX7_publishes_136 ?_
            refine x_iload_n hC 0 rfl dX7_publishes_137 ?_
            have k26 : hK σ13 this = 8 := by rw [e11]; exact k24
            refine x_callV (n0 := this) (as := [.int p1, .int r1]) (rest := []) hC (ci := 7) (r := (RX7, TX7, 36)) k26 rfl (fun l hl => m7_sendsMessage l hl G ρ this p1 r1 σ13 _ h) q880 q882 s24 q3 q883 ⟨rfl, hd7_sendsMessage⟩ (by decide) ⟨(by decide), (by decide)⟩ (by first | exact Nat.le_of_ble_eq_true rfl | (simp [rv_cat]; done) | (simp (decide := true) [rv_cat, cat_ref, cat_int]; done)) rfl dX7_publishes_138 (fun E σ9 hx => False.elim hx) (fun v12 σ14 ρ3 hp3 hag3 => ?_)
            obtain ⟨e9, e8, h⟩ := hp3
            rw [e8, e9]
            refine xJ.nrm (k' := 0) (n' := 0) (pc' := 141) (st' := []) rfl rfl rfl rfl ?_
            refine x_iconst (v := 1) hC dX7_publishes_141 (by decide) ?_
            exact x_iret hC hr dX7_publishes_142 (by decide) (by decide) ⟨rfl, _, rfl, h⟩
          · have h := h.2 c8
            refine x_aload_n hC 1 rfl dX7_publishes_122 ?_
            have k27 : hK σ13 this = 8 := by rw [e11]; exact k24
            refine x_getR (n0 := this) hC (ci := 7) (T := TX7) (N := 36) (C := RX7) 14 k27 rfl rfl (by decide) rfl q703 dX7_publishes_123 ?_
            rw [r12.1]
            refine x_iload_n hC 2 rfl dX7_publishes_126 ?_
            refine x_dup2 hC (by first | rfl | exact rv_cat) (by first | rfl | exact rv_cat) dX7_publishes_127 ?_
            obtain ⟨m10, hm10, h⟩ := h
            rw [show rv ρ (hR σ1 this 14) = Value.ref (ρ m10) from by rw [hm10]; rfl]
            obtain ⟨k28, h⟩ := h
            obtain ⟨v13, h⟩ := h
            refine x_iald (a := m10) hC k28 (by rw [r12.2]; exact v13) dX7_publishes_128 ?_
            refine x_iconst (v := 1) hC dX7_publishes_129 (by decide) ?_
            refine x_iadd hC dX7_publishes_130 ?_
            refine x_iast (a := m10) hC k28 (by rw [r12.2]; exact v13) dX7_publishes_131 ?_
            refine xJ.nmH (fun σ15 e12 => ?_)
            have h := h σ15 e12
            have r13 : hR σ15 = hR σ1 ∧ hL σ15 = hL σ1 := by rw [e12]; exact ⟨r12.1, r12.2⟩
            refine x_goto (tgt := 141) hC dX7_publishes_132 (by decide) ?_
            refine x_iconst (v := 1) hC dX7_publishes_141 (by decide) ?_
            exact x_iret hC hr dX7_publishes_142 (by decide) (by decide) ⟨rfl, _, rfl, h⟩
        · have h := h.2 c7
          refine x_aload_n hC 1 rfl dX7_publishes_56 ?_
          refine x_getR (n0 := this) hC (ci := 7) (T := TX7) (N := 36) (C := RX7) 12 k19 rfl rfl (by decide) rfl q701 dX7_publishes_57 ?_
          rw [r2.1]
          refine x_iload_n hC 2 rfl dX7_publishes_60 ?_
          refine x_dup2 hC (by first | rfl | exact rv_cat) (by first | rfl | exact rv_cat) dX7_publishes_61 ?_
          obtain ⟨m11, hm11, h⟩ := h
          rw [show rv ρ (hR σ1 this 12) = Value.ref (ρ m11) from by rw [hm11]; rfl]
          obtain ⟨k29, h⟩ := h
          obtain ⟨v14, h⟩ := h
          refine x_iald (a := m11) hC k29 (by rw [r2.2]; exact v14) dX7_publishes_62 ?_
          refine x_iconst (v := 1) hC dX7_publishes_63 (by decide) ?_
          refine x_iadd hC dX7_publishes_64 ?_
          refine x_iast (a := m11) hC k29 (by rw [r2.2]; exact v14) dX7_publishes_65 ?_
          refine xJ.nmH (fun σ16 e13 => ?_)
          have h := h σ16 e13
          have r14 : hR σ16 = hR σ1 ∧ hL σ16 = hL σ1 := by rw [e13]; exact ⟨r2.1, r2.2⟩
          refine x_aload_n hC 1 rfl dX7_publishes_66 ?_
          have k30 : hK σ16 this = 8 := by rw [e13]; exact k19
          refine x_getR (n0 := this) hC (ci := 7) (T := TX7) (N := 36) (C := RX7) 4 k30 rfl rfl (by decide) rfl q693 dX7_publishes_67 ?_
          rw [r14.1]
          refine x_iload_n hC 2 rfl dX7_publishes_70 ?_
          refine x_aload_n hC 1 rfl dX7_publishes_71 ?_
          refine x_getR (n0 := this) hC (ci := 7) (T := TX7) (N := 36) (C := RX7) 12 k30 rfl rfl (by decide) rfl q701 dX7_publishes_72 ?_
          rw [r14.1]
          rw [show rv ρ (hR σ1 this 12) = Value.ref (ρ m11) from by rw [hm11]; rfl]
          refine x_iload_n hC 2 rfl dX7_publishes_75 ?_
          have k31 : hK σ16 m11 = 9 := by rw [e13]; exact k29
          refine x_iald (a := m11) hC k31 (by rw [r14.2]; exact v14) dX7_publishes_76 ?_
          refine x_aload_n hC 1 rfl dX7_publishes_77 ?_
          refine x_getR (n0 := this) hC (ci := 7) (T := TX7) (N := 36) (C := RX7) 8 k30 rfl rfl (by decide) rfl q697 dX7_publishes_78 ?_
          rw [r14.1]
          refine x_iload_n hC 2 rfl dX7_publishes_81 ?_
          obtain ⟨m12, hm12, h⟩ := h
          rw [show rv ρ (hR σ1 this 8) = Value.ref (ρ m12) from by rw [hm12]; rfl]
          obtain ⟨k32, h⟩ := h
          obtain ⟨v15, h⟩ := h
          refine x_iald (a := m12) hC k32 (by rw [r14.2]; exact v15) dX7_publishes_82 ?_
          refine x_icmp_ge (tgt := 90) hC dX7_publishes_83 (by decide) (fun c9 => ?_) (fun c9 => ?_)
          · have h := h.1 c9
            refine x_iconst (v := 0) hC dX7_publishes_90 (by decide) ?_
            obtain ⟨m13, hm13, h⟩ := h
            rw [show rv ρ (hR σ1 this 4) = Value.ref (ρ m13) from by rw [hm13]; rfl]
            obtain ⟨k33, h⟩ := h
            obtain ⟨v16, h⟩ := h
            refine x_zast (a := m13) hC zb0 k33 (by rw [r14.2]; exact v16) dX7_publishes_91 ?_
            refine xJ.nmH (fun σ17 e14 => ?_)
            have h := h σ17 e14
            have r15 : hR σ17 = hR σ1 ∧ hL σ17 = hL σ1 := by rw [e14]; exact ⟨r14.1, r14.2⟩
            refine x_iconst (v := 0) hC dX7_publishes_92 (by decide) ?_
            exact x_iret hC hr dX7_publishes_93 (by decide) (by decide) ⟨rfl, _, rfl, h⟩
          · have h := h.2 c9
            refine x_iconst (v := 1) hC dX7_publishes_86 (by decide) ?_
            refine x_goto (tgt := 91) hC dX7_publishes_87 (by decide) ?_
            obtain ⟨m14, hm14, h⟩ := h
            rw [show rv ρ (hR σ1 this 4) = Value.ref (ρ m14) from by rw [hm14]; rfl]
            obtain ⟨k34, h⟩ := h
            obtain ⟨v17, h⟩ := h
            refine x_zast (a := m14) hC zb1 k34 (by rw [r14.2]; exact v17) dX7_publishes_91 ?_
            refine xJ.nmH (fun σ18 e15 => ?_)
            have h := h σ18 e15
            have r16 : hR σ18 = hR σ1 ∧ hL σ18 = hL σ1 := by rw [e15]; exact ⟨r14.1, r14.2⟩
            refine x_iconst (v := 0) hC dX7_publishes_92 (by decide) ?_
            exact x_iret hC hr dX7_publishes_93 (by decide) (by decide) ⟨rfl, _, rfl, h⟩
      · have h := h.2 c6
        refine x_iconst (v := 0) hC dX7_publishes_47 (by decide) ?_
        exact x_iret hC hr dX7_publishes_48 (by decide) (by decide) ⟨rfl, _, rfl, h⟩
  · have h := h.2 c1
    refine x_iconst (v := 0) hC dX7_publishes_15 (by decide) ?_
    refine x_goto (tgt := 27) hC dX7_publishes_16 (by decide) ?_
    obtain ⟨m15, hm15, h⟩ := h
    rw [show rv ρ (hR σ1 this 11) = Value.ref (ρ m15) from by rw [hm15]; rfl]
    obtain ⟨k35, h⟩ := h
    obtain ⟨v18, h⟩ := h
    refine x_iast (a := m15) hC k35 v18 dX7_publishes_27 ?_
    refine xJ.nmH (fun σ19 e16 => ?_)
    have h := h σ19 e16
    have r17 : hR σ19 = hR σ1 ∧ hL σ19 = hL σ1 := by rw [e16]; exact ⟨rfl, rfl⟩
    refine x_iload_n hC 0 rfl dX7_publishes_28 ?_
    refine x_if_ne (tgt := 49) hC dX7_publishes_29 (by decide) (fun c10 => ?_) (fun c10 => ?_)
    · have h := h.1 c10
      refine x_aload_n hC 1 rfl dX7_publishes_49 ?_
      have k36 : hK σ19 this = 8 := by rw [e16]; exact k2
      refine x_getI (n0 := this) hC (ci := 7) (T := TX7) (N := 36) (C := RX7) 35 k36 rfl rfl (by decide) rfl q724 dX7_publishes_50 ?_
      refine x_if_ne (tgt := 94) hC dX7_publishes_53 (by decide) (fun c11 => ?_) (fun c11 => ?_)
      · have h := h.1 c11
        refine x_aload_n hC 1 rfl dX7_publishes_94 ?_
        refine x_dup hC (by first | rfl | exact rv_cat) dX7_publishes_95 ?_
        refine x_getI (n0 := this) hC (ci := 7) (T := TX7) (N := 36) (C := RX7) 35 k36 rfl rfl (by decide) rfl q724 dX7_publishes_96 ?_
        refine x_iconst (v := 1) hC dX7_publishes_99 (by decide) ?_
        refine x_isub hC dX7_publishes_100 ?_
        refine x_putI (n0 := this) hC (ci := 7) (T := TX7) (N := 36) (C := RX7) 35 k36 rfl rfl (by decide) rfl q724 rfl (tyX7_ok 35 (by decide)) dX7_publishes_101 ?_
        refine xJ.nmH (fun σ20 e17 => ?_)
        have h := h σ20 e17
        have r18 : hR σ20 = hR σ1 ∧ hL σ20 = hL σ1 := by rw [e17]; exact ⟨r17.1, r17.2⟩
        refine x_aload_n hC 1 rfl dX7_publishes_104 ?_
        have k37 : hK σ20 this = 8 := by rw [e17]; exact k36
        refine x_getR (n0 := this) hC (ci := 7) (T := TX7) (N := 36) (C := RX7) 11 k37 rfl rfl (by decide) rfl q700 dX7_publishes_105 ?_
        rw [r18.1]
        rw [show rv ρ (hR σ1 this 11) = Value.ref (ρ m15) from by rw [hm15]; rfl]
        refine x_iload_n hC 2 rfl dX7_publishes_108 ?_
        refine x_iconst (v := 0) hC dX7_publishes_109 (by decide) ?_
        have k38 : hK σ19 m15 = 9 := by rw [e16]; exact k35
        have k39 : hK σ20 m15 = 9 := by rw [e17]; exact k38
        refine x_iast (a := m15) hC k39 (by rw [r18.2]; exact v18) dX7_publishes_110 ?_
        refine xJ.nmH (fun σ21 e18 => ?_)
        have h := h σ21 e18
        have r19 : hR σ21 = hR σ1 ∧ hL σ21 = hL σ1 := by rw [e18]; exact ⟨r18.1, r18.2⟩
        refine x_aload_n hC 1 rfl dX7_publishes_111 ?_
        have k40 : hK σ21 this = 8 := by rw [e18]; exact k37
        refine x_getR (n0 := this) hC (ci := 7) (T := TX7) (N := 36) (C := RX7) 12 k40 rfl rfl (by decide) rfl q701 dX7_publishes_112 ?_
        rw [r19.1]
        refine x_iload_n hC 2 rfl dX7_publishes_115 ?_
        refine x_iconst (v := 0) hC dX7_publishes_116 (by decide) ?_
        obtain ⟨m16, hm16, h⟩ := h
        rw [show rv ρ (hR σ1 this 12) = Value.ref (ρ m16) from by rw [hm16]; rfl]
        obtain ⟨k41, h⟩ := h
        obtain ⟨v19, h⟩ := h
        refine x_iast (a := m16) hC k41 (by rw [r19.2]; exact v19) dX7_publishes_117 ?_
        refine xJ.nmH (fun σ22 e19 => ?_)
        have h := h σ22 e19
        have r20 : hR σ22 = hR σ1 ∧ hL σ22 = hL σ1 := by rw [e19]; exact ⟨r19.1, r19.2⟩
        refine x_iload_n hC 0 rfl dX7_publishes_118 ?_
        refine x_if_ne (tgt := 135) hC dX7_publishes_119 (by decide) (fun c12 => ?_) (fun c12 => ?_)
        · have h := h.1 c12
          refine x_aload_n hC 1 rfl dX7_publishes_135 ?_
          refine x_iload_n hC 2 rfl dX7_publishes_136 ?_
          refine x_iload_n hC 0 rfl dX7_publishes_137 ?_
          have k42 : hK σ22 this = 8 := by rw [e19]; exact k40
          refine x_callV (n0 := this) (as := [.int p1, .int r1]) (rest := []) hC (ci := 7) (r := (RX7, TX7, 36)) k42 rfl (fun l hl => m7_sendsMessage l hl G ρ this p1 r1 σ22 _ h) q880 q882 s24 q3 q883 ⟨rfl, hd7_sendsMessage⟩ (by decide) ⟨(by decide), (by decide)⟩ (by first | exact Nat.le_of_ble_eq_true rfl | (simp [rv_cat]; done) | (simp (decide := true) [rv_cat, cat_ref, cat_int]; done)) rfl dX7_publishes_138 (fun E σ9 hx => False.elim hx) (fun v20 σ23 ρ4 hp4 hag4 => ?_)
          obtain ⟨e9, e8, h⟩ := hp4
          rw [e8, e9]
          refine xJ.nrm (k' := 0) (n' := 0) (pc' := 141) (st' := []) rfl rfl rfl rfl ?_
          refine x_iconst (v := 1) hC dX7_publishes_141 (by decide) ?_
          exact x_iret hC hr dX7_publishes_142 (by decide) (by decide) ⟨rfl, _, rfl, h⟩
        · have h := h.2 c12
          refine x_aload_n hC 1 rfl dX7_publishes_122 ?_
          have k43 : hK σ22 this = 8 := by rw [e19]; exact k40
          refine x_getR (n0 := this) hC (ci := 7) (T := TX7) (N := 36) (C := RX7) 14 k43 rfl rfl (by decide) rfl q703 dX7_publishes_123 ?_
          rw [r20.1]
          refine x_iload_n hC 2 rfl dX7_publishes_126 ?_
          refine x_dup2 hC (by first | rfl | exact rv_cat) (by first | rfl | exact rv_cat) dX7_publishes_127 ?_
          obtain ⟨m17, hm17, h⟩ := h
          rw [show rv ρ (hR σ1 this 14) = Value.ref (ρ m17) from by rw [hm17]; rfl]
          obtain ⟨k44, h⟩ := h
          obtain ⟨v21, h⟩ := h
          refine x_iald (a := m17) hC k44 (by rw [r20.2]; exact v21) dX7_publishes_128 ?_
          refine x_iconst (v := 1) hC dX7_publishes_129 (by decide) ?_
          refine x_iadd hC dX7_publishes_130 ?_
          refine x_iast (a := m17) hC k44 (by rw [r20.2]; exact v21) dX7_publishes_131 ?_
          refine xJ.nmH (fun σ24 e20 => ?_)
          have h := h σ24 e20
          have r21 : hR σ24 = hR σ1 ∧ hL σ24 = hL σ1 := by rw [e20]; exact ⟨r20.1, r20.2⟩
          refine x_goto (tgt := 141) hC dX7_publishes_132 (by decide) ?_
          refine x_iconst (v := 1) hC dX7_publishes_141 (by decide) ?_
          exact x_iret hC hr dX7_publishes_142 (by decide) (by decide) ⟨rfl, _, rfl, h⟩
      · have h := h.2 c11
        refine x_aload_n hC 1 rfl dX7_publishes_56 ?_
        refine x_getR (n0 := this) hC (ci := 7) (T := TX7) (N := 36) (C := RX7) 12 k36 rfl rfl (by decide) rfl q701 dX7_publishes_57 ?_
        rw [r17.1]
        refine x_iload_n hC 2 rfl dX7_publishes_60 ?_
        refine x_dup2 hC (by first | rfl | exact rv_cat) (by first | rfl | exact rv_cat) dX7_publishes_61 ?_
        obtain ⟨m18, hm18, h⟩ := h
        rw [show rv ρ (hR σ1 this 12) = Value.ref (ρ m18) from by rw [hm18]; rfl]
        obtain ⟨k45, h⟩ := h
        obtain ⟨v22, h⟩ := h
        refine x_iald (a := m18) hC k45 (by rw [r17.2]; exact v22) dX7_publishes_62 ?_
        refine x_iconst (v := 1) hC dX7_publishes_63 (by decide) ?_
        refine x_iadd hC dX7_publishes_64 ?_
        refine x_iast (a := m18) hC k45 (by rw [r17.2]; exact v22) dX7_publishes_65 ?_
        refine xJ.nmH (fun σ25 e21 => ?_)
        have h := h σ25 e21
        have r22 : hR σ25 = hR σ1 ∧ hL σ25 = hL σ1 := by rw [e21]; exact ⟨r17.1, r17.2⟩
        refine x_aload_n hC 1 rfl dX7_publishes_66 ?_
        have k46 : hK σ25 this = 8 := by rw [e21]; exact k36
        refine x_getR (n0 := this) hC (ci := 7) (T := TX7) (N := 36) (C := RX7) 4 k46 rfl rfl (by decide) rfl q693 dX7_publishes_67 ?_
        rw [r22.1]
        refine x_iload_n hC 2 rfl dX7_publishes_70 ?_
        refine x_aload_n hC 1 rfl dX7_publishes_71 ?_
        refine x_getR (n0 := this) hC (ci := 7) (T := TX7) (N := 36) (C := RX7) 12 k46 rfl rfl (by decide) rfl q701 dX7_publishes_72 ?_
        rw [r22.1]
        rw [show rv ρ (hR σ1 this 12) = Value.ref (ρ m18) from by rw [hm18]; rfl]
        refine x_iload_n hC 2 rfl dX7_publishes_75 ?_
        have k47 : hK σ25 m18 = 9 := by rw [e21]; exact k45
        refine x_iald (a := m18) hC k47 (by rw [r22.2]; exact v22) dX7_publishes_76 ?_
        refine x_aload_n hC 1 rfl dX7_publishes_77 ?_
        refine x_getR (n0 := this) hC (ci := 7) (T := TX7) (N := 36) (C := RX7) 8 k46 rfl rfl (by decide) rfl q697 dX7_publishes_78 ?_
        rw [r22.1]
        refine x_iload_n hC 2 rfl dX7_publishes_81 ?_
        obtain ⟨m19, hm19, h⟩ := h
        rw [show rv ρ (hR σ1 this 8) = Value.ref (ρ m19) from by rw [hm19]; rfl]
        obtain ⟨k48, h⟩ := h
        obtain ⟨v23, h⟩ := h
        refine x_iald (a := m19) hC k48 (by rw [r22.2]; exact v23) dX7_publishes_82 ?_
        refine x_icmp_ge (tgt := 90) hC dX7_publishes_83 (by decide) (fun c13 => ?_) (fun c13 => ?_)
        · have h := h.1 c13
          refine x_iconst (v := 0) hC dX7_publishes_90 (by decide) ?_
          obtain ⟨m20, hm20, h⟩ := h
          rw [show rv ρ (hR σ1 this 4) = Value.ref (ρ m20) from by rw [hm20]; rfl]
          obtain ⟨k49, h⟩ := h
          obtain ⟨v24, h⟩ := h
          refine x_zast (a := m20) hC zb0 k49 (by rw [r22.2]; exact v24) dX7_publishes_91 ?_
          refine xJ.nmH (fun σ26 e22 => ?_)
          have h := h σ26 e22
          have r23 : hR σ26 = hR σ1 ∧ hL σ26 = hL σ1 := by rw [e22]; exact ⟨r22.1, r22.2⟩
          refine x_iconst (v := 0) hC dX7_publishes_92 (by decide) ?_
          exact x_iret hC hr dX7_publishes_93 (by decide) (by decide) ⟨rfl, _, rfl, h⟩
        · have h := h.2 c13
          refine x_iconst (v := 1) hC dX7_publishes_86 (by decide) ?_
          refine x_goto (tgt := 91) hC dX7_publishes_87 (by decide) ?_
          obtain ⟨m21, hm21, h⟩ := h
          rw [show rv ρ (hR σ1 this 4) = Value.ref (ρ m21) from by rw [hm21]; rfl]
          obtain ⟨k50, h⟩ := h
          obtain ⟨v25, h⟩ := h
          refine x_zast (a := m21) hC zb1 k50 (by rw [r22.2]; exact v25) dX7_publishes_91 ?_
          refine xJ.nmH (fun σ27 e23 => ?_)
          have h := h σ27 e23
          have r24 : hR σ27 = hR σ1 ∧ hL σ27 = hL σ1 := by rw [e23]; exact ⟨r22.1, r22.2⟩
          refine x_iconst (v := 0) hC dX7_publishes_92 (by decide) ?_
          exact x_iret hC hr dX7_publishes_93 (by decide) (by decide) ⟨rfl, _, rfl, h⟩
    · have h := h.2 c10
      refine x_aload_n hC 1 rfl dX7_publishes_32 ?_
      have k51 : hK σ19 this = 8 := by rw [e16]; exact k2
      refine x_getR (n0 := this) hC (ci := 7) (T := TX7) (N := 36) (C := RX7) 11 k51 rfl rfl (by decide) rfl q700 dX7_publishes_33 ?_
      rw [r17.1]
      rw [show rv ρ (hR σ1 this 11) = Value.ref (ρ m15) from by rw [hm15]; rfl]
      refine x_iload_n hC 2 rfl dX7_publishes_36 ?_
      have k52 : hK σ19 m15 = 9 := by rw [e16]; exact k35
      refine x_iald (a := m15) hC k52 (by rw [r17.2]; exact v18) dX7_publishes_37 ?_
      refine x_aload_n hC 1 rfl dX7_publishes_38 ?_
      refine x_getR (n0 := this) hC (ci := 7) (T := TX7) (N := 36) (C := RX7) 7 k51 rfl rfl (by decide) rfl q696 dX7_publishes_39 ?_
      rw [r17.1]
      refine x_iload_n hC 2 rfl dX7_publishes_42 ?_
      obtain ⟨m22, hm22, h⟩ := h
      rw [show rv ρ (hR σ1 this 7) = Value.ref (ρ m22) from by rw [hm22]; rfl]
      obtain ⟨k53, h⟩ := h
      obtain ⟨v26, h⟩ := h
      refine x_iald (a := m22) hC k53 (by rw [r17.2]; exact v26) dX7_publishes_43 ?_
      refine x_icmp_ge (tgt := 49) hC dX7_publishes_44 (by decide) (fun c14 => ?_) (fun c14 => ?_)
      · have h := h.1 c14
        refine x_aload_n hC 1 rfl dX7_publishes_49 ?_
        refine x_getI (n0 := this) hC (ci := 7) (T := TX7) (N := 36) (C := RX7) 35 k51 rfl rfl (by decide) rfl q724 dX7_publishes_50 ?_
        refine x_if_ne (tgt := 94) hC dX7_publishes_53 (by decide) (fun c15 => ?_) (fun c15 => ?_)
        · have h := h.1 c15
          refine x_aload_n hC 1 rfl dX7_publishes_94 ?_
          refine x_dup hC (by first | rfl | exact rv_cat) dX7_publishes_95 ?_
          refine x_getI (n0 := this) hC (ci := 7) (T := TX7) (N := 36) (C := RX7) 35 k51 rfl rfl (by decide) rfl q724 dX7_publishes_96 ?_
          refine x_iconst (v := 1) hC dX7_publishes_99 (by decide) ?_
          refine x_isub hC dX7_publishes_100 ?_
          refine x_putI (n0 := this) hC (ci := 7) (T := TX7) (N := 36) (C := RX7) 35 k51 rfl rfl (by decide) rfl q724 rfl (tyX7_ok 35 (by decide)) dX7_publishes_101 ?_
          refine xJ.nmH (fun σ28 e24 => ?_)
          have h := h σ28 e24
          have r25 : hR σ28 = hR σ1 ∧ hL σ28 = hL σ1 := by rw [e24]; exact ⟨r17.1, r17.2⟩
          refine x_aload_n hC 1 rfl dX7_publishes_104 ?_
          have k54 : hK σ28 this = 8 := by rw [e24]; exact k51
          refine x_getR (n0 := this) hC (ci := 7) (T := TX7) (N := 36) (C := RX7) 11 k54 rfl rfl (by decide) rfl q700 dX7_publishes_105 ?_
          rw [r25.1]
          rw [show rv ρ (hR σ1 this 11) = Value.ref (ρ m15) from by rw [hm15]; rfl]
          refine x_iload_n hC 2 rfl dX7_publishes_108 ?_
          refine x_iconst (v := 0) hC dX7_publishes_109 (by decide) ?_
          have k55 : hK σ28 m15 = 9 := by rw [e24]; exact k52
          refine x_iast (a := m15) hC k55 (by rw [r25.2]; exact v18) dX7_publishes_110 ?_
          refine xJ.nmH (fun σ29 e25 => ?_)
          have h := h σ29 e25
          have r26 : hR σ29 = hR σ1 ∧ hL σ29 = hL σ1 := by rw [e25]; exact ⟨r25.1, r25.2⟩
          refine x_aload_n hC 1 rfl dX7_publishes_111 ?_
          have k56 : hK σ29 this = 8 := by rw [e25]; exact k54
          refine x_getR (n0 := this) hC (ci := 7) (T := TX7) (N := 36) (C := RX7) 12 k56 rfl rfl (by decide) rfl q701 dX7_publishes_112 ?_
          rw [r26.1]
          refine x_iload_n hC 2 rfl dX7_publishes_115 ?_
          refine x_iconst (v := 0) hC dX7_publishes_116 (by decide) ?_
          obtain ⟨m23, hm23, h⟩ := h
          rw [show rv ρ (hR σ1 this 12) = Value.ref (ρ m23) from by rw [hm23]; rfl]
          obtain ⟨k57, h⟩ := h
          obtain ⟨v27, h⟩ := h
          refine x_iast (a := m23) hC k57 (by rw [r26.2]; exact v27) dX7_publishes_117 ?_
          refine xJ.nmH (fun σ30 e26 => ?_)
          have h := h σ30 e26
          have r27 : hR σ30 = hR σ1 ∧ hL σ30 = hL σ1 := by rw [e26]; exact ⟨r26.1, r26.2⟩
          refine x_iload_n hC 0 rfl dX7_publishes_118 ?_
          refine x_if_ne (tgt := 135) hC dX7_publishes_119 (by decide) (fun c16 => ?_) (fun c16 => ?_)
          · have h := h.1 c16
            refine x_aload_n hC 1 rfl dX7_publishes_135 ?_
            refine x_iload_n hC 2 rfl dX7_publishes_136 ?_
            refine x_iload_n hC 0 rfl dX7_publishes_137 ?_
            have k58 : hK σ30 this = 8 := by rw [e26]; exact k56
            refine x_callV (n0 := this) (as := [.int p1, .int r1]) (rest := []) hC (ci := 7) (r := (RX7, TX7, 36)) k58 rfl (fun l hl => m7_sendsMessage l hl G ρ this p1 r1 σ30 _ h) q880 q882 s24 q3 q883 ⟨rfl, hd7_sendsMessage⟩ (by decide) ⟨(by decide), (by decide)⟩ (by first | exact Nat.le_of_ble_eq_true rfl | (simp [rv_cat]; done) | (simp (decide := true) [rv_cat, cat_ref, cat_int]; done)) rfl dX7_publishes_138 (fun E σ9 hx => False.elim hx) (fun v28 σ31 ρ5 hp5 hag5 => ?_)
            obtain ⟨e9, e8, h⟩ := hp5
            rw [e8, e9]
            refine xJ.nrm (k' := 0) (n' := 0) (pc' := 141) (st' := []) rfl rfl rfl rfl ?_
            refine x_iconst (v := 1) hC dX7_publishes_141 (by decide) ?_
            exact x_iret hC hr dX7_publishes_142 (by decide) (by decide) ⟨rfl, _, rfl, h⟩
          · have h := h.2 c16
            refine x_aload_n hC 1 rfl dX7_publishes_122 ?_
            have k59 : hK σ30 this = 8 := by rw [e26]; exact k56
            refine x_getR (n0 := this) hC (ci := 7) (T := TX7) (N := 36) (C := RX7) 14 k59 rfl rfl (by decide) rfl q703 dX7_publishes_123 ?_
            rw [r27.1]
            refine x_iload_n hC 2 rfl dX7_publishes_126 ?_
            refine x_dup2 hC (by first | rfl | exact rv_cat) (by first | rfl | exact rv_cat) dX7_publishes_127 ?_
            obtain ⟨m24, hm24, h⟩ := h
            rw [show rv ρ (hR σ1 this 14) = Value.ref (ρ m24) from by rw [hm24]; rfl]
            obtain ⟨k60, h⟩ := h
            obtain ⟨v29, h⟩ := h
            refine x_iald (a := m24) hC k60 (by rw [r27.2]; exact v29) dX7_publishes_128 ?_
            refine x_iconst (v := 1) hC dX7_publishes_129 (by decide) ?_
            refine x_iadd hC dX7_publishes_130 ?_
            refine x_iast (a := m24) hC k60 (by rw [r27.2]; exact v29) dX7_publishes_131 ?_
            refine xJ.nmH (fun σ32 e27 => ?_)
            have h := h σ32 e27
            have r28 : hR σ32 = hR σ1 ∧ hL σ32 = hL σ1 := by rw [e27]; exact ⟨r27.1, r27.2⟩
            refine x_goto (tgt := 141) hC dX7_publishes_132 (by decide) ?_
            refine x_iconst (v := 1) hC dX7_publishes_141 (by decide) ?_
            exact x_iret hC hr dX7_publishes_142 (by decide) (by decide) ⟨rfl, _, rfl, h⟩
        · have h := h.2 c15
          refine x_aload_n hC 1 rfl dX7_publishes_56 ?_
          refine x_getR (n0 := this) hC (ci := 7) (T := TX7) (N := 36) (C := RX7) 12 k51 rfl rfl (by decide) rfl q701 dX7_publishes_57 ?_
          rw [r17.1]
          refine x_iload_n hC 2 rfl dX7_publishes_60 ?_
          refine x_dup2 hC (by first | rfl | exact rv_cat) (by first | rfl | exact rv_cat) dX7_publishes_61 ?_
          obtain ⟨m25, hm25, h⟩ := h
          rw [show rv ρ (hR σ1 this 12) = Value.ref (ρ m25) from by rw [hm25]; rfl]
          obtain ⟨k61, h⟩ := h
          obtain ⟨v30, h⟩ := h
          refine x_iald (a := m25) hC k61 (by rw [r17.2]; exact v30) dX7_publishes_62 ?_
          refine x_iconst (v := 1) hC dX7_publishes_63 (by decide) ?_
          refine x_iadd hC dX7_publishes_64 ?_
          refine x_iast (a := m25) hC k61 (by rw [r17.2]; exact v30) dX7_publishes_65 ?_
          refine xJ.nmH (fun σ33 e28 => ?_)
          have h := h σ33 e28
          have r29 : hR σ33 = hR σ1 ∧ hL σ33 = hL σ1 := by rw [e28]; exact ⟨r17.1, r17.2⟩
          refine x_aload_n hC 1 rfl dX7_publishes_66 ?_
          have k62 : hK σ33 this = 8 := by rw [e28]; exact k51
          refine x_getR (n0 := this) hC (ci := 7) (T := TX7) (N := 36) (C := RX7) 4 k62 rfl rfl (by decide) rfl q693 dX7_publishes_67 ?_
          rw [r29.1]
          refine x_iload_n hC 2 rfl dX7_publishes_70 ?_
          refine x_aload_n hC 1 rfl dX7_publishes_71 ?_
          refine x_getR (n0 := this) hC (ci := 7) (T := TX7) (N := 36) (C := RX7) 12 k62 rfl rfl (by decide) rfl q701 dX7_publishes_72 ?_
          rw [r29.1]
          rw [show rv ρ (hR σ1 this 12) = Value.ref (ρ m25) from by rw [hm25]; rfl]
          refine x_iload_n hC 2 rfl dX7_publishes_75 ?_
          have k63 : hK σ33 m25 = 9 := by rw [e28]; exact k61
          refine x_iald (a := m25) hC k63 (by rw [r29.2]; exact v30) dX7_publishes_76 ?_
          refine x_aload_n hC 1 rfl dX7_publishes_77 ?_
          refine x_getR (n0 := this) hC (ci := 7) (T := TX7) (N := 36) (C := RX7) 8 k62 rfl rfl (by decide) rfl q697 dX7_publishes_78 ?_
          rw [r29.1]
          refine x_iload_n hC 2 rfl dX7_publishes_81 ?_
          obtain ⟨m26, hm26, h⟩ := h
          rw [show rv ρ (hR σ1 this 8) = Value.ref (ρ m26) from by rw [hm26]; rfl]
          obtain ⟨k64, h⟩ := h
          obtain ⟨v31, h⟩ := h
          refine x_iald (a := m26) hC k64 (by rw [r29.2]; exact v31) dX7_publishes_82 ?_
          refine x_icmp_ge (tgt := 90) hC dX7_publishes_83 (by decide) (fun c17 => ?_) (fun c17 => ?_)
          · have h := h.1 c17
            refine x_iconst (v := 0) hC dX7_publishes_90 (by decide) ?_
            obtain ⟨m27, hm27, h⟩ := h
            rw [show rv ρ (hR σ1 this 4) = Value.ref (ρ m27) from by rw [hm27]; rfl]
            obtain ⟨k65, h⟩ := h
            obtain ⟨v32, h⟩ := h
            refine x_zast (a := m27) hC zb0 k65 (by rw [r29.2]; exact v32) dX7_publishes_91 ?_
            refine xJ.nmH (fun σ34 e29 => ?_)
            have h := h σ34 e29
            have r30 : hR σ34 = hR σ1 ∧ hL σ34 = hL σ1 := by rw [e29]; exact ⟨r29.1, r29.2⟩
            refine x_iconst (v := 0) hC dX7_publishes_92 (by decide) ?_
            exact x_iret hC hr dX7_publishes_93 (by decide) (by decide) ⟨rfl, _, rfl, h⟩
          · have h := h.2 c17
            refine x_iconst (v := 1) hC dX7_publishes_86 (by decide) ?_
            refine x_goto (tgt := 91) hC dX7_publishes_87 (by decide) ?_
            obtain ⟨m28, hm28, h⟩ := h
            rw [show rv ρ (hR σ1 this 4) = Value.ref (ρ m28) from by rw [hm28]; rfl]
            obtain ⟨k66, h⟩ := h
            obtain ⟨v33, h⟩ := h
            refine x_zast (a := m28) hC zb1 k66 (by rw [r29.2]; exact v33) dX7_publishes_91 ?_
            refine xJ.nmH (fun σ35 e30 => ?_)
            have h := h σ35 e30
            have r31 : hR σ35 = hR σ1 ∧ hL σ35 = hL σ1 := by rw [e30]; exact ⟨r29.1, r29.2⟩
            refine x_iconst (v := 0) hC dX7_publishes_92 (by decide) ?_
            exact x_iret hC hr dX7_publishes_93 (by decide) (by decide) ⟨rfl, _, rfl, h⟩
      · have h := h.2 c14
        refine x_iconst (v := 0) hC dX7_publishes_47 (by decide) ?_
        exact x_iret hC hr dX7_publishes_48 (by decide) (by decide) ⟨rfl, _, rfl, h⟩
