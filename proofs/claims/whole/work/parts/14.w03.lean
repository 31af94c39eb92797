/-! PlantServerModel.open -/
theorem dX7_open_0 : decode cX7_open 0 = .ok (.iload_n 1, 1) := by decide +kernel
theorem dX7_open_1 : decode cX7_open 1 = .ok (.iconst 1, 1) := by decide +kernel
theorem dX7_open_2 : decode cX7_open 2 = .ok (.bipush 20, 2) := by decide +kernel
theorem dX7_open_4 : decode cX7_open 4 = .ok (.invokestatic 108, 3) := by decide +kernel
theorem dX7_open_7 : decode cX7_open 7 = .ok (.ifCond .eq 49, 3) := by decide +kernel
theorem dX7_open_10 : decode cX7_open 10 = .ok (.iload_n 2, 1) := by decide +kernel
theorem dX7_open_11 : decode cX7_open 11 = .ok (.iconst 1, 1) := by decide +kernel
theorem dX7_open_12 : decode cX7_open 12 = .ok (.bipush 10, 2) := by decide +kernel
theorem dX7_open_14 : decode cX7_open 14 = .ok (.invokestatic 108, 3) := by decide +kernel
theorem dX7_open_17 : decode cX7_open 17 = .ok (.ifCond .eq 39, 3) := by decide +kernel
theorem dX7_open_20 : decode cX7_open 20 = .ok (.iload_n 3, 1) := by decide +kernel
theorem dX7_open_21 : decode cX7_open 21 = .ok (.iconst 1, 1) := by decide +kernel
theorem dX7_open_22 : decode cX7_open 22 = .ok (.bipush 30, 2) := by decide +kernel
theorem dX7_open_24 : decode cX7_open 24 = .ok (.invokestatic 108, 3) := by decide +kernel
theorem dX7_open_27 : decode cX7_open 27 = .ok (.ifCond .eq 29, 3) := by decide +kernel
theorem dX7_open_30 : decode cX7_open 30 = .ok (.iload 4, 2) := by decide +kernel
theorem dX7_open_32 : decode cX7_open 32 = .ok (.iconst 0, 1) := by decide +kernel
theorem dX7_open_33 : decode cX7_open 33 = .ok (.bipush 9, 2) := by decide +kernel
theorem dX7_open_35 : decode cX7_open 35 = .ok (.invokestatic 108, 3) := by decide +kernel
theorem dX7_open_38 : decode cX7_open 38 = .ok (.ifCond .eq 18, 3) := by decide +kernel
theorem dX7_open_41 : decode cX7_open 41 = .ok (.iload 5, 2) := by decide +kernel
theorem dX7_open_43 : decode cX7_open 43 = .ok (.iconst 1, 1) := by decide +kernel
theorem dX7_open_44 : decode cX7_open 44 = .ok (.bipush 10, 2) := by decide +kernel
theorem dX7_open_46 : decode cX7_open 46 = .ok (.invokestatic 108, 3) := by decide +kernel
theorem dX7_open_49 : decode cX7_open 49 = .ok (.ifCond .eq 7, 3) := by decide +kernel
theorem dX7_open_52 : decode cX7_open 52 = .ok (.iconst 1, 1) := by decide +kernel
theorem dX7_open_53 : decode cX7_open 53 = .ok (.goto 4, 3) := by decide +kernel
theorem dX7_open_56 : decode cX7_open 56 = .ok (.iconst 0, 1) := by decide +kernel
theorem dX7_open_57 : decode cX7_open 57 = .ok (.istore 6, 2) := by decide +kernel
theorem dX7_open_59 : decode cX7_open 59 = .ok (.aload_n 0, 1) := by decide +kernel
theorem dX7_open_60 : decode cX7_open 60 = .ok (.iload 6, 2) := by decide +kernel
theorem dX7_open_62 : decode cX7_open 62 = .ok (.ifCond .ne 7, 3) := by decide +kernel
theorem dX7_open_65 : decode cX7_open 65 = .ok (.iconst 1, 1) := by decide +kernel
theorem dX7_open_66 : decode cX7_open 66 = .ok (.goto 16, 3) := by decide +kernel
theorem dX7_open_69 : decode cX7_open 69 = .ok (.aload_n 0, 1) := by decide +kernel
theorem dX7_open_70 : decode cX7_open 70 = .ok (.getfield 112, 3) := by decide +kernel
theorem dX7_open_73 : decode cX7_open 73 = .ok (.iconst 4, 1) := by decide +kernel
theorem dX7_open_74 : decode cX7_open 74 = .ok (.if_icmp .ne 7, 3) := by decide +kernel
theorem dX7_open_77 : decode cX7_open 77 = .ok (.iconst 2, 1) := by decide +kernel
theorem dX7_open_78 : decode cX7_open 78 = .ok (.goto 4, 3) := by decide +kernel
theorem dX7_open_81 : decode cX7_open 81 = .ok (.iconst 0, 1) := by decide +kernel
theorem dX7_open_82 : decode cX7_open 82 = .ok (.putfield 104, 3) := by decide +kernel
theorem dX7_open_85 : decode cX7_open 85 = .ok (.aload_n 0, 1) := by decide +kernel
theorem dX7_open_86 : decode cX7_open 86 = .ok (.getfield 104, 3) := by decide +kernel
theorem dX7_open_89 : decode cX7_open 89 = .ok (.ifCond .le 5, 3) := by decide +kernel
theorem dX7_open_92 : decode cX7_open 92 = .ok (.iconst 0, 1) := by decide +kernel
theorem dX7_open_93 : decode cX7_open 93 = .ok (.ireturn, 1) := by decide +kernel
theorem dX7_open_94 : decode cX7_open 94 = .ok (.aload_n 0, 1) := by decide +kernel
theorem dX7_open_95 : decode cX7_open 95 = .ok (.getfield 112, 3) := by decide +kernel
theorem dX7_open_98 : decode cX7_open 98 = .ok (.istore 7, 2) := by decide +kernel
theorem dX7_open_100 : decode cX7_open 100 = .ok (.aload_n 0, 1) := by decide +kernel
theorem dX7_open_101 : decode cX7_open 101 = .ok (.getfield 13, 3) := by decide +kernel
theorem dX7_open_104 : decode cX7_open 104 = .ok (.iload 7, 2) := by decide +kernel
theorem dX7_open_106 : decode cX7_open 106 = .ok (.iconst 1, 1) := by decide +kernel
theorem dX7_open_107 : decode cX7_open 107 = .ok (.bastore, 1) := by decide +kernel
theorem dX7_open_108 : decode cX7_open 108 = .ok (.aload_n 0, 1) := by decide +kernel
theorem dX7_open_109 : decode cX7_open 109 = .ok (.getfield 17, 3) := by decide +kernel
theorem dX7_open_112 : decode cX7_open 112 = .ok (.iload 7, 2) := by decide +kernel
theorem dX7_open_114 : decode cX7_open 114 = .ok (.aload_n 0, 1) := by decide +kernel
theorem dX7_open_115 : decode cX7_open 115 = .ok (.getfield 122, 3) := by decide +kernel
theorem dX7_open_118 : decode cX7_open 118 = .ok (.iastore, 1) := by decide +kernel
theorem dX7_open_119 : decode cX7_open 119 = .ok (.aload_n 0, 1) := by decide +kernel
theorem dX7_open_120 : decode cX7_open 120 = .ok (.getfield 20, 3) := by decide +kernel
theorem dX7_open_123 : decode cX7_open 123 = .ok (.iload 7, 2) := by decide +kernel
theorem dX7_open_125 : decode cX7_open 125 = .ok (.iload_n 1, 1) := by decide +kernel
theorem dX7_open_126 : decode cX7_open 126 = .ok (.iastore, 1) := by decide +kernel
theorem dX7_open_127 : decode cX7_open 127 = .ok (.aload_n 0, 1) := by decide +kernel
theorem dX7_open_128 : decode cX7_open 128 = .ok (.getfield 23, 3) := by decide +kernel
theorem dX7_open_131 : decode cX7_open 131 = .ok (.iload 7, 2) := by decide +kernel
theorem dX7_open_133 : decode cX7_open 133 = .ok (.iload_n 2, 1) := by decide +kernel
theorem dX7_open_134 : decode cX7_open 134 = .ok (.iastore, 1) := by decide +kernel
theorem dX7_open_135 : decode cX7_open 135 = .ok (.aload_n 0, 1) := by decide +kernel
theorem dX7_open_136 : decode cX7_open 136 = .ok (.getfield 26, 3) := by decide +kernel
theorem dX7_open_139 : decode cX7_open 139 = .ok (.iload 7, 2) := by decide +kernel
theorem dX7_open_141 : decode cX7_open 141 = .ok (.iload_n 3, 1) := by decide +kernel
theorem dX7_open_142 : decode cX7_open 142 = .ok (.iastore, 1) := by decide +kernel
theorem dX7_open_143 : decode cX7_open 143 = .ok (.aload_n 0, 1) := by decide +kernel
theorem dX7_open_144 : decode cX7_open 144 = .ok (.getfield 29, 3) := by decide +kernel
theorem dX7_open_147 : decode cX7_open 147 = .ok (.iload 7, 2) := by decide +kernel
theorem dX7_open_149 : decode cX7_open 149 = .ok (.iload 4, 2) := by decide +kernel
theorem dX7_open_151 : decode cX7_open 151 = .ok (.iastore, 1) := by decide +kernel
theorem dX7_open_152 : decode cX7_open 152 = .ok (.aload_n 0, 1) := by decide +kernel
theorem dX7_open_153 : decode cX7_open 153 = .ok (.getfield 32, 3) := by decide +kernel
theorem dX7_open_156 : decode cX7_open 156 = .ok (.iload 7, 2) := by decide +kernel
theorem dX7_open_158 : decode cX7_open 158 = .ok (.iload 5, 2) := by decide +kernel
theorem dX7_open_160 : decode cX7_open 160 = .ok (.iastore, 1) := by decide +kernel
theorem dX7_open_161 : decode cX7_open 161 = .ok (.aload_n 0, 1) := by decide +kernel
theorem dX7_open_162 : decode cX7_open 162 = .ok (.dup, 1) := by decide +kernel
theorem dX7_open_163 : decode cX7_open 163 = .ok (.getfield 112, 3) := by decide +kernel
theorem dX7_open_166 : decode cX7_open 166 = .ok (.iconst 1, 1) := by decide +kernel
theorem dX7_open_167 : decode cX7_open 167 = .ok (.iadd, 1) := by decide +kernel
theorem dX7_open_168 : decode cX7_open 168 = .ok (.putfield 112, 3) := by decide +kernel
theorem dX7_open_171 : decode cX7_open 171 = .ok (.iload 7, 2) := by decide +kernel
theorem dX7_open_173 : decode cX7_open 173 = .ok (.ireturn, 1) := by decide +kernel
abbrev rm7_open : Room := { frames := 1, cells := 0, slots := 0, locals := 22 }
theorem hd7_open : yX7_open.cls ≠ "java/lang/invoke/MethodHandle" ∧ yX7_open.cls ≠ "java/lang/invoke/VarHandle" ∧ (parseMethodDescriptor yX7_open.desc).map (fun d => d.parameters.length) = some 5 := by decide +kernel
set_option maxHeartbeats 4000000 in
set_option maxRecDepth 20000 in
theorem m7_open (l : Launch) (hl : l.stackTraces = false) (G : xG) (ρ : Nm → Nat) (this : Nm) (p1 : Int32) (p2 : Int32) (p3 : Int32) (p4 : Int32) (p5 : Int32) (σ : PH) (Q : Int32 → PH → Prop) (h : w7_open this p1 p2 p3 p4 p5 σ Q) : xMet l yX7_open (.code yX7_open cX7_open 8 (some .int)) rm7_open G ρ σ [.ref (ρ this), .int p1, .int p2, .int p3, .int p4, .int p5] (eI ρ Q) xNo := by
  refine xMet.of hl (by decide +kernel) (Nat.le_of_ble_eq_true rfl) (fun X hC hr hn htab h0 => ?_)
  have hC : xC G X "PlantServerModel" cX7_open 8 rm7_open := hC
  unfold w7_open at h
  refine xJ.loc (L' := [(0, .ref (ρ this)), (1, .int p1), (2, .int p2), (3, .int p3), (4, .int p4), (5, .int p5)]) rfl ?_
  refine x_iload_n hC 1 rfl dX7_open_0 ?_
  refine x_iconst (v := 1) hC dX7_open_1 (by decide) ?_
  refine x_bipush (v := 20) hC dX7_open_2 (by decide) ?_
  refine x_callS (as := [.int p1, .int 1, .int 20]) (rest := []) hC (fun l hl => m7_in l hl G ρ p1 1 20 σ _ h) q809 q810 q3 q811 hd7_in (by decide) ⟨(by decide), (by decide)⟩ (by first | exact Nat.le_of_ble_eq_true rfl | (simp [rv_cat]; done) | (simp (decide := true) [rv_cat, cat_ref, cat_int]; done)) rfl dX7_open_4 (fun E σ9 hx => False.elim hx) (fun v1 σ1 ρ1 hp1 hag1 => ?_)
  obtain ⟨e9, r1, e8, h⟩ := hp1
  rw [e8, e9]
  refine xJ.nrm (k' := 0) (n' := 0) (pc' := 7) (st' := [.int r1]) rfl rfl rfl rfl ?_
  refine x_if_eq (tgt := 56) hC dX7_open_7 (by decide) (fun c1 => ?_) (fun c1 => ?_)
  · have h := h.1 c1
    refine x_iconst (v := 0) hC dX7_open_56 (by decide) ?_
    refine x_istore (L' := [(6, .int 0), (0, .ref (ρ this)), (1, .int p1), (2, .int p2), (3, .int p3), (4, .int p4), (5, .int p5)]) hC dX7_open_57 (by decide) (by first | rfl | simp (decide := true) [rv_cat, cat_ref, cat_int]) ?_
    refine x_aload_n hC 1 rfl dX7_open_59 ?_
    refine x_iload hC 0 rfl dX7_open_60 ?_
    refine x_if_ne (tgt := 69) hC dX7_open_62 (by decide) (fun c2 => absurd c2 (by decide)) (fun _ => ?_)
    refine x_iconst (v := 1) hC dX7_open_65 (by decide) ?_
    refine x_goto (tgt := 82) hC dX7_open_66 (by decide) ?_
    obtain ⟨k1, h⟩ := h
    refine x_putI (n0 := this) hC (ci := 7) (T := TX7) (N := 36) (C := RX7) 0 k1 rfl rfl (by decide) rfl q689 rfl (tyX7_ok 0 (by decide)) dX7_open_82 ?_
    refine xJ.nmH (fun σ2 e1 => ?_)
    have h := h σ2 e1
    have r2 : hR σ2 = hR σ1 ∧ hL σ2 = hL σ1 := by rw [e1]; exact ⟨rfl, rfl⟩
    refine x_aload_n hC 1 rfl dX7_open_85 ?_
    have k2 : hK σ2 this = 8 := by rw [e1]; exact k1
    refine x_getI (n0 := this) hC (ci := 7) (T := TX7) (N := 36) (C := RX7) 0 k2 rfl rfl (by decide) rfl q689 dX7_open_86 ?_
    refine x_if_le (tgt := 94) hC dX7_open_89 (by decide) (fun c3 => ?_) (fun c3 => ?_)
    · have h := h.1 c3
      refine x_aload_n hC 1 rfl dX7_open_94 ?_
      refine x_getI (n0 := this) hC (ci := 7) (T := TX7) (N := 36) (C := RX7) 3 k2 rfl rfl (by decide) rfl q692 dX7_open_95 ?_
      refine x_istore (L' := [(7, .int (hI σ2 this 3)), (6, .int 0), (0, .ref (ρ this)), (1, .int p1), (2, .int p2), (3, .int p3), (4, .int p4), (5, .int p5)]) hC dX7_open_98 (by decide) (by first | rfl | simp (decide := true) [rv_cat, cat_ref, cat_int]) ?_
      refine x_aload_n hC 2 rfl dX7_open_100 ?_
      refine x_getR (n0 := this) hC (ci := 7) (T := TX7) (N := 36) (C := RX7) 4 k2 rfl rfl (by decide) rfl q693 dX7_open_101 ?_
      rw [r2.1]
      refine x_iload hC 0 rfl dX7_open_104 ?_
      refine x_iconst (v := 1) hC dX7_open_106 (by decide) ?_
      obtain ⟨m1, hm1, h⟩ := h
      rw [show rv ρ (hR σ1 this 4) = Value.ref (ρ m1) from by rw [hm1]; rfl]
      obtain ⟨k3, h⟩ := h
      obtain ⟨v2, h⟩ := h
      refine x_zast (a := m1) hC zb1 k3 (by rw [r2.2]; exact v2) dX7_open_107 ?_
      refine xJ.nmH (fun σ3 e2 => ?_)
      have h := h σ3 e2
      have r3 : hR σ3 = hR σ1 ∧ hL σ3 = hL σ1 := by rw [e2]; exact ⟨r2.1, r2.2⟩
      refine x_aload_n hC 2 rfl dX7_open_108 ?_
      have k4 : hK σ3 this = 8 := by rw [e2]; exact k2
      refine x_getR (n0 := this) hC (ci := 7) (T := TX7) (N := 36) (C := RX7) 5 k4 rfl rfl (by decide) rfl q694 dX7_open_109 ?_
      rw [r3.1]
      refine x_iload hC 0 rfl dX7_open_112 ?_
      refine x_aload_n hC 2 rfl dX7_open_114 ?_
      refine x_getI (n0 := this) hC (ci := 7) (T := TX7) (N := 36) (C := RX7) 1 k4 rfl rfl (by decide) rfl q690 dX7_open_115 ?_
      obtain ⟨m2, hm2, h⟩ := h
      rw [show rv ρ (hR σ1 this 5) = Value.ref (ρ m2) from by rw [hm2]; rfl]
      obtain ⟨k5, h⟩ := h
      obtain ⟨v3, h⟩ := h
      refine x_iast (a := m2) hC k5 (by rw [r3.2]; exact v3) dX7_open_118 ?_
      refine xJ.nmH (fun σ4 e3 => ?_)
      have h := h σ4 e3
      have r4 : hR σ4 = hR σ1 ∧ hL σ4 = hL σ1 := by rw [e3]; exact ⟨r3.1, r3.2⟩
      refine x_aload_n hC 2 rfl dX7_open_119 ?_
      have k6 : hK σ4 this = 8 := by rw [e3]; exact k4
      refine x_getR (n0 := this) hC (ci := 7) (T := TX7) (N := 36) (C := RX7) 6 k6 rfl rfl (by decide) rfl q695 dX7_open_120 ?_
      rw [r4.1]
      refine x_iload hC 0 rfl dX7_open_123 ?_
      refine x_iload_n hC 3 rfl dX7_open_125 ?_
      obtain ⟨m3, hm3, h⟩ := h
      rw [show rv ρ (hR σ1 this 6) = Value.ref (ρ m3) from by rw [hm3]; rfl]
      obtain ⟨k7, h⟩ := h
      obtain ⟨v4, h⟩ := h
      refine x_iast (a := m3) hC k7 (by rw [r4.2]; exact v4) dX7_open_126 ?_
      refine xJ.nmH (fun σ5 e4 => ?_)
      have h := h σ5 e4
      have r5 : hR σ5 = hR σ1 ∧ hL σ5 = hL σ1 := by rw [e4]; exact ⟨r4.1, r4.2⟩
      refine x_aload_n hC 2 rfl dX7_open_127 ?_
      have k8 : hK σ5 this = 8 := by rw [e4]; exact k6
      refine x_getR (n0 := this) hC (ci := 7) (T := TX7) (N := 36) (C := RX7) 7 k8 rfl rfl (by decide) rfl q696 dX7_open_128 ?_
      rw [r5.1]
      refine x_iload hC 0 rfl dX7_open_131 ?_
      refine x_iload_n hC 4 rfl dX7_open_133 ?_
      obtain ⟨m4, hm4, h⟩ := h
      rw [show rv ρ (hR σ1 this 7) = Value.ref (ρ m4) from by rw [hm4]; rfl]
      obtain ⟨k9, h⟩ := h
      obtain ⟨v5, h⟩ := h
      refine x_iast (a := m4) hC k9 (by rw [r5.2]; exact v5) dX7_open_134 ?_
      refine xJ.nmH (fun σ6 e5 => ?_)
      have h := h σ6 e5
      have r6 : hR σ6 = hR σ1 ∧ hL σ6 = hL σ1 := by rw [e5]; exact ⟨r5.1, r5.2⟩
      refine x_aload_n hC 2 rfl dX7_open_135 ?_
      have k10 : hK σ6 this = 8 := by rw [e5]; exact k8
      refine x_getR (n0 := this) hC (ci := 7) (T := TX7) (N := 36) (C := RX7) 8 k10 rfl rfl (by decide) rfl q697 dX7_open_136 ?_
      rw [r6.1]
      refine x_iload hC 0 rfl dX7_open_139 ?_
      refine x_iload_n hC 5 rfl dX7_open_141 ?_
      obtain ⟨m5, hm5, h⟩ := h
      rw [show rv ρ (hR σ1 this 8) = Value.ref (ρ m5) from by rw [hm5]; rfl]
      obtain ⟨k11, h⟩ := h
      obtain ⟨v6, h⟩ := h
      refine x_iast (a := m5) hC k11 (by rw [r6.2]; exact v6) dX7_open_142 ?_
      refine xJ.nmH (fun σ7 e6 => ?_)
      have h := h σ7 e6
      have r7 : hR σ7 = hR σ1 ∧ hL σ7 = hL σ1 := by rw [e6]; exact ⟨r6.1, r6.2⟩
      refine x_aload_n hC 2 rfl dX7_open_143 ?_
      have k12 : hK σ7 this = 8 := by rw [e6]; exact k10
      refine x_getR (n0 := this) hC (ci := 7) (T := TX7) (N := 36) (C := RX7) 9 k12 rfl rfl (by decide) rfl q698 dX7_open_144 ?_
      rw [r7.1]
      refine x_iload hC 0 rfl dX7_open_147 ?_
      refine x_iload hC 6 rfl dX7_open_149 ?_
      obtain ⟨m6, hm6, h⟩ := h
      rw [show rv ρ (hR σ1 this 9) = Value.ref (ρ m6) from by rw [hm6]; rfl]
      obtain ⟨k13, h⟩ := h
      obtain ⟨v7, h⟩ := h
      refine x_iast (a := m6) hC k13 (by rw [r7.2]; exact v7) dX7_open_151 ?_
      refine xJ.nmH (fun σ8 e7 => ?_)
      have h := h σ8 e7
      have r8 : hR σ8 = hR σ1 ∧ hL σ8 = hL σ1 := by rw [e7]; exact ⟨r7.1, r7.2⟩
      refine x_aload_n hC 2 rfl dX7_open_152 ?_
      have k14 : hK σ8 this = 8 := by rw [e7]; exact k12
      refine x_getR (n0 := this) hC (ci := 7) (T := TX7) (N := 36) (C := RX7) 10 k14 rfl rfl (by decide) rfl q699 dX7_open_153 ?_
      rw [r8.1]
      refine x_iload hC 0 rfl dX7_open_156 ?_
      refine x_iload hC 7 rfl dX7_open_158 ?_
      obtain ⟨m7, hm7, h⟩ := h
      rw [show rv ρ (hR σ1 this 10) = Value.ref (ρ m7) from by rw [hm7]; rfl]
      obtain ⟨k15, h⟩ := h
      obtain ⟨v8, h⟩ := h
      refine x_iast (a := m7) hC k15 (by rw [r8.2]; exact v8) dX7_open_160 ?_
      refine xJ.nmH (fun σ9 e8 => ?_)
      have h := h σ9 e8
      have r9 : hR σ9 = hR σ1 ∧ hL σ9 = hL σ1 := by rw [e8]; exact ⟨r8.1, r8.2⟩
      refine x_aload_n hC 2 rfl dX7_open_161 ?_
      refine x_dup hC (by first | rfl | exact rv_cat) dX7_open_162 ?_
      have k16 : hK σ9 this = 8 := by rw [e8]; exact k14
      refine x_getI (n0 := this) hC (ci := 7) (T := TX7) (N := 36) (C := RX7) 3 k16 rfl rfl (by decide) rfl q692 dX7_open_163 ?_
      refine x_iconst (v := 1) hC dX7_open_166 (by decide) ?_
      refine x_iadd hC dX7_open_167 ?_
      refine x_putI (n0 := this) hC (ci := 7) (T := TX7) (N := 36) (C := RX7) 3 k16 rfl rfl (by decide) rfl q692 rfl (tyX7_ok 3 (by decide)) dX7_open_168 ?_
      refine xJ.nmH (fun σ10 e9 => ?_)
      have h := h σ10 e9
      have r10 : hR σ10 = hR σ1 ∧ hL σ10 = hL σ1 := by rw [e9]; exact ⟨r9.1, r9.2⟩
      refine x_iload hC 0 rfl dX7_open_171 ?_
      exact x_iret hC hr dX7_open_173 (by decide) (by decide) ⟨rfl, _, rfl, h⟩
    · have h := h.2 c3
      refine x_iconst (v := 0) hC dX7_open_92 (by decide) ?_
      exact x_iret hC hr dX7_open_93 (by decide) (by decide) ⟨rfl, _, rfl, h⟩
  · have h := h.2 c1
    refine x_iload_n hC 2 rfl dX7_open_10 ?_
    refine x_iconst (v := 1) hC dX7_open_11 (by decide) ?_
    refine x_bipush (v := 10) hC dX7_open_12 (by decide) ?_
    refine x_callS (as := [.int p2, .int 1, .int 10]) (rest := []) hC (fun l hl => m7_in l hl G ρ p2 1 10 σ1 _ h) q809 q810 q3 q811 hd7_in (by decide) ⟨(by decide), (by decide)⟩ (by first | exact Nat.le_of_ble_eq_true rfl | (simp [rv_cat]; done) | (simp (decide := true) [rv_cat, cat_ref, cat_int]; done)) rfl dX7_open_14 (fun E σ9 hx => False.elim hx) (fun v9 σ11 ρ2 hp2 hag2 => ?_)
    obtain ⟨e9, r11, e8, h⟩ := hp2
    rw [e8, e9]
    refine xJ.nrm (k' := 0) (n' := 0) (pc' := 17) (st' := [.int r11]) rfl rfl rfl rfl ?_
    refine x_if_eq (tgt := 56) hC dX7_open_17 (by decide) (fun c4 => ?_) (fun c4 => ?_)
    · have h := h.1 c4
      refine x_iconst (v := 0) hC dX7_open_56 (by decide) ?_
      refine x_istore (L' := [(6, .int 0), (0, .ref (ρ this)), (1, .int p1), (2, .int p2), (3, .int p3), (4, .int p4), (5, .int p5)]) hC dX7_open_57 (by decide) (by first | rfl | simp (decide := true) [rv_cat, cat_ref, cat_int]) ?_
      refine x_aload_n hC 1 rfl dX7_open_59 ?_
      refine x_iload hC 0 rfl dX7_open_60 ?_
      refine x_if_ne (tgt := 69) hC dX7_open_62 (by decide) (fun c5 => absurd c5 (by decide)) (fun _ => ?_)
      refine x_iconst (v := 1) hC dX7_open_65 (by decide) ?_
      refine x_goto (tgt := 82) hC dX7_open_66 (by decide) ?_
      obtain ⟨k17, h⟩ := h
      refine x_putI (n0 := this) hC (ci := 7) (T := TX7) (N := 36) (C := RX7) 0 k17 rfl rfl (by decide) rfl q689 rfl (tyX7_ok 0 (by decide)) dX7_open_82 ?_
      refine xJ.nmH (fun σ12 e10 => ?_)
      have h := h σ12 e10
      have r12 : hR σ12 = hR σ11 ∧ hL σ12 = hL σ11 := by rw [e10]; exact ⟨rfl, rfl⟩
      refine x_aload_n hC 1 rfl dX7_open_85 ?_
      have k18 : hK σ12 this = 8 := by rw [e10]; exact k17
      refine x_getI (n0 := this) hC (ci := 7) (T := TX7) (N := 36) (C := RX7) 0 k18 rfl rfl (by decide) rfl q689 dX7_open_86 ?_
      refine x_if_le (tgt := 94) hC dX7_open_89 (by decide) (fun c6 => ?_) (fun c6 => ?_)
      · have h := h.1 c6
        refine x_aload_n hC 1 rfl dX7_open_94 ?_
        refine x_getI (n0 := this) hC (ci := 7) (T := TX7) (N := 36) (C := RX7) 3 k18 rfl rfl (by decide) rfl q692 dX7_open_95 ?_
        refine x_istore (L' := [(7, .int (hI σ12 this 3)), (6, .int 0), (0, .ref (ρ this)), (1, .int p1), (2, .int p2), (3, .int p3), (4, .int p4), (5, .int p5)]) hC dX7_open_98 (by decide) (by first | rfl | simp (decide := true) [rv_cat, cat_ref, cat_int]) ?_
        refine x_aload_n hC 2 rfl dX7_open_100 ?_
        refine x_getR (n0 := this) hC (ci := 7) (T := TX7) (N := 36) (C := RX7) 4 k18 rfl rfl (by decide) rfl q693 dX7_open_101 ?_
        rw [r12.1]
        refine x_iload hC 0 rfl dX7_open_104 ?_
        refine x_iconst (v := 1) hC dX7_open_106 (by decide) ?_
        obtain ⟨m8, hm8, h⟩ := h
        rw [show rv ρ (hR σ11 this 4) = Value.ref (ρ m8) from by rw [hm8]; rfl]
        obtain ⟨k19, h⟩ := h
        obtain ⟨v10, h⟩ := h
        refine x_zast (a := m8) hC zb1 k19 (by rw [r12.2]; exact v10) dX7_open_107 ?_
        refine xJ.nmH (fun σ13 e11 => ?_)
        have h := h σ13 e11
        have r13 : hR σ13 = hR σ11 ∧ hL σ13 = hL σ11 := by rw [e11]; exact ⟨r12.1, r12.2⟩
        refine x_aload_n hC 2 rfl dX7_open_108 ?_
        have k20 : hK σ13 this = 8 := by rw [e11]; exact k18
        refine x_getR (n0 := this) hC (ci := 7) (T := TX7) (N := 36) (C := RX7) 5 k20 rfl rfl (by decide) rfl q694 dX7_open_109 ?_
        rw [r13.1]
        refine x_iload hC 0 rfl dX7_open_112 ?_
        refine x_aload_n hC 2 rfl dX7_open_114 ?_
        refine x_getI (n0 := this) hC (ci := 7) (T := TX7) (N := 36) (C := RX7) 1 k20 rfl rfl (by decide) rfl q690 dX7_open_115 ?_
        obtain ⟨m9, hm9, h⟩ := h
        rw [show rv ρ (hR σ11 this 5) = Value.ref (ρ m9) from by rw [hm9]; rfl]
        obtain ⟨k21, h⟩ := h
        obtain ⟨v11, h⟩ := h
        refine x_iast (a := m9) hC k21 (by rw [r13.2]; exact v11) dX7_open_118 ?_
        refine xJ.nmH (fun σ14 e12 => ?_)
        have h := h σ14 e12
        have r14 : hR σ14 = hR σ11 ∧ hL σ14 = hL σ11 := by rw [e12]; exact ⟨r13.1, r13.2⟩
        refine x_aload_n hC 2 rfl dX7_open_119 ?_
        have k22 : hK σ14 this = 8 := by rw [e12]; exact k20
        refine x_getR (n0 := this) hC (ci := 7) (T := TX7) (N := 36) (C := RX7) 6 k22 rfl rfl (by decide) rfl q695 dX7_open_120 ?_
        rw [r14.1]
        refine x_iload hC 0 rfl dX7_open_123 ?_
        refine x_iload_n hC 3 rfl dX7_open_125 ?_
        obtain ⟨m10, hm10, h⟩ := h
        rw [show rv ρ (hR σ11 this 6) = Value.ref (ρ m10) from by rw [hm10]; rfl]
        obtain ⟨k23, h⟩ := h
        obtain ⟨v12, h⟩ := h
        refine x_iast (a := m10) hC k23 (by rw [r14.2]; exact v12) dX7_open_126 ?_
        refine xJ.nmH (fun σ15 e13 => ?_)
        have h := h σ15 e13
        have r15 : hR σ15 = hR σ11 ∧ hL σ15 = hL σ11 := by rw [e13]; exact ⟨r14.1, r14.2⟩
        refine x_aload_n hC 2 rfl dX7_open_127 ?_
        have k24 : hK σ15 this = 8 := by rw [e13]; exact k22
        refine x_getR (n0 := this) hC (ci := 7) (T := TX7) (N := 36) (C := RX7) 7 k24 rfl rfl (by decide) rfl q696 dX7_open_128 ?_
        rw [r15.1]
        refine x_iload hC 0 rfl dX7_open_131 ?_
        refine x_iload_n hC 4 rfl dX7_open_133 ?_
        obtain ⟨m11, hm11, h⟩ := h
        rw [show rv ρ (hR σ11 this 7) = Value.ref (ρ m11) from by rw [hm11]; rfl]
        obtain ⟨k25, h⟩ := h
        obtain ⟨v13, h⟩ := h
        refine x_iast (a := m11) hC k25 (by rw [r15.2]; exact v13) dX7_open_134 ?_
        refine xJ.nmH (fun σ16 e14 => ?_)
        have h := h σ16 e14
        have r16 : hR σ16 = hR σ11 ∧ hL σ16 = hL σ11 := by rw [e14]; exact ⟨r15.1, r15.2⟩
        refine x_aload_n hC 2 rfl dX7_open_135 ?_
        have k26 : hK σ16 this = 8 := by rw [e14]; exact k24
        refine x_getR (n0 := this) hC (ci := 7) (T := TX7) (N := 36) (C := RX7) 8 k26 rfl rfl (by decide) rfl q697 dX7_open_136 ?_
        rw [r16.1]
        refine x_iload hC 0 rfl dX7_open_139 ?_
        refine x_iload_n hC 5 rfl dX7_open_141 ?_
        obtain ⟨m12, hm12, h⟩ := h
        rw [show rv ρ (hR σ11 this 8) = Value.ref (ρ m12) from by rw [hm12]; rfl]
        obtain ⟨k27, h⟩ := h
        obtain ⟨v14, h⟩ := h
        refine x_iast (a := m12) hC k27 (by rw [r16.2]; exact v14) dX7_open_142 ?_
        refine xJ.nmH (fun σ17 e15 => ?_)
        have h := h σ17 e15
        have r17 : hR σ17 = hR σ11 ∧ hL σ17 = hL σ11 := by rw [e15]; exact ⟨r16.1, r16.2⟩
        refine x_aload_n hC 2 rfl dX7_open_143 ?_
        have k28 : hK σ17 this = 8 := by rw [e15]; exact k26
        refine x_getR (n0 := this) hC (ci := 7) (T := TX7) (N := 36) (C := RX7) 9 k28 rfl rfl (by decide) rfl q698 dX7_open_144 ?_
        rw [r17.1]
        refine x_iload hC 0 rfl dX7_open_147 ?_
        refine x_iload hC 6 rfl dX7_open_149 ?_
        obtain ⟨m13, hm13, h⟩ := h
        rw [show rv ρ (hR σ11 this 9) = Value.ref (ρ m13) from by rw [hm13]; rfl]
        obtain ⟨k29, h⟩ := h
        obtain ⟨v15, h⟩ := h
        refine x_iast (a := m13) hC k29 (by rw [r17.2]; exact v15) dX7_open_151 ?_
        refine xJ.nmH (fun σ18 e16 => ?_)
        have h := h σ18 e16
        have r18 : hR σ18 = hR σ11 ∧ hL σ18 = hL σ11 := by rw [e16]; exact ⟨r17.1, r17.2⟩
        refine x_aload_n hC 2 rfl dX7_open_152 ?_
        have k30 : hK σ18 this = 8 := by rw [e16]; exact k28
        refine x_getR (n0 := this) hC (ci := 7) (T := TX7) (N := 36) (C := RX7) 10 k30 rfl rfl (by decide) rfl q699 dX7_open_153 ?_
        rw [r18.1]
        refine x_iload hC 0 rfl dX7_open_156 ?_
        refine x_iload hC 7 rfl dX7_open_158 ?_
        obtain ⟨m14, hm14, h⟩ := h
        rw [show rv ρ (hR σ11 this 10) = Value.ref (ρ m14) from by rw [hm14]; rfl]
        obtain ⟨k31, h⟩ := h
        obtain ⟨v16, h⟩ := h
        refine x_iast (a := m14) hC k31 (by rw [r18.2]; exact v16) dX7_open_160 ?_
        refine xJ.nmH (fun σ19 e17 => ?_)
        have h := h σ19 e17
        have r19 : hR σ19 = hR σ11 ∧ hL σ19 = hL σ11 := by rw [e17]; exact ⟨r18.1, r18.2⟩
        refine x_aload_n hC 2 rfl dX7_open_161 ?_
        refine x_dup hC (by first | rfl | exact rv_cat) dX7_open_162 ?_
        have k32 : hK σ19 this = 8 := by rw [e17]; exact k30
        refine x_getI (n0 := this) hC (ci := 7) (T := TX7) (N := 36) (C := RX7) 3 k32 rfl rfl (by decide) rfl q692 dX7_open_163 ?_
        refine x_iconst (v := 1) hC dX7_open_166 (by decide) ?_
        refine x_iadd hC dX7_open_167 ?_
        refine x_putI (n0 := this) hC (ci := 7) (T := TX7) (N := 36) (C := RX7) 3 k32 rfl rfl (by decide) rfl q692 rfl (tyX7_ok 3 (by decide)) dX7_open_168 ?_
        refine xJ.nmH (fun σ20 e18 => ?_)
        have h := h σ20 e18
        have r20 : hR σ20 = hR σ11 ∧ hL σ20 = hL σ11 := by rw [e18]; exact ⟨r19.1, r19.2⟩
        refine x_iload hC 0 rfl dX7_open_171 ?_
        exact x_iret hC hr dX7_open_173 (by decide) (by decide) ⟨rfl, _, rfl, h⟩
      · have h := h.2 c6
        refine x_iconst (v := 0) hC dX7_open_92 (by decide) ?_
        exact x_iret hC hr dX7_open_93 (by decide) (by decide) ⟨rfl, _, rfl, h⟩
    · have h := h.2 c4
      refine x_iload_n hC 3 rfl dX7_open_20 ?_
      refine x_iconst (v := 1) hC dX7_open_21 (by decide) ?_
      refine x_bipush (v := 30) hC dX7_open_22 (by decide) ?_
      refine x_callS (as := [.int p3, .int 1, .int 30]) (rest := []) hC (fun l hl => m7_in l hl G ρ p3 1 30 σ11 _ h) q809 q810 q3 q811 hd7_in (by decide) ⟨(by decide), (by decide)⟩ (by first | exact Nat.le_of_ble_eq_true rfl | (simp [rv_cat]; done) | (simp (decide := true) [rv_cat, cat_ref, cat_int]; done)) rfl dX7_open_24 (fun E σ9 hx => False.elim hx) (fun v17 σ21 ρ3 hp3 hag3 => ?_)
      obtain ⟨e9, r21, e8, h⟩ := hp3
      rw [e8, e9]
      refine xJ.nrm (k' := 0) (n' := 0) (pc' := 27) (st' := [.int r21]) rfl rfl rfl rfl ?_
      refine x_if_eq (tgt := 56) hC dX7_open_27 (by decide) (fun c7 => ?_) (fun c7 => ?_)
      · have h := h.1 c7
        refine x_iconst (v := 0) hC dX7_open_56 (by decide) ?_
        refine x_istore (L' := [(6, .int 0), (0, .ref (ρ this)), (1, .int p1), (2, .int p2), (3, .int p3), (4, .int p4), (5, .int p5)]) hC dX7_open_57 (by decide) (by first | rfl | simp (decide := true) [rv_cat, cat_ref, cat_int]) ?_
        refine x_aload_n hC 1 rfl dX7_open_59 ?_
        refine x_iload hC 0 rfl dX7_open_60 ?_
        refine x_if_ne (tgt := 69) hC dX7_open_62 (by decide) (fun c8 => absurd c8 (by decide)) (fun _ => ?_)
        refine x_iconst (v := 1) hC dX7_open_65 (by decide) ?_
        refine x_goto (tgt := 82) hC dX7_open_66 (by decide) ?_
        obtain ⟨k33, h⟩ := h
        refine x_putI (n0 := this) hC (ci := 7) (T := TX7) (N := 36) (C := RX7) 0 k33 rfl rfl (by decide) rfl q689 rfl (tyX7_ok 0 (by decide)) dX7_open_82 ?_
        refine xJ.nmH (fun σ22 e19 => ?_)
        have h := h σ22 e19
        have r22 : hR σ22 = hR σ21 ∧ hL σ22 = hL σ21 := by rw [e19]; exact ⟨rfl, rfl⟩
        refine x_aload_n hC 1 rfl dX7_open_85 ?_
        have k34 : hK σ22 this = 8 := by rw [e19]; exact k33
        refine x_getI (n0 := this) hC (ci := 7) (T := TX7) (N := 36) (C := RX7) 0 k34 rfl rfl (by decide) rfl q689 dX7_open_86 ?_
        refine x_if_le (tgt := 94) hC dX7_open_89 (by decide) (fun c9 => ?_) (fun c9 => ?_)
        · have h := h.1 c9
          refine x_aload_n hC 1 rfl dX7_open_94 ?_
          refine x_getI (n0 := this) hC (ci := 7) (T := TX7) (N := 36) (C := RX7) 3 k34 rfl rfl (by decide) rfl q692 dX7_open_95 ?_
          refine x_istore (L' := [(7, .int (hI σ22 this 3)), (6, .int 0), (0, .ref (ρ this)), (1, .int p1), (2, .int p2), (3, .int p3), (4, .int p4), (5, .int p5)]) hC dX7_open_98 (by decide) (by first | rfl | simp (decide := true) [rv_cat, cat_ref, cat_int]) ?_
          refine x_aload_n hC 2 rfl dX7_open_100 ?_
          refine x_getR (n0 := this) hC (ci := 7) (T := TX7) (N := 36) (C := RX7) 4 k34 rfl rfl (by decide) rfl q693 dX7_open_101 ?_
          rw [r22.1]
          refine x_iload hC 0 rfl dX7_open_104 ?_
          refine x_iconst (v := 1) hC dX7_open_106 (by decide) ?_
          obtain ⟨m15, hm15, h⟩ := h
          rw [show rv ρ (hR σ21 this 4) = Value.ref (ρ m15) from by rw [hm15]; rfl]
          obtain ⟨k35, h⟩ := h
          obtain ⟨v18, h⟩ := h
          refine x_zast (a := m15) hC zb1 k35 (by rw [r22.2]; exact v18) dX7_open_107 ?_
          refine xJ.nmH (fun σ23 e20 => ?_)
          have h := h σ23 e20
          have r23 : hR σ23 = hR σ21 ∧ hL σ23 = hL σ21 := by rw [e20]; exact ⟨r22.1, r22.2⟩
          refine x_aload_n hC 2 rfl dX7_open_108 ?_
          have k36 : hK σ23 this = 8 := by rw [e20]; exact k34
          refine x_getR (n0 := this) hC (ci := 7) (T := TX7) (N := 36) (C := RX7) 5 k36 rfl rfl (by decide) rfl q694 dX7_open_109 ?_
          rw [r23.1]
          refine x_iload hC 0 rfl dX7_open_112 ?_
          refine x_aload_n hC 2 rfl dX7_open_114 ?_
          refine x_getI (n0 := this) hC (ci := 7) (T := TX7) (N := 36) (C := RX7) 1 k36 rfl rfl (by decide) rfl q690 dX7_open_115 ?_
          obtain ⟨m16, hm16, h⟩ := h
          rw [show rv ρ (hR σ21 this 5) = Value.ref (ρ m16) from by rw [hm16]; rfl]
          obtain ⟨k37, h⟩ := h
          obtain ⟨v19, h⟩ := h
          refine x_iast (a := m16) hC k37 (by rw [r23.2]; exact v19) dX7_open_118 ?_
          refine xJ.nmH (fun σ24 e21 => ?_)
          have h := h σ24 e21
          have r24 : hR σ24 = hR σ21 ∧ hL σ24 = hL σ21 := by rw [e21]; exact ⟨r23.1, r23.2⟩
          refine x_aload_n hC 2 rfl dX7_open_119 ?_
          have k38 : hK σ24 this = 8 := by rw [e21]; exact k36
          refine x_getR (n0 := this) hC (ci := 7) (T := TX7) (N := 36) (C := RX7) 6 k38 rfl rfl (by decide) rfl q695 dX7_open_120 ?_
          rw [r24.1]
          refine x_iload hC 0 rfl dX7_open_123 ?_
          refine x_iload_n hC 3 rfl dX7_open_125 ?_
          obtain ⟨m17, hm17, h⟩ := h
          rw [show rv ρ (hR σ21 this 6) = Value.ref (ρ m17) from by rw [hm17]; rfl]
          obtain ⟨k39, h⟩ := h
          obtain ⟨v20, h⟩ := h
          refine x_iast (a := m17) hC k39 (by rw [r24.2]; exact v20) dX7_open_126 ?_
          refine xJ.nmH (fun σ25 e22 => ?_)
          have h := h σ25 e22
          have r25 : hR σ25 = hR σ21 ∧ hL σ25 = hL σ21 := by rw [e22]; exact ⟨r24.1, r24.2⟩
          refine x_aload_n hC 2 rfl dX7_open_127 ?_
          have k40 : hK σ25 this = 8 := by rw [e22]; exact k38
          refine x_getR (n0 := this) hC (ci := 7) (T := TX7) (N := 36) (C := RX7) 7 k40 rfl rfl (by decide) rfl q696 dX7_open_128 ?_
          rw [r25.1]
          refine x_iload hC 0 rfl dX7_open_131 ?_
          refine x_iload_n hC 4 rfl dX7_open_133 ?_
          obtain ⟨m18, hm18, h⟩ := h
          rw [show rv ρ (hR σ21 this 7) = Value.ref (ρ m18) from by rw [hm18]; rfl]
          obtain ⟨k41, h⟩ := h
          obtain ⟨v21, h⟩ := h
          refine x_iast (a := m18) hC k41 (by rw [r25.2]; exact v21) dX7_open_134 ?_
          refine xJ.nmH (fun σ26 e23 => ?_)
          have h := h σ26 e23
          have r26 : hR σ26 = hR σ21 ∧ hL σ26 = hL σ21 := by rw [e23]; exact ⟨r25.1, r25.2⟩
          refine x_aload_n hC 2 rfl dX7_open_135 ?_
          have k42 : hK σ26 this = 8 := by rw [e23]; exact k40
          refine x_getR (n0 := this) hC (ci := 7) (T := TX7) (N := 36) (C := RX7) 8 k42 rfl rfl (by decide) rfl q697 dX7_open_136 ?_
          rw [r26.1]
          refine x_iload hC 0 rfl dX7_open_139 ?_
          refine x_iload_n hC 5 rfl dX7_open_141 ?_
          obtain ⟨m19, hm19, h⟩ := h
          rw [show rv ρ (hR σ21 this 8) = Value.ref (ρ m19) from by rw [hm19]; rfl]
          obtain ⟨k43, h⟩ := h
          obtain ⟨v22, h⟩ := h
          refine x_iast (a := m19) hC k43 (by rw [r26.2]; exact v22) dX7_open_142 ?_
          refine xJ.nmH (fun σ27 e24 => ?_)
          have h := h σ27 e24
          have r27 : hR σ27 = hR σ21 ∧ hL σ27 = hL σ21 := by rw [e24]; exact ⟨r26.1, r26.2⟩
          refine x_aload_n hC 2 rfl dX7_open_143 ?_
          have k44 : hK σ27 this = 8 := by rw [e24]; exact k42
          refine x_getR (n0 := this) hC (ci := 7) (T := TX7) (N := 36) (C := RX7) 9 k44 rfl rfl (by decide) rfl q698 dX7_open_144 ?_
          rw [r27.1]
          refine x_iload hC 0 rfl dX7_open_147 ?_
          refine x_iload hC 6 rfl dX7_open_149 ?_
          obtain ⟨m20, hm20, h⟩ := h
          rw [show rv ρ (hR σ21 this 9) = Value.ref (ρ m20) from by rw [hm20]; rfl]
          obtain ⟨k45, h⟩ := h
          obtain ⟨v23, h⟩ := h
          refine x_iast (a := m20) hC k45 (by rw [r27.2]; exact v23) dX7_open_151 ?_
          refine xJ.nmH (fun σ28 e25 => ?_)
          have h := h σ28 e25
          have r28 : hR σ28 = hR σ21 ∧ hL σ28 = hL σ21 := by rw [e25]; exact ⟨r27.1, r27.2⟩
          refine x_aload_n hC 2 rfl dX7_open_152 ?_
          have k46 : hK σ28 this = 8 := by rw [e25]; exact k44
          refine x_getR (n0 := this) hC (ci := 7) (T := TX7) (N := 36) (C := RX7) 10 k46 rfl rfl (by decide) rfl q699 dX7_open_153 ?_
          rw [r28.1]
          refine x_iload hC 0 rfl dX7_open_156 ?_
          refine x_iload hC 7 rfl dX7_open_158 ?_
          obtain ⟨m21, hm21, h⟩ := h
          rw [show rv ρ (hR σ21 this 10) = Value.ref (ρ m21) from by rw [hm21]; rfl]
          obtain ⟨k47, h⟩ := h
          obtain ⟨v24, h⟩ := h
          refine x_iast (a := m21) hC k47 (by rw [r28.2]; exact v24) dX7_open_160 ?_
          refine xJ.nmH (fun σ29 e26 => ?_)
          have h := h σ29 e26
          have r29 : hR σ29 = hR σ21 ∧ hL σ29 = hL σ21 := by rw [e26]; exact ⟨r28.1, r28.2⟩
          refine x_aload_n hC 2 rfl dX7_open_161 ?_
          refine x_dup hC (by first | rfl | exact rv_cat) dX7_open_162 ?_
          have k48 : hK σ29 this = 8 := by rw [e26]; exact k46
          refine x_getI (n0 := this) hC (ci := 7) (T := TX7) (N := 36) (C := RX7) 3 k48 rfl rfl (by decide) rfl q692 dX7_open_163 ?_
          refine x_iconst (v := 1) hC dX7_open_166 (by decide) ?_
          refine x_iadd hC dX7_open_167 ?_
          refine x_putI (n0 := this) hC (ci := 7) (T := TX7) (N := 36) (C := RX7) 3 k48 rfl rfl (by decide) rfl q692 rfl (tyX7_ok 3 (by decide)) dX7_open_168 ?_
          refine xJ.nmH (fun σ30 e27 => ?_)
          have h := h σ30 e27
          have r30 : hR σ30 = hR σ21 ∧ hL σ30 = hL σ21 := by rw [e27]; exact ⟨r29.1, r29.2⟩
          refine x_iload hC 0 rfl dX7_open_171 ?_
          exact x_iret hC hr dX7_open_173 (by decide) (by decide) ⟨rfl, _, rfl, h⟩
        · have h := h.2 c9
          refine x_iconst (v := 0) hC dX7_open_92 (by decide) ?_
          exact x_iret hC hr dX7_open_93 (by decide) (by decide) ⟨rfl, _, rfl, h⟩
      · have h := h.2 c7
        refine x_iload hC 4 rfl dX7_open_30 ?_
        refine x_iconst (v := 0) hC dX7_open_32 (by decide) ?_
        refine x_bipush (v := 9) hC dX7_open_33 (by decide) ?_
        refine x_callS (as := [.int p4, .int 0, .int 9]) (rest := []) hC (fun l hl => m7_in l hl G ρ p4 0 9 σ21 _ h) q809 q810 q3 q811 hd7_in (by decide) ⟨(by decide), (by decide)⟩ (by first | exact Nat.le_of_ble_eq_true rfl | (simp [rv_cat]; done) | (simp (decide := true) [rv_cat, cat_ref, cat_int]; done)) rfl dX7_open_35 (fun E σ9 hx => False.elim hx) (fun v25 σ31 ρ4 hp4 hag4 => ?_)
        obtain ⟨e9, r31, e8, h⟩ := hp4
        rw [e8, e9]
        refine xJ.nrm (k' := 0) (n' := 0) (pc' := 38) (st' := [.int r31]) rfl rfl rfl rfl ?_
        refine x_if_eq (tgt := 56) hC dX7_open_38 (by decide) (fun c10 => ?_) (fun c10 => ?_)
        · have h := h.1 c10
          refine x_iconst (v := 0) hC dX7_open_56 (by decide) ?_
          refine x_istore (L' := [(6, .int 0), (0, .ref (ρ this)), (1, .int p1), (2, .int p2), (3, .int p3), (4, .int p4), (5, .int p5)]) hC dX7_open_57 (by decide) (by first | rfl | simp (decide := true) [rv_cat, cat_ref, cat_int]) ?_
          refine x_aload_n hC 1 rfl dX7_open_59 ?_
          refine x_iload hC 0 rfl dX7_open_60 ?_
          refine x_if_ne (tgt := 69) hC dX7_open_62 (by decide) (fun c11 => absurd c11 (by decide)) (fun _ => ?_)
          refine x_iconst (v := 1) hC dX7_open_65 (by decide) ?_
          refine x_goto (tgt := 82) hC dX7_open_66 (by decide) ?_
          obtain ⟨k49, h⟩ := h
          refine x_putI (n0 := this) hC (ci := 7) (T := TX7) (N := 36) (C := RX7) 0 k49 rfl rfl (by decide) rfl q689 rfl (tyX7_ok 0 (by decide)) dX7_open_82 ?_
          refine xJ.nmH (fun σ32 e28 => ?_)
          have h := h σ32 e28
          have r32 : hR σ32 = hR σ31 ∧ hL σ32 = hL σ31 := by rw [e28]; exact ⟨rfl, rfl⟩
          refine x_aload_n hC 1 rfl dX7_open_85 ?_
          have k50 : hK σ32 this = 8 := by rw [e28]; exact k49
          refine x_getI (n0 := this) hC (ci := 7) (T := TX7) (N := 36) (C := RX7) 0 k50 rfl rfl (by decide) rfl q689 dX7_open_86 ?_
          refine x_if_le (tgt := 94) hC dX7_open_89 (by decide) (fun c12 => ?_) (fun c12 => ?_)
          · have h := h.1 c12
            refine x_aload_n hC 1 rfl dX7_open_94 ?_
            refine x_getI (n0 := this) hC (ci := 7) (T := TX7) (N := 36) (C := RX7) 3 k50 rfl rfl (by decide) rfl q692 dX7_open_95 ?_
            refine x_istore (L' := [(7, .int (hI σ32 this 3)), (6, .int 0), (0, .ref (ρ this)), (1, .int p1), (2, .int p2), (3, .int p3), (4, .int p4), (5, .int p5)]) hC dX7_open_98 (by decide) (by first | rfl | simp (decide := true) [rv_cat, cat_ref, cat_int]) ?_
            refine x_aload_n hC 2 rfl dX7_open_100 ?_
            refine x_getR (n0 := this) hC (ci := 7) (T := TX7) (N := 36) (C := RX7) 4 k50 rfl rfl (by decide) rfl q693 dX7_open_101 ?_
            rw [r32.1]
            refine x_iload hC 0 rfl dX7_open_104 ?_
            refine x_iconst (v := 1) hC dX7_open_106 (by decide) ?_
            obtain ⟨m22, hm22, h⟩ := h
            rw [show rv ρ (hR σ31 this 4) = Value.ref (ρ m22) from by rw [hm22]; rfl]
            obtain ⟨k51, h⟩ := h
            obtain ⟨v26, h⟩ := h
            refine x_zast (a := m22) hC zb1 k51 (by rw [r32.2]; exact v26) dX7_open_107 ?_
            refine xJ.nmH (fun σ33 e29 => ?_)
            have h := h σ33 e29
            have r33 : hR σ33 = hR σ31 ∧ hL σ33 = hL σ31 := by rw [e29]; exact ⟨r32.1, r32.2⟩
            refine x_aload_n hC 2 rfl dX7_open_108 ?_
            have k52 : hK σ33 this = 8 := by rw [e29]; exact k50
            refine x_getR (n0 := this) hC (ci := 7) (T := TX7) (N := 36) (C := RX7) 5 k52 rfl rfl (by decide) rfl q694 dX7_open_109 ?_
            rw [r33.1]
            refine x_iload hC 0 rfl dX7_open_112 ?_
            refine x_aload_n hC 2 rfl dX7_open_114 ?_
            refine x_getI (n0 := this) hC (ci := 7) (T := TX7) (N := 36) (C := RX7) 1 k52 rfl rfl (by decide) rfl q690 dX7_open_115 ?_
            obtain ⟨m23, hm23, h⟩ := h
            rw [show rv ρ (hR σ31 this 5) = Value.ref (ρ m23) from by rw [hm23]; rfl]
            obtain ⟨k53, h⟩ := h
            obtain ⟨v27, h⟩ := h
            refine x_iast (a := m23) hC k53 (by rw [r33.2]; exact v27) dX7_open_118 ?_
            refine xJ.nmH (fun σ34 e30 => ?_)
            have h := h σ34 e30
            have r34 : hR σ34 = hR σ31 ∧ hL σ34 = hL σ31 := by rw [e30]; exact ⟨r33.1, r33.2⟩
            refine x_aload_n hC 2 rfl dX7_open_119 ?_
            have k54 : hK σ34 this = 8 := by rw [e30]; exact k52
            refine x_getR (n0 := this) hC (ci := 7) (T := TX7) (N := 36) (C := RX7) 6 k54 rfl rfl (by decide) rfl q695 dX7_open_120 ?_
            rw [r34.1]
            refine x_iload hC 0 rfl dX7_open_123 ?_
            refine x_iload_n hC 3 rfl dX7_open_125 ?_
            obtain ⟨m24, hm24, h⟩ := h
            rw [show rv ρ (hR σ31 this 6) = Value.ref (ρ m24) from by rw [hm24]; rfl]
            obtain ⟨k55, h⟩ := h
            obtain ⟨v28, h⟩ := h
            refine x_iast (a := m24) hC k55 (by rw [r34.2]; exact v28) dX7_open_126 ?_
            refine xJ.nmH (fun σ35 e31 => ?_)
            have h := h σ35 e31
            have r35 : hR σ35 = hR σ31 ∧ hL σ35 = hL σ31 := by rw [e31]; exact ⟨r34.1, r34.2⟩
            refine x_aload_n hC 2 rfl dX7_open_127 ?_
            have k56 : hK σ35 this = 8 := by rw [e31]; exact k54
            refine x_getR (n0 := this) hC (ci := 7) (T := TX7) (N := 36) (C := RX7) 7 k56 rfl rfl (by decide) rfl q696 dX7_open_128 ?_
            rw [r35.1]
            refine x_iload hC 0 rfl dX7_open_131 ?_
            refine x_iload_n hC 4 rfl dX7_open_133 ?_
            obtain ⟨m25, hm25, h⟩ := h
            rw [show rv ρ (hR σ31 this 7) = Value.ref (ρ m25) from by rw [hm25]; rfl]
            obtain ⟨k57, h⟩ := h
            obtain ⟨v29, h⟩ := h
            refine x_iast (a := m25) hC k57 (by rw [r35.2]; exact v29) dX7_open_134 ?_
            refine xJ.nmH (fun σ36 e32 => ?_)
            have h := h σ36 e32
            have r36 : hR σ36 = hR σ31 ∧ hL σ36 = hL σ31 := by rw [e32]; exact ⟨r35.1, r35.2⟩
            refine x_aload_n hC 2 rfl dX7_open_135 ?_
            have k58 : hK σ36 this = 8 := by rw [e32]; exact k56
            refine x_getR (n0 := this) hC (ci := 7) (T := TX7) (N := 36) (C := RX7) 8 k58 rfl rfl (by decide) rfl q697 dX7_open_136 ?_
            rw [r36.1]
            refine x_iload hC 0 rfl dX7_open_139 ?_
            refine x_iload_n hC 5 rfl dX7_open_141 ?_
            obtain ⟨m26, hm26, h⟩ := h
            rw [show rv ρ (hR σ31 this 8) = Value.ref (ρ m26) from by rw [hm26]; rfl]
            obtain ⟨k59, h⟩ := h
            obtain ⟨v30, h⟩ := h
            refine x_iast (a := m26) hC k59 (by rw [r36.2]; exact v30) dX7_open_142 ?_
            refine xJ.nmH (fun σ37 e33 => ?_)
            have h := h σ37 e33
            have r37 : hR σ37 = hR σ31 ∧ hL σ37 = hL σ31 := by rw [e33]; exact ⟨r36.1, r36.2⟩
            refine x_aload_n hC 2 rfl dX7_open_143 ?_
            have k60 : hK σ37 this = 8 := by rw [e33]; exact k58
            refine x_getR (n0 := this) hC (ci := 7) (T := TX7) (N := 36) (C := RX7) 9 k60 rfl rfl (by decide) rfl q698 dX7_open_144 ?_
            rw [r37.1]
            refine x_iload hC 0 rfl dX7_open_147 ?_
            refine x_iload hC 6 rfl dX7_open_149 ?_
            obtain ⟨m27, hm27, h⟩ := h
            rw [show rv ρ (hR σ31 this 9) = Value.ref (ρ m27) from by rw [hm27]; rfl]
            obtain ⟨k61, h⟩ := h
            obtain ⟨v31, h⟩ := h
            refine x_iast (a := m27) hC k61 (by rw [r37.2]; exact v31) dX7_open_151 ?_
            refine xJ.nmH (fun σ38 e34 => ?_)
            have h := h σ38 e34
            have r38 : hR σ38 = hR σ31 ∧ hL σ38 = hL σ31 := by rw [e34]; exact ⟨r37.1, r37.2⟩
            refine x_aload_n hC 2 rfl dX7_open_152 ?_
            have k62 : hK σ38 this = 8 := by rw [e34]; exact k60
            refine x_getR (n0 := this) hC (ci := 7) (T := TX7) (N := 36) (C := RX7) 10 k62 rfl rfl (by decide) rfl q699 dX7_open_153 ?_
            rw [r38.1]
            refine x_iload hC 0 rfl dX7_open_156 ?_
            refine x_iload hC 7 rfl dX7_open_158 ?_
            obtain ⟨m28, hm28, h⟩ := h
            rw [show rv ρ (hR σ31 this 10) = Value.ref (ρ m28) from by rw [hm28]; rfl]
            obtain ⟨k63, h⟩ := h
            obtain ⟨v32, h⟩ := h
            refine x_iast (a := m28) hC k63 (by rw [r38.2]; exact v32) dX7_open_160 ?_
            refine xJ.nmH (fun σ39 e35 => ?_)
            have h := h σ39 e35
            have r39 : hR σ39 = hR σ31 ∧ hL σ39 = hL σ31 := by rw [e35]; exact ⟨r38.1, r38.2⟩
            refine x_aload_n hC 2 rfl dX7_open_161 ?_
            refine x_dup hC (by first | rfl | exact rv_cat) dX7_open_162 ?_
            have k64 : hK σ39 this = 8 := by rw [e35]; exact k62
            refine x_getI (n0 := this) hC (ci := 7) (T := TX7) (N := 36) (C := RX7) 3 k64 rfl rfl (by decide) rfl q692 dX7_open_163 ?_
            refine x_iconst (v := 1) hC dX7_open_166 (by decide) ?_
            refine x_iadd hC dX7_open_167 ?_
            refine x_putI (n0 := this) hC (ci := 7) (T := TX7) (N := 36) (C := RX7) 3 k64 rfl rfl (by decide) rfl q692 rfl (tyX7_ok 3 (by decide)) dX7_open_168 ?_
            refine xJ.nmH (fun σ40 e36 => ?_)
            have h := h σ40 e36
            have r40 : hR σ40 = hR σ31 ∧ hL σ40 = hL σ31 := by rw [e36]; exact ⟨r39.1, r39.2⟩
            refine x_iload hC 0 rfl dX7_open_171 ?_
            exact x_iret hC hr dX7_open_173 (by decide) (by decide) ⟨rfl, _, rfl, h⟩
          · have h := h.2 c12
            refine x_iconst (v := 0) hC dX7_open_92 (by decide) ?_
            exact x_iret hC hr dX7_open_93 (by decide) (by decide) ⟨rfl, _, rfl, h⟩
        · have h := h.2 c10
          refine x_iload hC 5 rfl dX7_open_41 ?_
          refine x_iconst (v := 1) hC dX7_open_43 (by decide) ?_
          refine x_bipush (v := 10) hC dX7_open_44 (by decide) ?_
          refine x_callS (as := [.int p5, .int 1, .int 10]) (rest := []) hC (fun l hl => m7_in l hl G ρ p5 1 10 σ31 _ h) q809 q810 q3 q811 hd7_in (by decide) ⟨(by decide), (by decide)⟩ (by first | exact Nat.le_of_ble_eq_true rfl | (simp [rv_cat]; done) | (simp (decide := true) [rv_cat, cat_ref, cat_int]; done)) rfl dX7_open_46 (fun E σ9 hx => False.elim hx) (fun v33 σ41 ρ5 hp5 hag5 => ?_)
          obtain ⟨e9, r41, e8, h⟩ := hp5
          rw [e8, e9]
          refine xJ.nrm (k' := 0) (n' := 0) (pc' := 49) (st' := [.int r41]) rfl rfl rfl rfl ?_
          refine x_if_eq (tgt := 56) hC dX7_open_49 (by decide) (fun c13 => ?_) (fun c13 => ?_)
          · have h := h.1 c13
            refine x_iconst (v := 0) hC dX7_open_56 (by decide) ?_
            refine x_istore (L' := [(6, .int 0), (0, .ref (ρ this)), (1, .int p1), (2, .int p2), (3, .int p3), (4, .int p4), (5, .int p5)]) hC dX7_open_57 (by decide) (by first | rfl | simp (decide := true) [rv_cat, cat_ref, cat_int]) ?_
            refine x_aload_n hC 1 rfl dX7_open_59 ?_
            refine x_iload hC 0 rfl dX7_open_60 ?_
            refine x_if_ne (tgt := 69) hC dX7_open_62 (by decide) (fun c14 => absurd c14 (by decide)) (fun _ => ?_)
            refine x_iconst (v := 1) hC dX7_open_65 (by decide) ?_
            refine x_goto (tgt := 82) hC dX7_open_66 (by decide) ?_
            obtain ⟨k65, h⟩ := h
            refine x_putI (n0 := this) hC (ci := 7) (T := TX7) (N := 36) (C := RX7) 0 k65 rfl rfl (by decide) rfl q689 rfl (tyX7_ok 0 (by decide)) dX7_open_82 ?_
            refine xJ.nmH (fun σ42 e37 => ?_)
            have h := h σ42 e37
            have r42 : hR σ42 = hR σ41 ∧ hL σ42 = hL σ41 := by rw [e37]; exact ⟨rfl, rfl⟩
            refine x_aload_n hC 1 rfl dX7_open_85 ?_
            have k66 : hK σ42 this = 8 := by rw [e37]; exact k65
            refine x_getI (n0 := this) hC (ci := 7) (T := TX7) (N := 36) (C := RX7) 0 k66 rfl rfl (by decide) rfl q689 dX7_open_86 ?_
            refine x_if_le (tgt := 94) hC dX7_open_89 (by decide) (fun c15 => ?_) (fun c15 => ?_)
            · have h := h.1 c15
              refine x_aload_n hC 1 rfl dX7_open_94 ?_
              refine x_getI (n0 := this) hC (ci := 7) (T := TX7) (N := 36) (C := RX7) 3 k66 rfl rfl (by decide) rfl q692 dX7_open_95 ?_
              refine x_istore (L' := [(7, .int (hI σ42 this 3)), (6, .int 0), (0, .ref (ρ this)), (1, .int p1), (2, .int p2), (3, .int p3), (4, .int p4), (5, .int p5)]) hC dX7_open_98 (by decide) (by first | rfl | simp (decide := true) [rv_cat, cat_ref, cat_int]) ?_
              refine x_aload_n hC 2 rfl dX7_open_100 ?_
              refine x_getR (n0 := this) hC (ci := 7) (T := TX7) (N := 36) (C := RX7) 4 k66 rfl rfl (by decide) rfl q693 dX7_open_101 ?_
              rw [r42.1]
              refine x_iload hC 0 rfl dX7_open_104 ?_
              refine x_iconst (v := 1) hC dX7_open_106 (by decide) ?_
              obtain ⟨m29, hm29, h⟩ := h
              rw [show rv ρ (hR σ41 this 4) = Value.ref (ρ m29) from by rw [hm29]; rfl]
              obtain ⟨k67, h⟩ := h
              obtain ⟨v34, h⟩ := h
              refine x_zast (a := m29) hC zb1 k67 (by rw [r42.2]; exact v34) dX7_open_107 ?_
              refine xJ.nmH (fun σ43 e38 => ?_)
              have h := h σ43 e38
              have r43 : hR σ43 = hR σ41 ∧ hL σ43 = hL σ41 := by rw [e38]; exact ⟨r42.1, r42.2⟩
              refine x_aload_n hC 2 rfl dX7_open_108 ?_
              have k68 : hK σ43 this = 8 := by rw [e38]; exact k66
              refine x_getR (n0 := this) hC (ci := 7) (T := TX7) (N := 36) (C := RX7) 5 k68 rfl rfl (by decide) rfl q694 dX7_open_109 ?_
              rw [r43.1]
              refine x_iload hC 0 rfl dX7_open_112 ?_
              refine x_aload_n hC 2 rfl dX7_open_114 ?_
              refine x_getI (n0 := this) hC (ci := 7) (T := TX7) (N := 36) (C := RX7) 1 k68 rfl rfl (by decide) rfl q690 dX7_open_115 ?_
              obtain ⟨m30, hm30, h⟩ := h
              rw [show rv ρ (hR σ41 this 5) = Value.ref (ρ m30) from by rw [hm30]; rfl]
              obtain ⟨k69, h⟩ := h
              obtain ⟨v35, h⟩ := h
              refine x_iast (a := m30) hC k69 (by rw [r43.2]; exact v35) dX7_open_118 ?_
              refine xJ.nmH (fun σ44 e39 => ?_)
              have h := h σ44 e39
              have r44 : hR σ44 = hR σ41 ∧ hL σ44 = hL σ41 := by rw [e39]; exact ⟨r43.1, r43.2⟩
              refine x_aload_n hC 2 rfl dX7_open_119 ?_
              have k70 : hK σ44 this = 8 := by rw [e39]; exact k68
              refine x_getR (n0 := this) hC (ci := 7) (T := TX7) (N := 36) (C := RX7) 6 k70 rfl rfl (by decide) rfl q695 dX7_open_120 ?_
              rw [r44.1]
              refine x_iload hC 0 rfl dX7_open_123 ?_
              refine x_iload_n hC 3 rfl dX7_open_125 ?_
              obtain ⟨m31, hm31, h⟩ := h
              rw [show rv ρ (hR σ41 this 6) = Value.ref (ρ m31) from by rw [hm31]; rfl]
              obtain ⟨k71, h⟩ := h
              obtain ⟨v36, h⟩ := h
              refine x_iast (a := m31) hC k71 (by rw [r44.2]; exact v36) dX7_open_126 ?_
              refine xJ.nmH (fun σ45 e40 => ?_)
              have h := h σ45 e40
              have r45 : hR σ45 = hR σ41 ∧ hL σ45 = hL σ41 := by rw [e40]; exact ⟨r44.1, r44.2⟩
              refine x_aload_n hC 2 rfl dX7_open_127 ?_
              have k72 : hK σ45 this = 8 := by rw [e40]; exact k70
              refine x_getR (n0 := this) hC (ci := 7) (T := TX7) (N := 36) (C := RX7) 7 k72 rfl rfl (by decide) rfl q696 dX7_open_128 ?_
              rw [r45.1]
              refine x_iload hC 0 rfl dX7_open_131 ?_
              refine x_iload_n hC 4 rfl dX7_open_133 ?_
              obtain ⟨m32, hm32, h⟩ := h
              rw [show rv ρ (hR σ41 this 7) = Value.ref (ρ m32) from by rw [hm32]; rfl]
              obtain ⟨k73, h⟩ := h
              obtain ⟨v37, h⟩ := h
              refine x_iast (a := m32) hC k73 (by rw [r45.2]; exact v37) dX7_open_134 ?_
              refine xJ.nmH (fun σ46 e41 => ?_)
              have h := h σ46 e41
              have r46 : hR σ46 = hR σ41 ∧ hL σ46 = hL σ41 := by rw [e41]; exact ⟨r45.1, r45.2⟩
              refine x_aload_n hC 2 rfl dX7_open_135 ?_
              have k74 : hK σ46 this = 8 := by rw [e41]; exact k72
              refine x_getR (n0 := this) hC (ci := 7) (T := TX7) (N := 36) (C := RX7) 8 k74 rfl rfl (by decide) rfl q697 dX7_open_136 ?_
              rw [r46.1]
              refine x_iload hC 0 rfl dX7_open_139 ?_
              refine x_iload_n hC 5 rfl dX7_open_141 ?_
              obtain ⟨m33, hm33, h⟩ := h
              rw [show rv ρ (hR σ41 this 8) = Value.ref (ρ m33) from by rw [hm33]; rfl]
              obtain ⟨k75, h⟩ := h
              obtain ⟨v38, h⟩ := h
              refine x_iast (a := m33) hC k75 (by rw [r46.2]; exact v38) dX7_open_142 ?_
              refine xJ.nmH (fun σ47 e42 => ?_)
              have h := h σ47 e42
              have r47 : hR σ47 = hR σ41 ∧ hL σ47 = hL σ41 := by rw [e42]; exact ⟨r46.1, r46.2⟩
              refine x_aload_n hC 2 rfl dX7_open_143 ?_
              have k76 : hK σ47 this = 8 := by rw [e42]; exact k74
              refine x_getR (n0 := this) hC (ci := 7) (T := TX7) (N := 36) (C := RX7) 9 k76 rfl rfl (by decide) rfl q698 dX7_open_144 ?_
              rw [r47.1]
              refine x_iload hC 0 rfl dX7_open_147 ?_
              refine x_iload hC 6 rfl dX7_open_149 ?_
              obtain ⟨m34, hm34, h⟩ := h
              rw [show rv ρ (hR σ41 this 9) = Value.ref (ρ m34) from by rw [hm34]; rfl]
              obtain ⟨k77, h⟩ := h
              obtain ⟨v39, h⟩ := h
              refine x_iast (a := m34) hC k77 (by rw [r47.2]; exact v39) dX7_open_151 ?_
              refine xJ.nmH (fun σ48 e43 => ?_)
              have h := h σ48 e43
              have r48 : hR σ48 = hR σ41 ∧ hL σ48 = hL σ41 := by rw [e43]; exact ⟨r47.1, r47.2⟩
              refine x_aload_n hC 2 rfl dX7_open_152 ?_
              have k78 : hK σ48 this = 8 := by rw [e43]; exact k76
              refine x_getR (n0 := this) hC (ci := 7) (T := TX7) (N := 36) (C := RX7) 10 k78 rfl rfl (by decide) rfl q699 dX7_open_153 ?_
              rw [r48.1]
              refine x_iload hC 0 rfl dX7_open_156 ?_
              refine x_iload hC 7 rfl dX7_open_158 ?_
              obtain ⟨m35, hm35, h⟩ := h
              rw [show rv ρ (hR σ41 this 10) = Value.ref (ρ m35) from by rw [hm35]; rfl]
              obtain ⟨k79, h⟩ := h
              obtain ⟨v40, h⟩ := h
              refine x_iast (a := m35) hC k79 (by rw [r48.2]; exact v40) dX7_open_160 ?_
              refine xJ.nmH (fun σ49 e44 => ?_)
              have h := h σ49 e44
              have r49 : hR σ49 = hR σ41 ∧ hL σ49 = hL σ41 := by rw [e44]; exact ⟨r48.1, r48.2⟩
              refine x_aload_n hC 2 rfl dX7_open_161 ?_
              refine x_dup hC (by first | rfl | exact rv_cat) dX7_open_162 ?_
              have k80 : hK σ49 this = 8 := by rw [e44]; exact k78
              refine x_getI (n0 := this) hC (ci := 7) (T := TX7) (N := 36) (C := RX7) 3 k80 rfl rfl (by decide) rfl q692 dX7_open_163 ?_
              refine x_iconst (v := 1) hC dX7_open_166 (by decide) ?_
              refine x_iadd hC dX7_open_167 ?_
              refine x_putI (n0 := this) hC (ci := 7) (T := TX7) (N := 36) (C := RX7) 3 k80 rfl rfl (by decide) rfl q692 rfl (tyX7_ok 3 (by decide)) dX7_open_168 ?_
              refine xJ.nmH (fun σ50 e45 => ?_)
              have h := h σ50 e45
              have r50 : hR σ50 = hR σ41 ∧ hL σ50 = hL σ41 := by rw [e45]; exact ⟨r49.1, r49.2⟩
              refine x_iload hC 0 rfl dX7_open_171 ?_
              exact x_iret hC hr dX7_open_173 (by decide) (by decide) ⟨rfl, _, rfl, h⟩
            · have h := h.2 c15
              refine x_iconst (v := 0) hC dX7_open_92 (by decide) ?_
              exact x_iret hC hr dX7_open_93 (by decide) (by decide) ⟨rfl, _, rfl, h⟩
          · have h := h.2 c13
            refine x_iconst (v := 1) hC dX7_open_52 (by decide) ?_
            refine x_goto (tgt := 57) hC dX7_open_53 (by decide) ?_
            refine x_istore (L' := [(6, .int 1), (0, .ref (ρ this)), (1, .int p1), (2, .int p2), (3, .int p3), (4, .int p4), (5, .int p5)]) hC dX7_open_57 (by decide) (by first | rfl | simp (decide := true) [rv_cat, cat_ref, cat_int]) ?_
            refine x_aload_n hC 1 rfl dX7_open_59 ?_
            refine x_iload hC 0 rfl dX7_open_60 ?_
            refine x_if_ne (tgt := 69) hC dX7_open_62 (by decide) (fun _ => ?_) (fun c16 => absurd c16 (by decide))
            refine x_aload_n hC 1 rfl dX7_open_69 ?_
            obtain ⟨k81, h⟩ := h
            refine x_getI (n0 := this) hC (ci := 7) (T := TX7) (N := 36) (C := RX7) 3 k81 rfl rfl (by decide) rfl q692 dX7_open_70 ?_
            refine x_iconst (v := 4) hC dX7_open_73 (by decide) ?_
            refine x_icmp_ne (tgt := 81) hC dX7_open_74 (by decide) (fun c17 => ?_) (fun c17 => ?_)
            · have h := h.1 c17
              refine x_iconst (v := 0) hC dX7_open_81 (by decide) ?_
              refine x_putI (n0 := this) hC (ci := 7) (T := TX7) (N := 36) (C := RX7) 0 k81 rfl rfl (by decide) rfl q689 rfl (tyX7_ok 0 (by decide)) dX7_open_82 ?_
              refine xJ.nmH (fun σ51 e46 => ?_)
              have h := h σ51 e46
              have r51 : hR σ51 = hR σ41 ∧ hL σ51 = hL σ41 := by rw [e46]; exact ⟨rfl, rfl⟩
              refine x_aload_n hC 1 rfl dX7_open_85 ?_
              have k82 : hK σ51 this = 8 := by rw [e46]; exact k81
              refine x_getI (n0 := this) hC (ci := 7) (T := TX7) (N := 36) (C := RX7) 0 k82 rfl rfl (by decide) rfl q689 dX7_open_86 ?_
              refine x_if_le (tgt := 94) hC dX7_open_89 (by decide) (fun c18 => ?_) (fun c18 => ?_)
              · have h := h.1 c18
                refine x_aload_n hC 1 rfl dX7_open_94 ?_
                refine x_getI (n0 := this) hC (ci := 7) (T := TX7) (N := 36) (C := RX7) 3 k82 rfl rfl (by decide) rfl q692 dX7_open_95 ?_
                refine x_istore (L' := [(7, .int (hI σ51 this 3)), (6, .int 1), (0, .ref (ρ this)), (1, .int p1), (2, .int p2), (3, .int p3), (4, .int p4), (5, .int p5)]) hC dX7_open_98 (by decide) (by first | rfl | simp (decide := true) [rv_cat, cat_ref, cat_int]) ?_
                refine x_aload_n hC 2 rfl dX7_open_100 ?_
                refine x_getR (n0 := this) hC (ci := 7) (T := TX7) (N := 36) (C := RX7) 4 k82 rfl rfl (by decide) rfl q693 dX7_open_101 ?_
                rw [r51.1]
                refine x_iload hC 0 rfl dX7_open_104 ?_
                refine x_iconst (v := 1) hC dX7_open_106 (by decide) ?_
                obtain ⟨m36, hm36, h⟩ := h
                rw [show rv ρ (hR σ41 this 4) = Value.ref (ρ m36) from by rw [hm36]; rfl]
                obtain ⟨k83, h⟩ := h
                obtain ⟨v41, h⟩ := h
                refine x_zast (a := m36) hC zb1 k83 (by rw [r51.2]; exact v41) dX7_open_107 ?_
                refine xJ.nmH (fun σ52 e47 => ?_)
                have h := h σ52 e47
                have r52 : hR σ52 = hR σ41 ∧ hL σ52 = hL σ41 := by rw [e47]; exact ⟨r51.1, r51.2⟩
                refine x_aload_n hC 2 rfl dX7_open_108 ?_
                have k84 : hK σ52 this = 8 := by rw [e47]; exact k82
                refine x_getR (n0 := this) hC (ci := 7) (T := TX7) (N := 36) (C := RX7) 5 k84 rfl rfl (by decide) rfl q694 dX7_open_109 ?_
                rw [r52.1]
                refine x_iload hC 0 rfl dX7_open_112 ?_
                refine x_aload_n hC 2 rfl dX7_open_114 ?_
                refine x_getI (n0 := this) hC (ci := 7) (T := TX7) (N := 36) (C := RX7) 1 k84 rfl rfl (by decide) rfl q690 dX7_open_115 ?_
                obtain ⟨m37, hm37, h⟩ := h
                rw [show rv ρ (hR σ41 this 5) = Value.ref (ρ m37) from by rw [hm37]; rfl]
                obtain ⟨k85, h⟩ := h
                obtain ⟨v42, h⟩ := h
                refine x_iast (a := m37) hC k85 (by rw [r52.2]; exact v42) dX7_open_118 ?_
                refine xJ.nmH (fun σ53 e48 => ?_)
                have h := h σ53 e48
                have r53 : hR σ53 = hR σ41 ∧ hL σ53 = hL σ41 := by rw [e48]; exact ⟨r52.1, r52.2⟩
                refine x_aload_n hC 2 rfl dX7_open_119 ?_
                have k86 : hK σ53 this = 8 := by rw [e48]; exact k84
                refine x_getR (n0 := this) hC (ci := 7) (T := TX7) (N := 36) (C := RX7) 6 k86 rfl rfl (by decide) rfl q695 dX7_open_120 ?_
                rw [r53.1]
                refine x_iload hC 0 rfl dX7_open_123 ?_
                refine x_iload_n hC 3 rfl dX7_open_125 ?_
                obtain ⟨m38, hm38, h⟩ := h
                rw [show rv ρ (hR σ41 this 6) = Value.ref (ρ m38) from by rw [hm38]; rfl]
                obtain ⟨k87, h⟩ := h
                obtain ⟨v43, h⟩ := h
                refine x_iast (a := m38) hC k87 (by rw [r53.2]; exact v43) dX7_open_126 ?_
                refine xJ.nmH (fun σ54 e49 => ?_)
                have h := h σ54 e49
                have r54 : hR σ54 = hR σ41 ∧ hL σ54 = hL σ41 := by rw [e49]; exact ⟨r53.1, r53.2⟩
                refine x_aload_n hC 2 rfl dX7_open_127 ?_
                have k88 : hK σ54 this = 8 := by rw [e49]; exact k86
                refine x_getR (n0 := this) hC (ci := 7) (T := TX7) (N := 36) (C := RX7) 7 k88 rfl rfl (by decide) rfl q696 dX7_open_128 ?_
                rw [r54.1]
                refine x_iload hC 0 rfl dX7_open_131 ?_
                refine x_iload_n hC 4 rfl dX7_open_133 ?_
                obtain ⟨m39, hm39, h⟩ := h
                rw [show rv ρ (hR σ41 this 7) = Value.ref (ρ m39) from by rw [hm39]; rfl]
                obtain ⟨k89, h⟩ := h
                obtain ⟨v44, h⟩ := h
                refine x_iast (a := m39) hC k89 (by rw [r54.2]; exact v44) dX7_open_134 ?_
                refine xJ.nmH (fun σ55 e50 => ?_)
                have h := h σ55 e50
                have r55 : hR σ55 = hR σ41 ∧ hL σ55 = hL σ41 := by rw [e50]; exact ⟨r54.1, r54.2⟩
                refine x_aload_n hC 2 rfl dX7_open_135 ?_
                have k90 : hK σ55 this = 8 := by rw [e50]; exact k88
                refine x_getR (n0 := this) hC (ci := 7) (T := TX7) (N := 36) (C := RX7) 8 k90 rfl rfl (by decide) rfl q697 dX7_open_136 ?_
                rw [r55.1]
                refine x_iload hC 0 rfl dX7_open_139 ?_
                refine x_iload_n hC 5 rfl dX7_open_141 ?_
                obtain ⟨m40, hm40, h⟩ := h
                rw [show rv ρ (hR σ41 this 8) = Value.ref (ρ m40) from by rw [hm40]; rfl]
                obtain ⟨k91, h⟩ := h
                obtain ⟨v45, h⟩ := h
                refine x_iast (a := m40) hC k91 (by rw [r55.2]; exact v45) dX7_open_142 ?_
                refine xJ.nmH (fun σ56 e51 => ?_)
                have h := h σ56 e51
                have r56 : hR σ56 = hR σ41 ∧ hL σ56 = hL σ41 := by rw [e51]; exact ⟨r55.1, r55.2⟩
                refine x_aload_n hC 2 rfl dX7_open_143 ?_
                have k92 : hK σ56 this = 8 := by rw [e51]; exact k90
                refine x_getR (n0 := this) hC (ci := 7) (T := TX7) (N := 36) (C := RX7) 9 k92 rfl rfl (by decide) rfl q698 dX7_open_144 ?_
                rw [r56.1]
                refine x_iload hC 0 rfl dX7_open_147 ?_
                refine x_iload hC 6 rfl dX7_open_149 ?_
                obtain ⟨m41, hm41, h⟩ := h
                rw [show rv ρ (hR σ41 this 9) = Value.ref (ρ m41) from by rw [hm41]; rfl]
                obtain ⟨k93, h⟩ := h
                obtain ⟨v46, h⟩ := h
                refine x_iast (a := m41) hC k93 (by rw [r56.2]; exact v46) dX7_open_151 ?_
                refine xJ.nmH (fun σ57 e52 => ?_)
                have h := h σ57 e52
                have r57 : hR σ57 = hR σ41 ∧ hL σ57 = hL σ41 := by rw [e52]; exact ⟨r56.1, r56.2⟩
                refine x_aload_n hC 2 rfl dX7_open_152 ?_
                have k94 : hK σ57 this = 8 := by rw [e52]; exact k92
                refine x_getR (n0 := this) hC (ci := 7) (T := TX7) (N := 36) (C := RX7) 10 k94 rfl rfl (by decide) rfl q699 dX7_open_153 ?_
                rw [r57.1]
                refine x_iload hC 0 rfl dX7_open_156 ?_
                refine x_iload hC 7 rfl dX7_open_158 ?_
                obtain ⟨m42, hm42, h⟩ := h
                rw [show rv ρ (hR σ41 this 10) = Value.ref (ρ m42) from by rw [hm42]; rfl]
                obtain ⟨k95, h⟩ := h
                obtain ⟨v47, h⟩ := h
                refine x_iast (a := m42) hC k95 (by rw [r57.2]; exact v47) dX7_open_160 ?_
                refine xJ.nmH (fun σ58 e53 => ?_)
                have h := h σ58 e53
                have r58 : hR σ58 = hR σ41 ∧ hL σ58 = hL σ41 := by rw [e53]; exact ⟨r57.1, r57.2⟩
                refine x_aload_n hC 2 rfl dX7_open_161 ?_
                refine x_dup hC (by first | rfl | exact rv_cat) dX7_open_162 ?_
                have k96 : hK σ58 this = 8 := by rw [e53]; exact k94
                refine x_getI (n0 := this) hC (ci := 7) (T := TX7) (N := 36) (C := RX7) 3 k96 rfl rfl (by decide) rfl q692 dX7_open_163 ?_
                refine x_iconst (v := 1) hC dX7_open_166 (by decide) ?_
                refine x_iadd hC dX7_open_167 ?_
                refine x_putI (n0 := this) hC (ci := 7) (T := TX7) (N := 36) (C := RX7) 3 k96 rfl rfl (by decide) rfl q692 rfl (tyX7_ok 3 (by decide)) dX7_open_168 ?_
                refine xJ.nmH (fun σ59 e54 => ?_)
                have h := h σ59 e54
                have r59 : hR σ59 = hR σ41 ∧ hL σ59 = hL σ41 := by rw [e54]; exact ⟨r58.1, r58.2⟩
                refine x_iload hC 0 rfl dX7_open_171 ?_
                exact x_iret hC hr dX7_open_173 (by decide) (by decide) ⟨rfl, _, rfl, h⟩
              · have h := h.2 c18
                refine x_iconst (v := 0) hC dX7_open_92 (by decide) ?_
                exact x_iret hC hr dX7_open_93 (by decide) (by decide) ⟨rfl, _, rfl, h⟩
            · have h := h.2 c17
              refine x_iconst (v := 2) hC dX7_open_77 (by decide) ?_
              refine x_goto (tgt := 82) hC dX7_open_78 (by decide) ?_
              refine x_putI (n0 := this) hC (ci := 7) (T := TX7) (N := 36) (C := RX7) 0 k81 rfl rfl (by decide) rfl q689 rfl (tyX7_ok 0 (by decide)) dX7_open_82 ?_
              refine xJ.nmH (fun σ60 e55 => ?_)
              have h := h σ60 e55
              have r60 : hR σ60 = hR σ41 ∧ hL σ60 = hL σ41 := by rw [e55]; exact ⟨rfl, rfl⟩
              refine x_aload_n hC 1 rfl dX7_open_85 ?_
              have k97 : hK σ60 this = 8 := by rw [e55]; exact k81
              refine x_getI (n0 := this) hC (ci := 7) (T := TX7) (N := 36) (C := RX7) 0 k97 rfl rfl (by decide) rfl q689 dX7_open_86 ?_
              refine x_if_le (tgt := 94) hC dX7_open_89 (by decide) (fun c19 => ?_) (fun c19 => ?_)
              · have h := h.1 c19
                refine x_aload_n hC 1 rfl dX7_open_94 ?_
                refine x_getI (n0 := this) hC (ci := 7) (T := TX7) (N := 36) (C := RX7) 3 k97 rfl rfl (by decide) rfl q692 dX7_open_95 ?_
                refine x_istore (L' := [(7, .int (hI σ60 this 3)), (6, .int 1), (0, .ref (ρ this)), (1, .int p1), (2, .int p2), (3, .int p3), (4, .int p4), (5, .int p5)]) hC dX7_open_98 (by decide) (by first | rfl | simp (decide := true) [rv_cat, cat_ref, cat_int]) ?_
                refine x_aload_n hC 2 rfl dX7_open_100 ?_
                refine x_getR (n0 := this) hC (ci := 7) (T := TX7) (N := 36) (C := RX7) 4 k97 rfl rfl (by decide) rfl q693 dX7_open_101 ?_
                rw [r60.1]
                refine x_iload hC 0 rfl dX7_open_104 ?_
                refine x_iconst (v := 1) hC dX7_open_106 (by decide) ?_
                obtain ⟨m43, hm43, h⟩ := h
                rw [show rv ρ (hR σ41 this 4) = Value.ref (ρ m43) from by rw [hm43]; rfl]
                obtain ⟨k98, h⟩ := h
                obtain ⟨v48, h⟩ := h
                refine x_zast (a := m43) hC zb1 k98 (by rw [r60.2]; exact v48) dX7_open_107 ?_
                refine xJ.nmH (fun σ61 e56 => ?_)
                have h := h σ61 e56
                have r61 : hR σ61 = hR σ41 ∧ hL σ61 = hL σ41 := by rw [e56]; exact ⟨r60.1, r60.2⟩
                refine x_aload_n hC 2 rfl dX7_open_108 ?_
                have k99 : hK σ61 this = 8 := by rw [e56]; exact k97
                refine x_getR (n0 := this) hC (ci := 7) (T := TX7) (N := 36) (C := RX7) 5 k99 rfl rfl (by decide) rfl q694 dX7_open_109 ?_
                rw [r61.1]
                refine x_iload hC 0 rfl dX7_open_112 ?_
                refine x_aload_n hC 2 rfl dX7_open_114 ?_
                refine x_getI (n0 := this) hC (ci := 7) (T := TX7) (N := 36) (C := RX7) 1 k99 rfl rfl (by decide) rfl q690 dX7_open_115 ?_
                obtain ⟨m44, hm44, h⟩ := h
                rw [show rv ρ (hR σ41 this 5) = Value.ref (ρ m44) from by rw [hm44]; rfl]
                obtain ⟨k100, h⟩ := h
                obtain ⟨v49, h⟩ := h
                refine x_iast (a := m44) hC k100 (by rw [r61.2]; exact v49) dX7_open_118 ?_
                refine xJ.nmH (fun σ62 e57 => ?_)
                have h := h σ62 e57
                have r62 : hR σ62 = hR σ41 ∧ hL σ62 = hL σ41 := by rw [e57]; exact ⟨r61.1, r61.2⟩
                refine x_aload_n hC 2 rfl dX7_open_119 ?_
                have k101 : hK σ62 this = 8 := by rw [e57]; exact k99
                refine x_getR (n0 := this) hC (ci := 7) (T := TX7) (N := 36) (C := RX7) 6 k101 rfl rfl (by decide) rfl q695 dX7_open_120 ?_
                rw [r62.1]
                refine x_iload hC 0 rfl dX7_open_123 ?_
                refine x_iload_n hC 3 rfl dX7_open_125 ?_
                obtain ⟨m45, hm45, h⟩ := h
                rw [show rv ρ (hR σ41 this 6) = Value.ref (ρ m45) from by rw [hm45]; rfl]
                obtain ⟨k102, h⟩ := h
                obtain ⟨v50, h⟩ := h
                refine x_iast (a := m45) hC k102 (by rw [r62.2]; exact v50) dX7_open_126 ?_
                refine xJ.nmH (fun σ63 e58 => ?_)
                have h := h σ63 e58
                have r63 : hR σ63 = hR σ41 ∧ hL σ63 = hL σ41 := by rw [e58]; exact ⟨r62.1, r62.2⟩
                refine x_aload_n hC 2 rfl dX7_open_127 ?_
                have k103 : hK σ63 this = 8 := by rw [e58]; exact k101
                refine x_getR (n0 := this) hC (ci := 7) (T := TX7) (N := 36) (C := RX7) 7 k103 rfl rfl (by decide) rfl q696 dX7_open_128 ?_
                rw [r63.1]
                refine x_iload hC 0 rfl dX7_open_131 ?_
                refine x_iload_n hC 4 rfl dX7_open_133 ?_
                obtain ⟨m46, hm46, h⟩ := h
                rw [show rv ρ (hR σ41 this 7) = Value.ref (ρ m46) from by rw [hm46]; rfl]
                obtain ⟨k104, h⟩ := h
                obtain ⟨v51, h⟩ := h
                refine x_iast (a := m46) hC k104 (by rw [r63.2]; exact v51) dX7_open_134 ?_
                refine xJ.nmH (fun σ64 e59 => ?_)
                have h := h σ64 e59
                have r64 : hR σ64 = hR σ41 ∧ hL σ64 = hL σ41 := by rw [e59]; exact ⟨r63.1, r63.2⟩
                refine x_aload_n hC 2 rfl dX7_open_135 ?_
                have k105 : hK σ64 this = 8 := by rw [e59]; exact k103
                refine x_getR (n0 := this) hC (ci := 7) (T := TX7) (N := 36) (C := RX7) 8 k105 rfl rfl (by decide) rfl q697 dX7_open_136 ?_
                rw [r64.1]
                refine x_iload hC 0 rfl dX7_open_139 ?_
                refine x_iload_n hC 5 rfl dX7_open_141 ?_
                obtain ⟨m47, hm47, h⟩ := h
                rw [show rv ρ (hR σ41 this 8) = Value.ref (ρ m47) from by rw [hm47]; rfl]
                obtain ⟨k106, h⟩ := h
                obtain ⟨v52, h⟩ := h
                refine x_iast (a := m47) hC k106 (by rw [r64.2]; exact v52) dX7_open_142 ?_
                refine xJ.nmH (fun σ65 e60 => ?_)
                have h := h σ65 e60
                have r65 : hR σ65 = hR σ41 ∧ hL σ65 = hL σ41 := by rw [e60]; exact ⟨r64.1, r64.2⟩
                refine x_aload_n hC 2 rfl dX7_open_143 ?_
                have k107 : hK σ65 this = 8 := by rw [e60]; exact k105
                refine x_getR (n0 := this) hC (ci := 7) (T := TX7) (N := 36) (C := RX7) 9 k107 rfl rfl (by decide) rfl q698 dX7_open_144 ?_
                rw [r65.1]
                refine x_iload hC 0 rfl dX7_open_147 ?_
                refine x_iload hC 6 rfl dX7_open_149 ?_
                obtain ⟨m48, hm48, h⟩ := h
                rw [show rv ρ (hR σ41 this 9) = Value.ref (ρ m48) from by rw [hm48]; rfl]
                obtain ⟨k108, h⟩ := h
                obtain ⟨v53, h⟩ := h
                refine x_iast (a := m48) hC k108 (by rw [r65.2]; exact v53) dX7_open_151 ?_
                refine xJ.nmH (fun σ66 e61 => ?_)
                have h := h σ66 e61
                have r66 : hR σ66 = hR σ41 ∧ hL σ66 = hL σ41 := by rw [e61]; exact ⟨r65.1, r65.2⟩
                refine x_aload_n hC 2 rfl dX7_open_152 ?_
                have k109 : hK σ66 this = 8 := by rw [e61]; exact k107
                refine x_getR (n0 := this) hC (ci := 7) (T := TX7) (N := 36) (C := RX7) 10 k109 rfl rfl (by decide) rfl q699 dX7_open_153 ?_
                rw [r66.1]
                refine x_iload hC 0 rfl dX7_open_156 ?_
                refine x_iload hC 7 rfl dX7_open_158 ?_
                obtain ⟨m49, hm49, h⟩ := h
                rw [show rv ρ (hR σ41 this 10) = Value.ref (ρ m49) from by rw [hm49]; rfl]
                obtain ⟨k110, h⟩ := h
                obtain ⟨v54, h⟩ := h
                refine x_iast (a := m49) hC k110 (by rw [r66.2]; exact v54) dX7_open_160 ?_
                refine xJ.nmH (fun σ67 e62 => ?_)
                have h := h σ67 e62
                have r67 : hR σ67 = hR σ41 ∧ hL σ67 = hL σ41 := by rw [e62]; exact ⟨r66.1, r66.2⟩
                refine x_aload_n hC 2 rfl dX7_open_161 ?_
                refine x_dup hC (by first | rfl | exact rv_cat) dX7_open_162 ?_
                have k111 : hK σ67 this = 8 := by rw [e62]; exact k109
                refine x_getI (n0 := this) hC (ci := 7) (T := TX7) (N := 36) (C := RX7) 3 k111 rfl rfl (by decide) rfl q692 dX7_open_163 ?_
                refine x_iconst (v := 1) hC dX7_open_166 (by decide) ?_
                refine x_iadd hC dX7_open_167 ?_
                refine x_putI (n0 := this) hC (ci := 7) (T := TX7) (N := 36) (C := RX7) 3 k111 rfl rfl (by decide) rfl q692 rfl (tyX7_ok 3 (by decide)) dX7_open_168 ?_
                refine xJ.nmH (fun σ68 e63 => ?_)
                have h := h σ68 e63
                have r68 : hR σ68 = hR σ41 ∧ hL σ68 = hL σ41 := by rw [e63]; exact ⟨r67.1, r67.2⟩
                refine x_iload hC 0 rfl dX7_open_171 ?_
                exact x_iret hC hr dX7_open_173 (by decide) (by decide) ⟨rfl, _, rfl, h⟩
              · have h := h.2 c19
                refine x_iconst (v := 0) hC dX7_open_92 (by decide) ?_
                exact x_iret hC hr dX7_open_93 (by decide) (by decide) ⟨rfl, _, rfl, h⟩
