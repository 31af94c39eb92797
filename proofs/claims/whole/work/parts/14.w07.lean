/-! PlantServerModel.add -/
theorem dX7_add_0 : decode cX7_add 0 = .ok (.iload_n 3, 1) := by decide +kernel
theorem dX7_add_1 : decode cX7_add 1 = .ok (.iconst 1, 1) := by decide +kernel
theorem dX7_add_2 : decode cX7_add 2 = .ok (.bipush 20, 2) := by decide +kernel
theorem dX7_add_4 : decode cX7_add 4 = .ok (.invokestatic 108, 3) := by decide +kernel
theorem dX7_add_7 : decode cX7_add 7 = .ok (.ifCond .eq 29, 3) := by decide +kernel
theorem dX7_add_10 : decode cX7_add 10 = .ok (.iload 4, 2) := by decide +kernel
theorem dX7_add_12 : decode cX7_add 12 = .ok (.iconst 1, 1) := by decide +kernel
theorem dX7_add_13 : decode cX7_add 13 = .ok (.iconst 4, 1) := by decide +kernel
theorem dX7_add_14 : decode cX7_add 14 = .ok (.invokestatic 108, 3) := by decide +kernel
theorem dX7_add_17 : decode cX7_add 17 = .ok (.ifCond .eq 19, 3) := by decide +kernel
theorem dX7_add_20 : decode cX7_add 20 = .ok (.iload 6, 2) := by decide +kernel
theorem dX7_add_22 : decode cX7_add 22 = .ok (.iconst 0, 1) := by decide +kernel
theorem dX7_add_23 : decode cX7_add 23 = .ok (.sipush 1000, 3) := by decide +kernel
theorem dX7_add_26 : decode cX7_add 26 = .ok (.invokestatic 108, 3) := by decide +kernel
theorem dX7_add_29 : decode cX7_add 29 = .ok (.ifCond .eq 7, 3) := by decide +kernel
theorem dX7_add_32 : decode cX7_add 32 = .ok (.iconst 1, 1) := by decide +kernel
theorem dX7_add_33 : decode cX7_add 33 = .ok (.goto 4, 3) := by decide +kernel
theorem dX7_add_36 : decode cX7_add 36 = .ok (.iconst 0, 1) := by decide +kernel
theorem dX7_add_37 : decode cX7_add 37 = .ok (.istore 7, 2) := by decide +kernel
theorem dX7_add_39 : decode cX7_add 39 = .ok (.aload_n 0, 1) := by decide +kernel
theorem dX7_add_40 : decode cX7_add 40 = .ok (.aload_n 0, 1) := by decide +kernel
theorem dX7_add_41 : decode cX7_add 41 = .ok (.iload_n 1, 1) := by decide +kernel
theorem dX7_add_42 : decode cX7_add 42 = .ok (.invokevirtual 125, 3) := by decide +kernel
theorem dX7_add_45 : decode cX7_add 45 = .ok (.ifCond .eq 10, 3) := by decide +kernel
theorem dX7_add_48 : decode cX7_add 48 = .ok (.iload_n 2, 1) := by decide +kernel
theorem dX7_add_49 : decode cX7_add 49 = .ok (.invokestatic 118, 3) := by decide +kernel
theorem dX7_add_52 : decode cX7_add 52 = .ok (.ifCond .ne 7, 3) := by decide +kernel
theorem dX7_add_55 : decode cX7_add 55 = .ok (.iconst 1, 1) := by decide +kernel
theorem dX7_add_56 : decode cX7_add 56 = .ok (.goto 26, 3) := by decide +kernel
theorem dX7_add_59 : decode cX7_add 59 = .ok (.iload 7, 2) := by decide +kernel
theorem dX7_add_61 : decode cX7_add 61 = .ok (.ifCond .ne 7, 3) := by decide +kernel
theorem dX7_add_64 : decode cX7_add 64 = .ok (.iconst 2, 1) := by decide +kernel
theorem dX7_add_65 : decode cX7_add 65 = .ok (.goto 17, 3) := by decide +kernel
theorem dX7_add_68 : decode cX7_add 68 = .ok (.aload_n 0, 1) := by decide +kernel
theorem dX7_add_69 : decode cX7_add 69 = .ok (.getfield 115, 3) := by decide +kernel
theorem dX7_add_72 : decode cX7_add 72 = .ok (.bipush 16, 2) := by decide +kernel
theorem dX7_add_74 : decode cX7_add 74 = .ok (.if_icmp .ne 7, 3) := by decide +kernel
theorem dX7_add_77 : decode cX7_add 77 = .ok (.iconst 3, 1) := by decide +kernel
theorem dX7_add_78 : decode cX7_add 78 = .ok (.goto 4, 3) := by decide +kernel
theorem dX7_add_81 : decode cX7_add 81 = .ok (.iconst 0, 1) := by decide +kernel
theorem dX7_add_82 : decode cX7_add 82 = .ok (.putfield 104, 3) := by decide +kernel
theorem dX7_add_85 : decode cX7_add 85 = .ok (.aload_n 0, 1) := by decide +kernel
theorem dX7_add_86 : decode cX7_add 86 = .ok (.getfield 104, 3) := by decide +kernel
theorem dX7_add_89 : decode cX7_add 89 = .ok (.ifCond .le 5, 3) := by decide +kernel
theorem dX7_add_92 : decode cX7_add 92 = .ok (.iconst 0, 1) := by decide +kernel
theorem dX7_add_93 : decode cX7_add 93 = .ok (.ireturn, 1) := by decide +kernel
theorem dX7_add_94 : decode cX7_add 94 = .ok (.aload_n 0, 1) := by decide +kernel
theorem dX7_add_95 : decode cX7_add 95 = .ok (.getfield 115, 3) := by decide +kernel
theorem dX7_add_98 : decode cX7_add 98 = .ok (.istore 8, 2) := by decide +kernel
theorem dX7_add_100 : decode cX7_add 100 = .ok (.aload_n 0, 1) := by decide +kernel
theorem dX7_add_101 : decode cX7_add 101 = .ok (.getfield 47, 3) := by decide +kernel
theorem dX7_add_104 : decode cX7_add 104 = .ok (.iload 8, 2) := by decide +kernel
theorem dX7_add_106 : decode cX7_add 106 = .ok (.iload_n 1, 1) := by decide +kernel
theorem dX7_add_107 : decode cX7_add 107 = .ok (.iastore, 1) := by decide +kernel
theorem dX7_add_108 : decode cX7_add 108 = .ok (.aload_n 0, 1) := by decide +kernel
theorem dX7_add_109 : decode cX7_add 109 = .ok (.getfield 50, 3) := by decide +kernel
theorem dX7_add_112 : decode cX7_add 112 = .ok (.iload 8, 2) := by decide +kernel
theorem dX7_add_114 : decode cX7_add 114 = .ok (.iload_n 2, 1) := by decide +kernel
theorem dX7_add_115 : decode cX7_add 115 = .ok (.iastore, 1) := by decide +kernel
theorem dX7_add_116 : decode cX7_add 116 = .ok (.aload_n 0, 1) := by decide +kernel
theorem dX7_add_117 : decode cX7_add 117 = .ok (.getfield 53, 3) := by decide +kernel
theorem dX7_add_120 : decode cX7_add 120 = .ok (.iload 8, 2) := by decide +kernel
theorem dX7_add_122 : decode cX7_add 122 = .ok (.aload_n 0, 1) := by decide +kernel
theorem dX7_add_123 : decode cX7_add 123 = .ok (.getfield 122, 3) := by decide +kernel
theorem dX7_add_126 : decode cX7_add 126 = .ok (.iastore, 1) := by decide +kernel
theorem dX7_add_127 : decode cX7_add 127 = .ok (.aload_n 0, 1) := by decide +kernel
theorem dX7_add_128 : decode cX7_add 128 = .ok (.getfield 56, 3) := by decide +kernel
theorem dX7_add_131 : decode cX7_add 131 = .ok (.iload 8, 2) := by decide +kernel
theorem dX7_add_133 : decode cX7_add 133 = .ok (.iload_n 3, 1) := by decide +kernel
theorem dX7_add_134 : decode cX7_add 134 = .ok (.iastore, 1) := by decide +kernel
theorem dX7_add_135 : decode cX7_add 135 = .ok (.aload_n 0, 1) := by decide +kernel
theorem dX7_add_136 : decode cX7_add 136 = .ok (.getfield 59, 3) := by decide +kernel
theorem dX7_add_139 : decode cX7_add 139 = .ok (.iload 8, 2) := by decide +kernel
theorem dX7_add_141 : decode cX7_add 141 = .ok (.iload 4, 2) := by decide +kernel
theorem dX7_add_143 : decode cX7_add 143 = .ok (.iastore, 1) := by decide +kernel
theorem dX7_add_144 : decode cX7_add 144 = .ok (.aload_n 0, 1) := by decide +kernel
theorem dX7_add_145 : decode cX7_add 145 = .ok (.getfield 62, 3) := by decide +kernel
theorem dX7_add_148 : decode cX7_add 148 = .ok (.iload 8, 2) := by decide +kernel
theorem dX7_add_150 : decode cX7_add 150 = .ok (.iload 5, 2) := by decide +kernel
theorem dX7_add_152 : decode cX7_add 152 = .ok (.bastore, 1) := by decide +kernel
theorem dX7_add_153 : decode cX7_add 153 = .ok (.aload_n 0, 1) := by decide +kernel
theorem dX7_add_154 : decode cX7_add 154 = .ok (.getfield 65, 3) := by decide +kernel
theorem dX7_add_157 : decode cX7_add 157 = .ok (.iload 8, 2) := by decide +kernel
theorem dX7_add_159 : decode cX7_add 159 = .ok (.iload 6, 2) := by decide +kernel
theorem dX7_add_161 : decode cX7_add 161 = .ok (.iastore, 1) := by decide +kernel
theorem dX7_add_162 : decode cX7_add 162 = .ok (.aload_n 0, 1) := by decide +kernel
theorem dX7_add_163 : decode cX7_add 163 = .ok (.getfield 68, 3) := by decide +kernel
theorem dX7_add_166 : decode cX7_add 166 = .ok (.iload 8, 2) := by decide +kernel
theorem dX7_add_168 : decode cX7_add 168 = .ok (.iconst 1, 1) := by decide +kernel
theorem dX7_add_169 : decode cX7_add 169 = .ok (.bastore, 1) := by decide +kernel
theorem dX7_add_170 : decode cX7_add 170 = .ok (.aload_n 0, 1) := by decide +kernel
theorem dX7_add_171 : decode cX7_add 171 = .ok (.dup, 1) := by decide +kernel
theorem dX7_add_172 : decode cX7_add 172 = .ok (.getfield 115, 3) := by decide +kernel
theorem dX7_add_175 : decode cX7_add 175 = .ok (.iconst 1, 1) := by decide +kernel
theorem dX7_add_176 : decode cX7_add 176 = .ok (.iadd, 1) := by decide +kernel
theorem dX7_add_177 : decode cX7_add 177 = .ok (.putfield 115, 3) := by decide +kernel
theorem dX7_add_180 : decode cX7_add 180 = .ok (.aload_n 0, 1) := by decide +kernel
theorem dX7_add_181 : decode cX7_add 181 = .ok (.iload 8, 2) := by decide +kernel
theorem dX7_add_183 : decode cX7_add 183 = .ok (.invokevirtual 128, 3) := by decide +kernel
theorem dX7_add_186 : decode cX7_add 186 = .ok (.iload 8, 2) := by decide +kernel
theorem dX7_add_188 : decode cX7_add 188 = .ok (.ireturn, 1) := by decide +kernel
abbrev rm7_add : Room := { frames := 3, cells := 0, slots := 0, locals := 68 }
theorem hd7_add : yX7_add.cls ≠ "java/lang/invoke/MethodHandle" ∧ yX7_add.cls ≠ "java/lang/invoke/VarHandle" ∧ (parseMethodDescriptor yX7_add.desc).map (fun d => d.parameters.length) = some 6 := by decide +kernel
set_option maxHeartbeats 4000000 in
set_option maxRecDepth 20000 in
theorem m7_add (l : Launch) (hl : l.stackTraces = false) (G : xG) (ρ : Nm → Nat) (this : Nm) (p1 : Int32) (p2 : Int32) (p3 : Int32) (p4 : Int32) (p5 : Int32) (p6 : Int32) (σ : PH) (Q : Int32 → PH → Prop) (h : w7_add this p1 p2 p3 p4 p5 p6 σ Q) : xMet l yX7_add (.code yX7_add cX7_add 9 (some .int)) rm7_add G ρ σ [.ref (ρ this), .int p1, .int p2, .int p3, .int p4, .int p5, .int p6] (eI ρ Q) xNo := by
  refine xMet.of hl (by decide +kernel) (Nat.le_of_ble_eq_true rfl) (fun X hC hr hn htab h0 => ?_)
  have hC : xC G X "PlantServerModel" cX7_add 9 rm7_add := hC
  unfold w7_add at h
  refine xJ.loc (L' := [(0, .ref (ρ this)), (1, .int p1), (2, .int p2), (3, .int p3), (4, .int p4), (5, .int p5), (6, .int p6)]) rfl ?_
  refine x_iload_n hC 3 rfl dX7_add_0 ?_
  refine x_iconst (v := 1) hC dX7_add_1 (by decide) ?_
  refine x_bipush (v := 20) hC dX7_add_2 (by decide) ?_
  refine x_callS (as := [.int p3, .int 1, .int 20]) (rest := []) hC (fun l hl => m7_in l hl G ρ p3 1 20 σ _ h) q809 q810 q3 q811 hd7_in (by decide) ⟨(by decide), (by decide)⟩ (by first | exact Nat.le_of_ble_eq_true rfl | (simp [rv_cat]; done) | (simp (decide := true) [rv_cat, cat_ref, cat_int]; done)) rfl dX7_add_4 (fun E σ9 hx => False.elim hx) (fun v1 σ1 ρ1 hp1 hag1 => ?_)
  obtain ⟨e9, r1, e8, h⟩ := hp1
  rw [e8, e9]
  refine xJ.nrm (k' := 0) (n' := 0) (pc' := 7) (st' := [.int r1]) rfl rfl rfl rfl ?_
  refine x_if_eq (tgt := 36) hC dX7_add_7 (by decide) (fun c1 => ?_) (fun c1 => ?_)
  · have h := h.1 c1
    refine x_iconst (v := 0) hC dX7_add_36 (by decide) ?_
    refine x_istore (L' := [(7, .int 0), (0, .ref (ρ this)), (1, .int p1), (2, .int p2), (3, .int p3), (4, .int p4), (5, .int p5), (6, .int p6)]) hC dX7_add_37 (by decide) (by first | rfl | simp (decide := true) [rv_cat, cat_ref, cat_int]) ?_
    refine x_aload_n hC 1 rfl dX7_add_39 ?_
    refine x_aload_n hC 1 rfl dX7_add_40 ?_
    refine x_iload_n hC 2 rfl dX7_add_41 ?_
    obtain ⟨k1, h⟩ := h
    refine x_callV (n0 := this) (as := [.int p1]) (rest := [.ref (ρ this)]) hC (ci := 7) (r := (RX7, TX7, 36)) k1 rfl (fun l hl => m7_isSubscription l hl G ρ this p1 σ1 _ h) q820 q822 s14 q3 q823 ⟨rfl, hd7_isSubscription⟩ (by decide) ⟨(by decide), (by decide)⟩ (by first | exact Nat.le_of_ble_eq_true rfl | (simp [rv_cat]; done) | (simp (decide := true) [rv_cat, cat_ref, cat_int]; done)) rfl dX7_add_42 (fun E σ9 hx => False.elim hx) (fun v2 σ2 ρ2 hp2 hag2 => ?_)
    obtain ⟨e9, r2, e8, h⟩ := hp2
    rw [e8, e9]
    refine xJ.nrm (k' := 0) (n' := 0) (pc' := 45) (st' := [.int r2, .ref (ρ this)]) rfl rfl rfl rfl ?_
    refine x_if_eq (tgt := 55) hC dX7_add_45 (by decide) (fun c2 => ?_) (fun c2 => ?_)
    · have h := h.1 c2
      refine x_iconst (v := 1) hC dX7_add_55 (by decide) ?_
      refine x_goto (tgt := 82) hC dX7_add_56 (by decide) ?_
      have k2 : hK σ2 this = 8 := (hag2 this (by rw [k1]; decide)).1.trans k1
      refine x_putI (n0 := this) hC (ci := 7) (T := TX7) (N := 36) (C := RX7) 0 k2 rfl rfl (by decide) rfl q689 rfl (tyX7_ok 0 (by decide)) dX7_add_82 ?_
      refine xJ.nmH (fun σ3 e1 => ?_)
      have h := h σ3 e1
      have r3 : hR σ3 = hR σ2 ∧ hL σ3 = hL σ2 := by rw [e1]; exact ⟨rfl, rfl⟩
      refine x_aload_n hC 1 rfl dX7_add_85 ?_
      have k3 : hK σ3 this = 8 := by rw [e1]; exact k2
      refine x_getI (n0 := this) hC (ci := 7) (T := TX7) (N := 36) (C := RX7) 0 k3 rfl rfl (by decide) rfl q689 dX7_add_86 ?_
      refine x_if_le (tgt := 94) hC dX7_add_89 (by decide) (fun c3 => ?_) (fun c3 => ?_)
      · have h := h.1 c3
        refine x_aload_n hC 1 rfl dX7_add_94 ?_
        refine x_getI (n0 := this) hC (ci := 7) (T := TX7) (N := 36) (C := RX7) 15 k3 rfl rfl (by decide) rfl q704 dX7_add_95 ?_
        refine x_istore (L' := [(8, .int (hI σ3 this 15)), (7, .int 0), (0, .ref (ρ this)), (1, .int p1), (2, .int p2), (3, .int p3), (4, .int p4), (5, .int p5), (6, .int p6)]) hC dX7_add_98 (by decide) (by first | rfl | simp (decide := true) [rv_cat, cat_ref, cat_int]) ?_
        refine x_aload_n hC 2 rfl dX7_add_100 ?_
        refine x_getR (n0 := this) hC (ci := 7) (T := TX7) (N := 36) (C := RX7) 16 k3 rfl rfl (by decide) rfl q705 dX7_add_101 ?_
        rw [r3.1]
        refine x_iload hC 0 rfl dX7_add_104 ?_
        refine x_iload_n hC 3 rfl dX7_add_106 ?_
        obtain ⟨m1, hm1, h⟩ := h
        rw [show rv ρ (hR σ2 this 16) = Value.ref (ρ m1) from by rw [hm1]; rfl]
        obtain ⟨k4, h⟩ := h
        obtain ⟨v3, h⟩ := h
        refine x_iast (a := m1) hC k4 (by rw [r3.2]; exact v3) dX7_add_107 ?_
        refine xJ.nmH (fun σ4 e2 => ?_)
        have h := h σ4 e2
        have r4 : hR σ4 = hR σ2 ∧ hL σ4 = hL σ2 := by rw [e2]; exact ⟨r3.1, r3.2⟩
        refine x_aload_n hC 2 rfl dX7_add_108 ?_
        have k5 : hK σ4 this = 8 := by rw [e2]; exact k3
        refine x_getR (n0 := this) hC (ci := 7) (T := TX7) (N := 36) (C := RX7) 17 k5 rfl rfl (by decide) rfl q706 dX7_add_109 ?_
        rw [r4.1]
        refine x_iload hC 0 rfl dX7_add_112 ?_
        refine x_iload_n hC 4 rfl dX7_add_114 ?_
        obtain ⟨m2, hm2, h⟩ := h
        rw [show rv ρ (hR σ2 this 17) = Value.ref (ρ m2) from by rw [hm2]; rfl]
        obtain ⟨k6, h⟩ := h
        obtain ⟨v4, h⟩ := h
        refine x_iast (a := m2) hC k6 (by rw [r4.2]; exact v4) dX7_add_115 ?_
        refine xJ.nmH (fun σ5 e3 => ?_)
        have h := h σ5 e3
        have r5 : hR σ5 = hR σ2 ∧ hL σ5 = hL σ2 := by rw [e3]; exact ⟨r4.1, r4.2⟩
        refine x_aload_n hC 2 rfl dX7_add_116 ?_
        have k7 : hK σ5 this = 8 := by rw [e3]; exact k5
        refine x_getR (n0 := this) hC (ci := 7) (T := TX7) (N := 36) (C := RX7) 18 k7 rfl rfl (by decide) rfl q707 dX7_add_117 ?_
        rw [r5.1]
        refine x_iload hC 0 rfl dX7_add_120 ?_
        refine x_aload_n hC 2 rfl dX7_add_122 ?_
        refine x_getI (n0 := this) hC (ci := 7) (T := TX7) (N := 36) (C := RX7) 1 k7 rfl rfl (by decide) rfl q690 dX7_add_123 ?_
        obtain ⟨m3, hm3, h⟩ := h
        rw [show rv ρ (hR σ2 this 18) = Value.ref (ρ m3) from by rw [hm3]; rfl]
        obtain ⟨k8, h⟩ := h
        obtain ⟨v5, h⟩ := h
        refine x_iast (a := m3) hC k8 (by rw [r5.2]; exact v5) dX7_add_126 ?_
        refine xJ.nmH (fun σ6 e4 => ?_)
        have h := h σ6 e4
        have r6 : hR σ6 = hR σ2 ∧ hL σ6 = hL σ2 := by rw [e4]; exact ⟨r5.1, r5.2⟩
        refine x_aload_n hC 2 rfl dX7_add_127 ?_
        have k9 : hK σ6 this = 8 := by rw [e4]; exact k7
        refine x_getR (n0 := this) hC (ci := 7) (T := TX7) (N := 36) (C := RX7) 19 k9 rfl rfl (by decide) rfl q708 dX7_add_128 ?_
        rw [r6.1]
        refine x_iload hC 0 rfl dX7_add_131 ?_
        refine x_iload_n hC 5 rfl dX7_add_133 ?_
        obtain ⟨m4, hm4, h⟩ := h
        rw [show rv ρ (hR σ2 this 19) = Value.ref (ρ m4) from by rw [hm4]; rfl]
        obtain ⟨k10, h⟩ := h
        obtain ⟨v6, h⟩ := h
        refine x_iast (a := m4) hC k10 (by rw [r6.2]; exact v6) dX7_add_134 ?_
        refine xJ.nmH (fun σ7 e5 => ?_)
        have h := h σ7 e5
        have r7 : hR σ7 = hR σ2 ∧ hL σ7 = hL σ2 := by rw [e5]; exact ⟨r6.1, r6.2⟩
        refine x_aload_n hC 2 rfl dX7_add_135 ?_
        have k11 : hK σ7 this = 8 := by rw [e5]; exact k9
        refine x_getR (n0 := this) hC (ci := 7) (T := TX7) (N := 36) (C := RX7) 20 k11 rfl rfl (by decide) rfl q709 dX7_add_136 ?_
        rw [r7.1]
        refine x_iload hC 0 rfl dX7_add_139 ?_
        refine x_iload hC 6 rfl dX7_add_141 ?_
        obtain ⟨m5, hm5, h⟩ := h
        rw [show rv ρ (hR σ2 this 20) = Value.ref (ρ m5) from by rw [hm5]; rfl]
        obtain ⟨k12, h⟩ := h
        obtain ⟨v7, h⟩ := h
        refine x_iast (a := m5) hC k12 (by rw [r7.2]; exact v7) dX7_add_143 ?_
        refine xJ.nmH (fun σ8 e6 => ?_)
        have h := h σ8 e6
        have r8 : hR σ8 = hR σ2 ∧ hL σ8 = hL σ2 := by rw [e6]; exact ⟨r7.1, r7.2⟩
        refine x_aload_n hC 2 rfl dX7_add_144 ?_
        have k13 : hK σ8 this = 8 := by rw [e6]; exact k11
        refine x_getR (n0 := this) hC (ci := 7) (T := TX7) (N := 36) (C := RX7) 21 k13 rfl rfl (by decide) rfl q710 dX7_add_145 ?_
        rw [r8.1]
        refine x_iload hC 0 rfl dX7_add_148 ?_
        refine x_iload hC 7 rfl dX7_add_150 ?_
        obtain ⟨m6, hm6, h⟩ := h
        rw [show rv ρ (hR σ2 this 21) = Value.ref (ρ m6) from by rw [hm6]; rfl]
        obtain ⟨k14, h⟩ := h
        obtain ⟨v8, h⟩ := h
        obtain ⟨zh1, h⟩ := h
        refine x_zast (a := m6) hC zh1 k14 (by rw [r8.2]; exact v8) dX7_add_152 ?_
        refine xJ.nmH (fun σ9 e7 => ?_)
        have h := h σ9 e7
        have r9 : hR σ9 = hR σ2 ∧ hL σ9 = hL σ2 := by rw [e7]; exact ⟨r8.1, r8.2⟩
        refine x_aload_n hC 2 rfl dX7_add_153 ?_
        have k15 : hK σ9 this = 8 := by rw [e7]; exact k13
        refine x_getR (n0 := this) hC (ci := 7) (T := TX7) (N := 36) (C := RX7) 22 k15 rfl rfl (by decide) rfl q711 dX7_add_154 ?_
        rw [r9.1]
        refine x_iload hC 0 rfl dX7_add_157 ?_
        refine x_iload hC 8 rfl dX7_add_159 ?_
        obtain ⟨m7, hm7, h⟩ := h
        rw [show rv ρ (hR σ2 this 22) = Value.ref (ρ m7) from by rw [hm7]; rfl]
        obtain ⟨k16, h⟩ := h
        obtain ⟨v9, h⟩ := h
        refine x_iast (a := m7) hC k16 (by rw [r9.2]; exact v9) dX7_add_161 ?_
        refine xJ.nmH (fun σ10 e8 => ?_)
        have h := h σ10 e8
        have r10 : hR σ10 = hR σ2 ∧ hL σ10 = hL σ2 := by rw [e8]; exact ⟨r9.1, r9.2⟩
        refine x_aload_n hC 2 rfl dX7_add_162 ?_
        have k17 : hK σ10 this = 8 := by rw [e8]; exact k15
        refine x_getR (n0 := this) hC (ci := 7) (T := TX7) (N := 36) (C := RX7) 23 k17 rfl rfl (by decide) rfl q712 dX7_add_163 ?_
        rw [r10.1]
        refine x_iload hC 0 rfl dX7_add_166 ?_
        refine x_iconst (v := 1) hC dX7_add_168 (by decide) ?_
        obtain ⟨m8, hm8, h⟩ := h
        rw [show rv ρ (hR σ2 this 23) = Value.ref (ρ m8) from by rw [hm8]; rfl]
        obtain ⟨k18, h⟩ := h
        obtain ⟨v10, h⟩ := h
        refine x_zast (a := m8) hC zb1 k18 (by rw [r10.2]; exact v10) dX7_add_169 ?_
        refine xJ.nmH (fun σ11 e9 => ?_)
        have h := h σ11 e9
        have r11 : hR σ11 = hR σ2 ∧ hL σ11 = hL σ2 := by rw [e9]; exact ⟨r10.1, r10.2⟩
        refine x_aload_n hC 2 rfl dX7_add_170 ?_
        refine x_dup hC (by first | rfl | exact rv_cat) dX7_add_171 ?_
        have k19 : hK σ11 this = 8 := by rw [e9]; exact k17
        refine x_getI (n0 := this) hC (ci := 7) (T := TX7) (N := 36) (C := RX7) 15 k19 rfl rfl (by decide) rfl q704 dX7_add_172 ?_
        refine x_iconst (v := 1) hC dX7_add_175 (by decide) ?_
        refine x_iadd hC dX7_add_176 ?_
        refine x_putI (n0 := this) hC (ci := 7) (T := TX7) (N := 36) (C := RX7) 15 k19 rfl rfl (by decide) rfl q704 rfl (tyX7_ok 15 (by decide)) dX7_add_177 ?_
        refine xJ.nmH (fun σ12 e10 => ?_)
        have h := h σ12 e10
        have r12 : hR σ12 = hR σ2 ∧ hL σ12 = hL σ2 := by rw [e10]; exact ⟨r11.1, r11.2⟩
        refine x_aload_n hC 2 rfl dX7_add_180 ?_
        refine x_iload hC 0 rfl dX7_add_181 ?_
        have k20 : hK σ12 this = 8 := by rw [e10]; exact k19
        refine x_callV (n0 := this) (as := [.int (hI σ3 this 15)]) (rest := []) hC (ci := 7) (r := (RX7, TX7, 36)) k20 rfl (fun l hl => m7_samples l hl G ρ this (hI σ3 this 15) σ12 _ h) q828 q830 s15 q3 q831 ⟨rfl, hd7_samples⟩ (by decide) ⟨(by decide), (by decide)⟩ (by first | exact Nat.le_of_ble_eq_true rfl | (simp [rv_cat]; done) | (simp (decide := true) [rv_cat, cat_ref, cat_int]; done)) rfl dX7_add_183 (fun E σ9 hx => False.elim hx) (fun v11 σ13 ρ3 hp3 hag3 => ?_)
        obtain ⟨e9, e8, h⟩ := hp3
        rw [e8, e9]
        refine xJ.nrm (k' := 0) (n' := 0) (pc' := 186) (st' := []) rfl rfl rfl rfl ?_
        refine x_iload hC 0 rfl dX7_add_186 ?_
        exact x_iret hC hr dX7_add_188 (by decide) (by decide) ⟨rfl, _, rfl, h⟩
      · have h := h.2 c3
        refine x_iconst (v := 0) hC dX7_add_92 (by decide) ?_
        exact x_iret hC hr dX7_add_93 (by decide) (by decide) ⟨rfl, _, rfl, h⟩
    · have h := h.2 c2
      refine x_iload_n hC 3 rfl dX7_add_48 ?_
      refine x_callS (as := [.int p2]) (rest := [.ref (ρ this)]) hC (fun l hl => m7_isNode l hl G ρ p2 σ2 _ h) q806 q807 q3 q808 hd7_isNode (by decide) ⟨(by decide), (by decide)⟩ (by first | exact Nat.le_of_ble_eq_true rfl | (simp [rv_cat]; done) | (simp (decide := true) [rv_cat, cat_ref, cat_int]; done)) rfl dX7_add_49 (fun E σ9 hx => False.elim hx) (fun v12 σ14 ρ4 hp4 hag4 => ?_)
      obtain ⟨e9, r13, e8, h⟩ := hp4
      rw [e8, e9]
      refine xJ.nrm (k' := 0) (n' := 0) (pc' := 52) (st' := [.int r13, .ref (ρ this)]) rfl rfl rfl rfl ?_
      refine x_if_ne (tgt := 59) hC dX7_add_52 (by decide) (fun c4 => ?_) (fun c4 => ?_)
      · have h := h.1 c4
        refine x_iload hC 0 rfl dX7_add_59 ?_
        refine x_if_ne (tgt := 68) hC dX7_add_61 (by decide) (fun c5 => absurd c5 (by decide)) (fun _ => ?_)
        refine x_iconst (v := 2) hC dX7_add_64 (by decide) ?_
        refine x_goto (tgt := 82) hC dX7_add_65 (by decide) ?_
        have k21 : hK σ2 this = 8 := (hag2 this (by rw [k1]; decide)).1.trans k1
        have k22 : hK σ14 this = 8 := (hag4 this (by rw [k21]; decide)).1.trans k21
        refine x_putI (n0 := this) hC (ci := 7) (T := TX7) (N := 36) (C := RX7) 0 k22 rfl rfl (by decide) rfl q689 rfl (tyX7_ok 0 (by decide)) dX7_add_82 ?_
        refine xJ.nmH (fun σ15 e11 => ?_)
        have h := h σ15 e11
        have r14 : hR σ15 = hR σ14 ∧ hL σ15 = hL σ14 := by rw [e11]; exact ⟨rfl, rfl⟩
        refine x_aload_n hC 1 rfl dX7_add_85 ?_
        have k23 : hK σ15 this = 8 := by rw [e11]; exact k22
        refine x_getI (n0 := this) hC (ci := 7) (T := TX7) (N := 36) (C := RX7) 0 k23 rfl rfl (by decide) rfl q689 dX7_add_86 ?_
        refine x_if_le (tgt := 94) hC dX7_add_89 (by decide) (fun c6 => ?_) (fun c6 => ?_)
        · have h := h.1 c6
          refine x_aload_n hC 1 rfl dX7_add_94 ?_
          refine x_getI (n0 := this) hC (ci := 7) (T := TX7) (N := 36) (C := RX7) 15 k23 rfl rfl (by decide) rfl q704 dX7_add_95 ?_
          refine x_istore (L' := [(8, .int (hI σ15 this 15)), (7, .int 0), (0, .ref (ρ this)), (1, .int p1), (2, .int p2), (3, .int p3), (4, .int p4), (5, .int p5), (6, .int p6)]) hC dX7_add_98 (by decide) (by first | rfl | simp (decide := true) [rv_cat, cat_ref, cat_int]) ?_
          refine x_aload_n hC 2 rfl dX7_add_100 ?_
          refine x_getR (n0 := this) hC (ci := 7) (T := TX7) (N := 36) (C := RX7) 16 k23 rfl rfl (by decide) rfl q705 dX7_add_101 ?_
          rw [r14.1]
          refine x_iload hC 0 rfl dX7_add_104 ?_
          refine x_iload_n hC 3 rfl dX7_add_106 ?_
          obtain ⟨m9, hm9, h⟩ := h
          rw [show rv ρ (hR σ14 this 16) = Value.ref (ρ m9) from by rw [hm9]; rfl]
          obtain ⟨k24, h⟩ := h
          obtain ⟨v13, h⟩ := h
          refine x_iast (a := m9) hC k24 (by rw [r14.2]; exact v13) dX7_add_107 ?_
          refine xJ.nmH (fun σ16 e12 => ?_)
          have h := h σ16 e12
          have r15 : hR σ16 = hR σ14 ∧ hL σ16 = hL σ14 := by rw [e12]; exact ⟨r14.1, r14.2⟩
          refine x_aload_n hC 2 rfl dX7_add_108 ?_
          have k25 : hK σ16 this = 8 := by rw [e12]; exact k23
          refine x_getR (n0 := this) hC (ci := 7) (T := TX7) (N := 36) (C := RX7) 17 k25 rfl rfl (by decide) rfl q706 dX7_add_109 ?_
          rw [r15.1]
          refine x_iload hC 0 rfl dX7_add_112 ?_
          refine x_iload_n hC 4 rfl dX7_add_114 ?_
          obtain ⟨m10, hm10, h⟩ := h
          rw [show rv ρ (hR σ14 this 17) = Value.ref (ρ m10) from by rw [hm10]; rfl]
          obtain ⟨k26, h⟩ := h
          obtain ⟨v14, h⟩ := h
          refine x_iast (a := m10) hC k26 (by rw [r15.2]; exact v14) dX7_add_115 ?_
          refine xJ.nmH (fun σ17 e13 => ?_)
          have h := h σ17 e13
          have r16 : hR σ17 = hR σ14 ∧ hL σ17 = hL σ14 := by rw [e13]; exact ⟨r15.1, r15.2⟩
          refine x_aload_n hC 2 rfl dX7_add_116 ?_
          have k27 : hK σ17 this = 8 := by rw [e13]; exact k25
          refine x_getR (n0 := this) hC (ci := 7) (T := TX7) (N := 36) (C := RX7) 18 k27 rfl rfl (by decide) rfl q707 dX7_add_117 ?_
          rw [r16.1]
          refine x_iload hC 0 rfl dX7_add_120 ?_
          refine x_aload_n hC 2 rfl dX7_add_122 ?_
          refine x_getI (n0 := this) hC (ci := 7) (T := TX7) (N := 36) (C := RX7) 1 k27 rfl rfl (by decide) rfl q690 dX7_add_123 ?_
          obtain ⟨m11, hm11, h⟩ := h
          rw [show rv ρ (hR σ14 this 18) = Value.ref (ρ m11) from by rw [hm11]; rfl]
          obtain ⟨k28, h⟩ := h
          obtain ⟨v15, h⟩ := h
          refine x_iast (a := m11) hC k28 (by rw [r16.2]; exact v15) dX7_add_126 ?_
          refine xJ.nmH (fun σ18 e14 => ?_)
          have h := h σ18 e14
          have r17 : hR σ18 = hR σ14 ∧ hL σ18 = hL σ14 := by rw [e14]; exact ⟨r16.1, r16.2⟩
          refine x_aload_n hC 2 rfl dX7_add_127 ?_
          have k29 : hK σ18 this = 8 := by rw [e14]; exact k27
          refine x_getR (n0 := this) hC (ci := 7) (T := TX7) (N := 36) (C := RX7) 19 k29 rfl rfl (by decide) rfl q708 dX7_add_128 ?_
          rw [r17.1]
          refine x_iload hC 0 rfl dX7_add_131 ?_
          refine x_iload_n hC 5 rfl dX7_add_133 ?_
          obtain ⟨m12, hm12, h⟩ := h
          rw [show rv ρ (hR σ14 this 19) = Value.ref (ρ m12) from by rw [hm12]; rfl]
          obtain ⟨k30, h⟩ := h
          obtain ⟨v16, h⟩ := h
          refine x_iast (a := m12) hC k30 (by rw [r17.2]; exact v16) dX7_add_134 ?_
          refine xJ.nmH (fun σ19 e15 => ?_)
          have h := h σ19 e15
          have r18 : hR σ19 = hR σ14 ∧ hL σ19 = hL σ14 := by rw [e15]; exact ⟨r17.1, r17.2⟩
          refine x_aload_n hC 2 rfl dX7_add_135 ?_
          have k31 : hK σ19 this = 8 := by rw [e15]; exact k29
          refine x_getR (n0 := this) hC (ci := 7) (T := TX7) (N := 36) (C := RX7) 20 k31 rfl rfl (by decide) rfl q709 dX7_add_136 ?_
          rw [r18.1]
          refine x_iload hC 0 rfl dX7_add_139 ?_
          refine x_iload hC 6 rfl dX7_add_141 ?_
          obtain ⟨m13, hm13, h⟩ := h
          rw [show rv ρ (hR σ14 this 20) = Value.ref (ρ m13) from by rw [hm13]; rfl]
          obtain ⟨k32, h⟩ := h
          obtain ⟨v17, h⟩ := h
          refine x_iast (a := m13) hC k32 (by rw [r18.2]; exact v17) dX7_add_143 ?_
          refine xJ.nmH (fun σ20 e16 => ?_)
          have h := h σ20 e16
          have r19 : hR σ20 = hR σ14 ∧ hL σ20 = hL σ14 := by rw [e16]; exact ⟨r18.1, r18.2⟩
          refine x_aload_n hC 2 rfl dX7_add_144 ?_
          have k33 : hK σ20 this = 8 := by rw [e16]; exact k31
          refine x_getR (n0 := this) hC (ci := 7) (T := TX7) (N := 36) (C := RX7) 21 k33 rfl rfl (by decide) rfl q710 dX7_add_145 ?_
          rw [r19.1]
          refine x_iload hC 0 rfl dX7_add_148 ?_
          refine x_iload hC 7 rfl dX7_add_150 ?_
          obtain ⟨m14, hm14, h⟩ := h
          rw [show rv ρ (hR σ14 this 21) = Value.ref (ρ m14) from by rw [hm14]; rfl]
          obtain ⟨k34, h⟩ := h
          obtain ⟨v18, h⟩ := h
          obtain ⟨zh2, h⟩ := h
          refine x_zast (a := m14) hC zh2 k34 (by rw [r19.2]; exact v18) dX7_add_152 ?_
          refine xJ.nmH (fun σ21 e17 => ?_)
          have h := h σ21 e17
          have r20 : hR σ21 = hR σ14 ∧ hL σ21 = hL σ14 := by rw [e17]; exact ⟨r19.1, r19.2⟩
          refine x_aload_n hC 2 rfl dX7_add_153 ?_
          have k35 : hK σ21 this = 8 := by rw [e17]; exact k33
          refine x_getR (n0 := this) hC (ci := 7) (T := TX7) (N := 36) (C := RX7) 22 k35 rfl rfl (by decide) rfl q711 dX7_add_154 ?_
          rw [r20.1]
          refine x_iload hC 0 rfl dX7_add_157 ?_
          refine x_iload hC 8 rfl dX7_add_159 ?_
          obtain ⟨m15, hm15, h⟩ := h
          rw [show rv ρ (hR σ14 this 22) = Value.ref (ρ m15) from by rw [hm15]; rfl]
          obtain ⟨k36, h⟩ := h
          obtain ⟨v19, h⟩ := h
          refine x_iast (a := m15) hC k36 (by rw [r20.2]; exact v19) dX7_add_161 ?_
          refine xJ.nmH (fun σ22 e18 => ?_)
          have h := h σ22 e18
          have r21 : hR σ22 = hR σ14 ∧ hL σ22 = hL σ14 := by rw [e18]; exact ⟨r20.1, r20.2⟩
          refine x_aload_n hC 2 rfl dX7_add_162 ?_
          have k37 : hK σ22 this = 8 := by rw [e18]; exact k35
          refine x_getR (n0 := this) hC (ci := 7) (T := TX7) (N := 36) (C := RX7) 23 k37 rfl rfl (by decide) rfl q712 dX7_add_163 ?_
          rw [r21.1]
          refine x_iload hC 0 rfl dX7_add_166 ?_
          refine x_iconst (v := 1) hC dX7_add_168 (by decide) ?_
          obtain ⟨m16, hm16, h⟩ := h
          rw [show rv ρ (hR σ14 this 23) = Value.ref (ρ m16) from by rw [hm16]; rfl]
          obtain ⟨k38, h⟩ := h
          obtain ⟨v20, h⟩ := h
          refine x_zast (a := m16) hC zb1 k38 (by rw [r21.2]; exact v20) dX7_add_169 ?_
          refine xJ.nmH (fun σ23 e19 => ?_)
          have h := h σ23 e19
          have r22 : hR σ23 = hR σ14 ∧ hL σ23 = hL σ14 := by rw [e19]; exact ⟨r21.1, r21.2⟩
          refine x_aload_n hC 2 rfl dX7_add_170 ?_
          refine x_dup hC (by first | rfl | exact rv_cat) dX7_add_171 ?_
          have k39 : hK σ23 this = 8 := by rw [e19]; exact k37
          refine x_getI (n0 := this) hC (ci := 7) (T := TX7) (N := 36) (C := RX7) 15 k39 rfl rfl (by decide) rfl q704 dX7_add_172 ?_
          refine x_iconst (v := 1) hC dX7_add_175 (by decide) ?_
          refine x_iadd hC dX7_add_176 ?_
          refine x_putI (n0 := this) hC (ci := 7) (T := TX7) (N := 36) (C := RX7) 15 k39 rfl rfl (by decide) rfl q704 rfl (tyX7_ok 15 (by decide)) dX7_add_177 ?_
          refine xJ.nmH (fun σ24 e20 => ?_)
          have h := h σ24 e20
          have r23 : hR σ24 = hR σ14 ∧ hL σ24 = hL σ14 := by rw [e20]; exact ⟨r22.1, r22.2⟩
          refine x_aload_n hC 2 rfl dX7_add_180 ?_
          refine x_iload hC 0 rfl dX7_add_181 ?_
          have k40 : hK σ24 this = 8 := by rw [e20]; exact k39
          refine x_callV (n0 := this) (as := [.int (hI σ15 this 15)]) (rest := []) hC (ci := 7) (r := (RX7, TX7, 36)) k40 rfl (fun l hl => m7_samples l hl G ρ this (hI σ15 this 15) σ24 _ h) q828 q830 s15 q3 q831 ⟨rfl, hd7_samples⟩ (by decide) ⟨(by decide), (by decide)⟩ (by first | exact Nat.le_of_ble_eq_true rfl | (simp [rv_cat]; done) | (simp (decide := true) [rv_cat, cat_ref, cat_int]; done)) rfl dX7_add_183 (fun E σ9 hx => False.elim hx) (fun v21 σ25 ρ5 hp5 hag5 => ?_)
          obtain ⟨e9, e8, h⟩ := hp5
          rw [e8, e9]
          refine xJ.nrm (k' := 0) (n' := 0) (pc' := 186) (st' := []) rfl rfl rfl rfl ?_
          refine x_iload hC 0 rfl dX7_add_186 ?_
          exact x_iret hC hr dX7_add_188 (by decide) (by decide) ⟨rfl, _, rfl, h⟩
        · have h := h.2 c6
          refine x_iconst (v := 0) hC dX7_add_92 (by decide) ?_
          exact x_iret hC hr dX7_add_93 (by decide) (by decide) ⟨rfl, _, rfl, h⟩
      · have h := h.2 c4
        refine x_iconst (v := 1) hC dX7_add_55 (by decide) ?_
        refine x_goto (tgt := 82) hC dX7_add_56 (by decide) ?_
        have k41 : hK σ2 this = 8 := (hag2 this (by rw [k1]; decide)).1.trans k1
        have k42 : hK σ14 this = 8 := (hag4 this (by rw [k41]; decide)).1.trans k41
        refine x_putI (n0 := this) hC (ci := 7) (T := TX7) (N := 36) (C := RX7) 0 k42 rfl rfl (by decide) rfl q689 rfl (tyX7_ok 0 (by decide)) dX7_add_82 ?_
        refine xJ.nmH (fun σ26 e21 => ?_)
        have h := h σ26 e21
        have r24 : hR σ26 = hR σ14 ∧ hL σ26 = hL σ14 := by rw [e21]; exact ⟨rfl, rfl⟩
        refine x_aload_n hC 1 rfl dX7_add_85 ?_
        have k43 : hK σ26 this = 8 := by rw [e21]; exact k42
        refine x_getI (n0 := this) hC (ci := 7) (T := TX7) (N := 36) (C := RX7) 0 k43 rfl rfl (by decide) rfl q689 dX7_add_86 ?_
        refine x_if_le (tgt := 94) hC dX7_add_89 (by decide) (fun c7 => ?_) (fun c7 => ?_)
        · have h := h.1 c7
          refine x_aload_n hC 1 rfl dX7_add_94 ?_
          refine x_getI (n0 := this) hC (ci := 7) (T := TX7) (N := 36) (C := RX7) 15 k43 rfl rfl (by decide) rfl q704 dX7_add_95 ?_
          refine x_istore (L' := [(8, .int (hI σ26 this 15)), (7, .int 0), (0, .ref (ρ this)), (1, .int p1), (2, .int p2), (3, .int p3), (4, .int p4), (5, .int p5), (6, .int p6)]) hC dX7_add_98 (by decide) (by first | rfl | simp (decide := true) [rv_cat, cat_ref, cat_int]) ?_
          refine x_aload_n hC 2 rfl dX7_add_100 ?_
          refine x_getR (n0 := this) hC (ci := 7) (T := TX7) (N := 36) (C := RX7) 16 k43 rfl rfl (by decide) rfl q705 dX7_add_101 ?_
          rw [r24.1]
          refine x_iload hC 0 rfl dX7_add_104 ?_
          refine x_iload_n hC 3 rfl dX7_add_106 ?_
          obtain ⟨m17, hm17, h⟩ := h
          rw [show rv ρ (hR σ14 this 16) = Value.ref (ρ m17) from by rw [hm17]; rfl]
          obtain ⟨k44, h⟩ := h
          obtain ⟨v22, h⟩ := h
          refine x_iast (a := m17) hC k44 (by rw [r24.2]; exact v22) dX7_add_107 ?_
          refine xJ.nmH (fun σ27 e22 => ?_)
          have h := h σ27 e22
          have r25 : hR σ27 = hR σ14 ∧ hL σ27 = hL σ14 := by rw [e22]; exact ⟨r24.1, r24.2⟩
          refine x_aload_n hC 2 rfl dX7_add_108 ?_
          have k45 : hK σ27 this = 8 := by rw [e22]; exact k43
          refine x_getR (n0 := this) hC (ci := 7) (T := TX7) (N := 36) (C := RX7) 17 k45 rfl rfl (by decide) rfl q706 dX7_add_109 ?_
          rw [r25.1]
          refine x_iload hC 0 rfl dX7_add_112 ?_
          refine x_iload_n hC 4 rfl dX7_add_114 ?_
          obtain ⟨m18, hm18, h⟩ := h
          rw [show rv ρ (hR σ14 this 17) = Value.ref (ρ m18) from by rw [hm18]; rfl]
          obtain ⟨k46, h⟩ := h
          obtain ⟨v23, h⟩ := h
          refine x_iast (a := m18) hC k46 (by rw [r25.2]; exact v23) dX7_add_115 ?_
          refine xJ.nmH (fun σ28 e23 => ?_)
          have h := h σ28 e23
          have r26 : hR σ28 = hR σ14 ∧ hL σ28 = hL σ14 := by rw [e23]; exact ⟨r25.1, r25.2⟩
          refine x_aload_n hC 2 rfl dX7_add_116 ?_
          have k47 : hK σ28 this = 8 := by rw [e23]; exact k45
          refine x_getR (n0 := this) hC (ci := 7) (T := TX7) (N := 36) (C := RX7) 18 k47 rfl rfl (by decide) rfl q707 dX7_add_117 ?_
          rw [r26.1]
          refine x_iload hC 0 rfl dX7_add_120 ?_
          refine x_aload_n hC 2 rfl dX7_add_122 ?_
          refine x_getI (n0 := this) hC (ci := 7) (T := TX7) (N := 36) (C := RX7) 1 k47 rfl rfl (by decide) rfl q690 dX7_add_123 ?_
          obtain ⟨m19, hm19, h⟩ := h
          rw [show rv ρ (hR σ14 this 18) = Value.ref (ρ m19) from by rw [hm19]; rfl]
          obtain ⟨k48, h⟩ := h
          obtain ⟨v24, h⟩ := h
          refine x_iast (a := m19) hC k48 (by rw [r26.2]; exact v24) dX7_add_126 ?_
          refine xJ.nmH (fun σ29 e24 => ?_)
          have h := h σ29 e24
          have r27 : hR σ29 = hR σ14 ∧ hL σ29 = hL σ14 := by rw [e24]; exact ⟨r26.1, r26.2⟩
          refine x_aload_n hC 2 rfl dX7_add_127 ?_
          have k49 : hK σ29 this = 8 := by rw [e24]; exact k47
          refine x_getR (n0 := this) hC (ci := 7) (T := TX7) (N := 36) (C := RX7) 19 k49 rfl rfl (by decide) rfl q708 dX7_add_128 ?_
          rw [r27.1]
          refine x_iload hC 0 rfl dX7_add_131 ?_
          refine x_iload_n hC 5 rfl dX7_add_133 ?_
          obtain ⟨m20, hm20, h⟩ := h
          rw [show rv ρ (hR σ14 this 19) = Value.ref (ρ m20) from by rw [hm20]; rfl]
          obtain ⟨k50, h⟩ := h
          obtain ⟨v25, h⟩ := h
          refine x_iast (a := m20) hC k50 (by rw [r27.2]; exact v25) dX7_add_134 ?_
          refine xJ.nmH (fun σ30 e25 => ?_)
          have h := h σ30 e25
          have r28 : hR σ30 = hR σ14 ∧ hL σ30 = hL σ14 := by rw [e25]; exact ⟨r27.1, r27.2⟩
          refine x_aload_n hC 2 rfl dX7_add_135 ?_
          have k51 : hK σ30 this = 8 := by rw [e25]; exact k49
          refine x_getR (n0 := this) hC (ci := 7) (T := TX7) (N := 36) (C := RX7) 20 k51 rfl rfl (by decide) rfl q709 dX7_add_136 ?_
          rw [r28.1]
          refine x_iload hC 0 rfl dX7_add_139 ?_
          refine x_iload hC 6 rfl dX7_add_141 ?_
          obtain ⟨m21, hm21, h⟩ := h
          rw [show rv ρ (hR σ14 this 20) = Value.ref (ρ m21) from by rw [hm21]; rfl]
          obtain ⟨k52, h⟩ := h
          obtain ⟨v26, h⟩ := h
          refine x_iast (a := m21) hC k52 (by rw [r28.2]; exact v26) dX7_add_143 ?_
          refine xJ.nmH (fun σ31 e26 => ?_)
          have h := h σ31 e26
          have r29 : hR σ31 = hR σ14 ∧ hL σ31 = hL σ14 := by rw [e26]; exact ⟨r28.1, r28.2⟩
          refine x_aload_n hC 2 rfl dX7_add_144 ?_
          have k53 : hK σ31 this = 8 := by rw [e26]; exact k51
          refine x_getR (n0 := this) hC (ci := 7) (T := TX7) (N := 36) (C := RX7) 21 k53 rfl rfl (by decide) rfl q710 dX7_add_145 ?_
          rw [r29.1]
          refine x_iload hC 0 rfl dX7_add_148 ?_
          refine x_iload hC 7 rfl dX7_add_150 ?_
          obtain ⟨m22, hm22, h⟩ := h
          rw [show rv ρ (hR σ14 this 21) = Value.ref (ρ m22) from by rw [hm22]; rfl]
          obtain ⟨k54, h⟩ := h
          obtain ⟨v27, h⟩ := h
          obtain ⟨zh3, h⟩ := h
          refine x_zast (a := m22) hC zh3 k54 (by rw [r29.2]; exact v27) dX7_add_152 ?_
          refine xJ.nmH (fun σ32 e27 => ?_)
          have h := h σ32 e27
          have r30 : hR σ32 = hR σ14 ∧ hL σ32 = hL σ14 := by rw [e27]; exact ⟨r29.1, r29.2⟩
          refine x_aload_n hC 2 rfl dX7_add_153 ?_
          have k55 : hK σ32 this = 8 := by rw [e27]; exact k53
          refine x_getR (n0 := this) hC (ci := 7) (T := TX7) (N := 36) (C := RX7) 22 k55 rfl rfl (by decide) rfl q711 dX7_add_154 ?_
          rw [r30.1]
          refine x_iload hC 0 rfl dX7_add_157 ?_
          refine x_iload hC 8 rfl dX7_add_159 ?_
          obtain ⟨m23, hm23, h⟩ := h
          rw [show rv ρ (hR σ14 this 22) = Value.ref (ρ m23) from by rw [hm23]; rfl]
          obtain ⟨k56, h⟩ := h
          obtain ⟨v28, h⟩ := h
          refine x_iast (a := m23) hC k56 (by rw [r30.2]; exact v28) dX7_add_161 ?_
          refine xJ.nmH (fun σ33 e28 => ?_)
          have h := h σ33 e28
          have r31 : hR σ33 = hR σ14 ∧ hL σ33 = hL σ14 := by rw [e28]; exact ⟨r30.1, r30.2⟩
          refine x_aload_n hC 2 rfl dX7_add_162 ?_
          have k57 : hK σ33 this = 8 := by rw [e28]; exact k55
          refine x_getR (n0 := this) hC (ci := 7) (T := TX7) (N := 36) (C := RX7) 23 k57 rfl rfl (by decide) rfl q712 dX7_add_163 ?_
          rw [r31.1]
          refine x_iload hC 0 rfl dX7_add_166 ?_
          refine x_iconst (v := 1) hC dX7_add_168 (by decide) ?_
          obtain ⟨m24, hm24, h⟩ := h
          rw [show rv ρ (hR σ14 this 23) = Value.ref (ρ m24) from by rw [hm24]; rfl]
          obtain ⟨k58, h⟩ := h
          obtain ⟨v29, h⟩ := h
          refine x_zast (a := m24) hC zb1 k58 (by rw [r31.2]; exact v29) dX7_add_169 ?_
          refine xJ.nmH (fun σ34 e29 => ?_)
          have h := h σ34 e29
          have r32 : hR σ34 = hR σ14 ∧ hL σ34 = hL σ14 := by rw [e29]; exact ⟨r31.1, r31.2⟩
          refine x_aload_n hC 2 rfl dX7_add_170 ?_
          refine x_dup hC (by first | rfl | exact rv_cat) dX7_add_171 ?_
          have k59 : hK σ34 this = 8 := by rw [e29]; exact k57
          refine x_getI (n0 := this) hC (ci := 7) (T := TX7) (N := 36) (C := RX7) 15 k59 rfl rfl (by decide) rfl q704 dX7_add_172 ?_
          refine x_iconst (v := 1) hC dX7_add_175 (by decide) ?_
          refine x_iadd hC dX7_add_176 ?_
          refine x_putI (n0 := this) hC (ci := 7) (T := TX7) (N := 36) (C := RX7) 15 k59 rfl rfl (by decide) rfl q704 rfl (tyX7_ok 15 (by decide)) dX7_add_177 ?_
          refine xJ.nmH (fun σ35 e30 => ?_)
          have h := h σ35 e30
          have r33 : hR σ35 = hR σ14 ∧ hL σ35 = hL σ14 := by rw [e30]; exact ⟨r32.1, r32.2⟩
          refine x_aload_n hC 2 rfl dX7_add_180 ?_
          refine x_iload hC 0 rfl dX7_add_181 ?_
          have k60 : hK σ35 this = 8 := by rw [e30]; exact k59
          refine x_callV (n0 := this) (as := [.int (hI σ26 this 15)]) (rest := []) hC (ci := 7) (r := (RX7, TX7, 36)) k60 rfl (fun l hl => m7_samples l hl G ρ this (hI σ26 this 15) σ35 _ h) q828 q830 s15 q3 q831 ⟨rfl, hd7_samples⟩ (by decide) ⟨(by decide), (by decide)⟩ (by first | exact Nat.le_of_ble_eq_true rfl | (simp [rv_cat]; done) | (simp (decide := true) [rv_cat, cat_ref, cat_int]; done)) rfl dX7_add_183 (fun E σ9 hx => False.elim hx) (fun v30 σ36 ρ6 hp6 hag6 => ?_)
          obtain ⟨e9, e8, h⟩ := hp6
          rw [e8, e9]
          refine xJ.nrm (k' := 0) (n' := 0) (pc' := 186) (st' := []) rfl rfl rfl rfl ?_
          refine x_iload hC 0 rfl dX7_add_186 ?_
          exact x_iret hC hr dX7_add_188 (by decide) (by decide) ⟨rfl, _, rfl, h⟩
        · have h := h.2 c7
          refine x_iconst (v := 0) hC dX7_add_92 (by decide) ?_
          exact x_iret hC hr dX7_add_93 (by decide) (by decide) ⟨rfl, _, rfl, h⟩
  · have h := h.2 c1
    refine x_iload hC 4 rfl dX7_add_10 ?_
    refine x_iconst (v := 1) hC dX7_add_12 (by decide) ?_
    refine x_iconst (v := 4) hC dX7_add_13 (by decide) ?_
    refine x_callS (as := [.int p4, .int 1, .int 4]) (rest := []) hC (fun l hl => m7_in l hl G ρ p4 1 4 σ1 _ h) q809 q810 q3 q811 hd7_in (by decide) ⟨(by decide), (by decide)⟩ (by first | exact Nat.le_of_ble_eq_true rfl | (simp [rv_cat]; done) | (simp (decide := true) [rv_cat, cat_ref, cat_int]; done)) rfl dX7_add_14 (fun E σ9 hx => False.elim hx) (fun v31 σ37 ρ7 hp7 hag7 => ?_)
    obtain ⟨e9, r34, e8, h⟩ := hp7
    rw [e8, e9]
    refine xJ.nrm (k' := 0) (n' := 0) (pc' := 17) (st' := [.int r34]) rfl rfl rfl rfl ?_
    refine x_if_eq (tgt := 36) hC dX7_add_17 (by decide) (fun c8 => ?_) (fun c8 => ?_)
    · have h := h.1 c8
      refine x_iconst (v := 0) hC dX7_add_36 (by decide) ?_
      refine x_istore (L' := [(7, .int 0), (0, .ref (ρ this)), (1, .int p1), (2, .int p2), (3, .int p3), (4, .int p4), (5, .int p5), (6, .int p6)]) hC dX7_add_37 (by decide) (by first | rfl | simp (decide := true) [rv_cat, cat_ref, cat_int]) ?_
      refine x_aload_n hC 1 rfl dX7_add_39 ?_
      refine x_aload_n hC 1 rfl dX7_add_40 ?_
      refine x_iload_n hC 2 rfl dX7_add_41 ?_
      obtain ⟨k61, h⟩ := h
      refine x_callV (n0 := this) (as := [.int p1]) (rest := [.ref (ρ this)]) hC (ci := 7) (r := (RX7, TX7, 36)) k61 rfl (fun l hl => m7_isSubscription l hl G ρ this p1 σ37 _ h) q820 q822 s14 q3 q823 ⟨rfl, hd7_isSubscription⟩ (by decide) ⟨(by decide), (by decide)⟩ (by first | exact Nat.le_of_ble_eq_true rfl | (simp [rv_cat]; done) | (simp (decide := true) [rv_cat, cat_ref, cat_int]; done)) rfl dX7_add_42 (fun E σ9 hx => False.elim hx) (fun v32 σ38 ρ8 hp8 hag8 => ?_)
      obtain ⟨e9, r35, e8, h⟩ := hp8
      rw [e8, e9]
      refine xJ.nrm (k' := 0) (n' := 0) (pc' := 45) (st' := [.int r35, .ref (ρ this)]) rfl rfl rfl rfl ?_
      refine x_if_eq (tgt := 55) hC dX7_add_45 (by decide) (fun c9 => ?_) (fun c9 => ?_)
      · have h := h.1 c9
        refine x_iconst (v := 1) hC dX7_add_55 (by decide) ?_
        refine x_goto (tgt := 82) hC dX7_add_56 (by decide) ?_
        have k62 : hK σ38 this = 8 := (hag8 this (by rw [k61]; decide)).1.trans k61
        refine x_putI (n0 := this) hC (ci := 7) (T := TX7) (N := 36) (C := RX7) 0 k62 rfl rfl (by decide) rfl q689 rfl (tyX7_ok 0 (by decide)) dX7_add_82 ?_
        refine xJ.nmH (fun σ39 e31 => ?_)
        have h := h σ39 e31
        have r36 : hR σ39 = hR σ38 ∧ hL σ39 = hL σ38 := by rw [e31]; exact ⟨rfl, rfl⟩
        refine x_aload_n hC 1 rfl dX7_add_85 ?_
        have k63 : hK σ39 this = 8 := by rw [e31]; exact k62
        refine x_getI (n0 := this) hC (ci := 7) (T := TX7) (N := 36) (C := RX7) 0 k63 rfl rfl (by decide) rfl q689 dX7_add_86 ?_
        refine x_if_le (tgt := 94) hC dX7_add_89 (by decide) (fun c10 => ?_) (fun c10 => ?_)
        · have h := h.1 c10
          refine x_aload_n hC 1 rfl dX7_add_94 ?_
          refine x_getI (n0 := this) hC (ci := 7) (T := TX7) (N := 36) (C := RX7) 15 k63 rfl rfl (by decide) rfl q704 dX7_add_95 ?_
          refine x_istore (L' := [(8, .int (hI σ39 this 15)), (7, .int 0), (0, .ref (ρ this)), (1, .int p1), (2, .int p2), (3, .int p3), (4, .int p4), (5, .int p5), (6, .int p6)]) hC dX7_add_98 (by decide) (by first | rfl | simp (decide := true) [rv_cat, cat_ref, cat_int]) ?_
          refine x_aload_n hC 2 rfl dX7_add_100 ?_
          refine x_getR (n0 := this) hC (ci := 7) (T := TX7) (N := 36) (C := RX7) 16 k63 rfl rfl (by decide) rfl q705 dX7_add_101 ?_
          rw [r36.1]
          refine x_iload hC 0 rfl dX7_add_104 ?_
          refine x_iload_n hC 3 rfl dX7_add_106 ?_
          obtain ⟨m25, hm25, h⟩ := h
          rw [show rv ρ (hR σ38 this 16) = Value.ref (ρ m25) from by rw [hm25]; rfl]
          obtain ⟨k64, h⟩ := h
          obtain ⟨v33, h⟩ := h
          refine x_iast (a := m25) hC k64 (by rw [r36.2]; exact v33) dX7_add_107 ?_
          refine xJ.nmH (fun σ40 e32 => ?_)
          have h := h σ40 e32
          have r37 : hR σ40 = hR σ38 ∧ hL σ40 = hL σ38 := by rw [e32]; exact ⟨r36.1, r36.2⟩
          refine x_aload_n hC 2 rfl dX7_add_108 ?_
          have k65 : hK σ40 this = 8 := by rw [e32]; exact k63
          refine x_getR (n0 := this) hC (ci := 7) (T := TX7) (N := 36) (C := RX7) 17 k65 rfl rfl (by decide) rfl q706 dX7_add_109 ?_
          rw [r37.1]
          refine x_iload hC 0 rfl dX7_add_112 ?_
          refine x_iload_n hC 4 rfl dX7_add_114 ?_
          obtain ⟨m26, hm26, h⟩ := h
          rw [show rv ρ (hR σ38 this 17) = Value.ref (ρ m26) from by rw [hm26]; rfl]
          obtain ⟨k66, h⟩ := h
          obtain ⟨v34, h⟩ := h
          refine x_iast (a := m26) hC k66 (by rw [r37.2]; exact v34) dX7_add_115 ?_
          refine xJ.nmH (fun σ41 e33 => ?_)
          have h := h σ41 e33
          have r38 : hR σ41 = hR σ38 ∧ hL σ41 = hL σ38 := by rw [e33]; exact ⟨r37.1, r37.2⟩
          refine x_aload_n hC 2 rfl dX7_add_116 ?_
          have k67 : hK σ41 this = 8 := by rw [e33]; exact k65
          refine x_getR (n0 := this) hC (ci := 7) (T := TX7) (N := 36) (C := RX7) 18 k67 rfl rfl (by decide) rfl q707 dX7_add_117 ?_
          rw [r38.1]
          refine x_iload hC 0 rfl dX7_add_120 ?_
          refine x_aload_n hC 2 rfl dX7_add_122 ?_
          refine x_getI (n0 := this) hC (ci := 7) (T := TX7) (N := 36) (C := RX7) 1 k67 rfl rfl (by decide) rfl q690 dX7_add_123 ?_
          obtain ⟨m27, hm27, h⟩ := h
          rw [show rv ρ (hR σ38 this 18) = Value.ref (ρ m27) from by rw [hm27]; rfl]
          obtain ⟨k68, h⟩ := h
          obtain ⟨v35, h⟩ := h
          refine x_iast (a := m27) hC k68 (by rw [r38.2]; exact v35) dX7_add_126 ?_
          refine xJ.nmH (fun σ42 e34 => ?_)
          have h := h σ42 e34
          have r39 : hR σ42 = hR σ38 ∧ hL σ42 = hL σ38 := by rw [e34]; exact ⟨r38.1, r38.2⟩
          refine x_aload_n hC 2 rfl dX7_add_127 ?_
          have k69 : hK σ42 this = 8 := by rw [e34]; exact k67
          refine x_getR (n0 := this) hC (ci := 7) (T := TX7) (N := 36) (C := RX7) 19 k69 rfl rfl (by decide) rfl q708 dX7_add_128 ?_
          rw [r39.1]
          refine x_iload hC 0 rfl dX7_add_131 ?_
          refine x_iload_n hC 5 rfl dX7_add_133 ?_
          obtain ⟨m28, hm28, h⟩ := h
          rw [show rv ρ (hR σ38 this 19) = Value.ref (ρ m28) from by rw [hm28]; rfl]
          obtain ⟨k70, h⟩ := h
          obtain ⟨v36, h⟩ := h
          refine x_iast (a := m28) hC k70 (by rw [r39.2]; exact v36) dX7_add_134 ?_
          refine xJ.nmH (fun σ43 e35 => ?_)
          have h := h σ43 e35
          have r40 : hR σ43 = hR σ38 ∧ hL σ43 = hL σ38 := by rw [e35]; exact ⟨r39.1, r39.2⟩
          refine x_aload_n hC 2 rfl dX7_add_135 ?_
          have k71 : hK σ43 this = 8 := by rw [e35]; exact k69
          refine x_getR (n0 := this) hC (ci := 7) (T := TX7) (N := 36) (C := RX7) 20 k71 rfl rfl (by decide) rfl q709 dX7_add_136 ?_
          rw [r40.1]
          refine x_iload hC 0 rfl dX7_add_139 ?_
          refine x_iload hC 6 rfl dX7_add_141 ?_
          obtain ⟨m29, hm29, h⟩ := h
          rw [show rv ρ (hR σ38 this 20) = Value.ref (ρ m29) from by rw [hm29]; rfl]
          obtain ⟨k72, h⟩ := h
          obtain ⟨v37, h⟩ := h
          refine x_iast (a := m29) hC k72 (by rw [r40.2]; exact v37) dX7_add_143 ?_
          refine xJ.nmH (fun σ44 e36 => ?_)
          have h := h σ44 e36
          have r41 : hR σ44 = hR σ38 ∧ hL σ44 = hL σ38 := by rw [e36]; exact ⟨r40.1, r40.2⟩
          refine x_aload_n hC 2 rfl dX7_add_144 ?_
          have k73 : hK σ44 this = 8 := by rw [e36]; exact k71
          refine x_getR (n0 := this) hC (ci := 7) (T := TX7) (N := 36) (C := RX7) 21 k73 rfl rfl (by decide) rfl q710 dX7_add_145 ?_
          rw [r41.1]
          refine x_iload hC 0 rfl dX7_add_148 ?_
          refine x_iload hC 7 rfl dX7_add_150 ?_
          obtain ⟨m30, hm30, h⟩ := h
          rw [show rv ρ (hR σ38 this 21) = Value.ref (ρ m30) from by rw [hm30]; rfl]
          obtain ⟨k74, h⟩ := h
          obtain ⟨v38, h⟩ := h
          obtain ⟨zh4, h⟩ := h
          refine x_zast (a := m30) hC zh4 k74 (by rw [r41.2]; exact v38) dX7_add_152 ?_
          refine xJ.nmH (fun σ45 e37 => ?_)
          have h := h σ45 e37
          have r42 : hR σ45 = hR σ38 ∧ hL σ45 = hL σ38 := by rw [e37]; exact ⟨r41.1, r41.2⟩
          refine x_aload_n hC 2 rfl dX7_add_153 ?_
          have k75 : hK σ45 this = 8 := by rw [e37]; exact k73
          refine x_getR (n0 := this) hC (ci := 7) (T := TX7) (N := 36) (C := RX7) 22 k75 rfl rfl (by decide) rfl q711 dX7_add_154 ?_
          rw [r42.1]
          refine x_iload hC 0 rfl dX7_add_157 ?_
          refine x_iload hC 8 rfl dX7_add_159 ?_
          obtain ⟨m31, hm31, h⟩ := h
          rw [show rv ρ (hR σ38 this 22) = Value.ref (ρ m31) from by rw [hm31]; rfl]
          obtain ⟨k76, h⟩ := h
          obtain ⟨v39, h⟩ := h
          refine x_iast (a := m31) hC k76 (by rw [r42.2]; exact v39) dX7_add_161 ?_
          refine xJ.nmH (fun σ46 e38 => ?_)
          have h := h σ46 e38
          have r43 : hR σ46 = hR σ38 ∧ hL σ46 = hL σ38 := by rw [e38]; exact ⟨r42.1, r42.2⟩
          refine x_aload_n hC 2 rfl dX7_add_162 ?_
          have k77 : hK σ46 this = 8 := by rw [e38]; exact k75
          refine x_getR (n0 := this) hC (ci := 7) (T := TX7) (N := 36) (C := RX7) 23 k77 rfl rfl (by decide) rfl q712 dX7_add_163 ?_
          rw [r43.1]
          refine x_iload hC 0 rfl dX7_add_166 ?_
          refine x_iconst (v := 1) hC dX7_add_168 (by decide) ?_
          obtain ⟨m32, hm32, h⟩ := h
          rw [show rv ρ (hR σ38 this 23) = Value.ref (ρ m32) from by rw [hm32]; rfl]
          obtain ⟨k78, h⟩ := h
          obtain ⟨v40, h⟩ := h
          refine x_zast (a := m32) hC zb1 k78 (by rw [r43.2]; exact v40) dX7_add_169 ?_
          refine xJ.nmH (fun σ47 e39 => ?_)
          have h := h σ47 e39
          have r44 : hR σ47 = hR σ38 ∧ hL σ47 = hL σ38 := by rw [e39]; exact ⟨r43.1, r43.2⟩
          refine x_aload_n hC 2 rfl dX7_add_170 ?_
          refine x_dup hC (by first | rfl | exact rv_cat) dX7_add_171 ?_
          have k79 : hK σ47 this = 8 := by rw [e39]; exact k77
          refine x_getI (n0 := this) hC (ci := 7) (T := TX7) (N := 36) (C := RX7) 15 k79 rfl rfl (by decide) rfl q704 dX7_add_172 ?_
          refine x_iconst (v := 1) hC dX7_add_175 (by decide) ?_
          refine x_iadd hC dX7_add_176 ?_
          refine x_putI (n0 := this) hC (ci := 7) (T := TX7) (N := 36) (C := RX7) 15 k79 rfl rfl (by decide) rfl q704 rfl (tyX7_ok 15 (by decide)) dX7_add_177 ?_
          refine xJ.nmH (fun σ48 e40 => ?_)
          have h := h σ48 e40
          have r45 : hR σ48 = hR σ38 ∧ hL σ48 = hL σ38 := by rw [e40]; exact ⟨r44.1, r44.2⟩
          refine x_aload_n hC 2 rfl dX7_add_180 ?_
          refine x_iload hC 0 rfl dX7_add_181 ?_
          have k80 : hK σ48 this = 8 := by rw [e40]; exact k79
          refine x_callV (n0 := this) (as := [.int (hI σ39 this 15)]) (rest := []) hC (ci := 7) (r := (RX7, TX7, 36)) k80 rfl (fun l hl => m7_samples l hl G ρ this (hI σ39 this 15) σ48 _ h) q828 q830 s15 q3 q831 ⟨rfl, hd7_samples⟩ (by decide) ⟨(by decide), (by decide)⟩ (by first | exact Nat.le_of_ble_eq_true rfl | (simp [rv_cat]; done) | (simp (decide := true) [rv_cat, cat_ref, cat_int]; done)) rfl dX7_add_183 (fun E σ9 hx => False.elim hx) (fun v41 σ49 ρ9 hp9 hag9 => ?_)
          obtain ⟨e9, e8, h⟩ := hp9
          rw [e8, e9]
          refine xJ.nrm (k' := 0) (n' := 0) (pc' := 186) (st' := []) rfl rfl rfl rfl ?_
          refine x_iload hC 0 rfl dX7_add_186 ?_
          exact x_iret hC hr dX7_add_188 (by decide) (by decide) ⟨rfl, _, rfl, h⟩
        · have h := h.2 c10
          refine x_iconst (v := 0) hC dX7_add_92 (by decide) ?_
          exact x_iret hC hr dX7_add_93 (by decide) (by decide) ⟨rfl, _, rfl, h⟩
      · have h := h.2 c9
        refine x_iload_n hC 3 rfl dX7_add_48 ?_
        refine x_callS (as := [.int p2]) (rest := [.ref (ρ this)]) hC (fun l hl => m7_isNode l hl G ρ p2 σ38 _ h) q806 q807 q3 q808 hd7_isNode (by decide) ⟨(by decide), (by decide)⟩ (by first | exact Nat.le_of_ble_eq_true rfl | (simp [rv_cat]; done) | (simp (decide := true) [rv_cat, cat_ref, cat_int]; done)) rfl dX7_add_49 (fun E σ9 hx => False.elim hx) (fun v42 σ50 ρ10 hp10 hag10 => ?_)
        obtain ⟨e9, r46, e8, h⟩ := hp10
        rw [e8, e9]
        refine xJ.nrm (k' := 0) (n' := 0) (pc' := 52) (st' := [.int r46, .ref (ρ this)]) rfl rfl rfl rfl ?_
        refine x_if_ne (tgt := 59) hC dX7_add_52 (by decide) (fun c11 => ?_) (fun c11 => ?_)
        · have h := h.1 c11
          refine x_iload hC 0 rfl dX7_add_59 ?_
          refine x_if_ne (tgt := 68) hC dX7_add_61 (by decide) (fun c12 => absurd c12 (by decide)) (fun _ => ?_)
          refine x_iconst (v := 2) hC dX7_add_64 (by decide) ?_
          refine x_goto (tgt := 82) hC dX7_add_65 (by decide) ?_
          have k81 : hK σ38 this = 8 := (hag8 this (by rw [k61]; decide)).1.trans k61
          have k82 : hK σ50 this = 8 := (hag10 this (by rw [k81]; decide)).1.trans k81
          refine x_putI (n0 := this) hC (ci := 7) (T := TX7) (N := 36) (C := RX7) 0 k82 rfl rfl (by decide) rfl q689 rfl (tyX7_ok 0 (by decide)) dX7_add_82 ?_
          refine xJ.nmH (fun σ51 e41 => ?_)
          have h := h σ51 e41
          have r47 : hR σ51 = hR σ50 ∧ hL σ51 = hL σ50 := by rw [e41]; exact ⟨rfl, rfl⟩
          refine x_aload_n hC 1 rfl dX7_add_85 ?_
          have k83 : hK σ51 this = 8 := by rw [e41]; exact k82
          refine x_getI (n0 := this) hC (ci := 7) (T := TX7) (N := 36) (C := RX7) 0 k83 rfl rfl (by decide) rfl q689 dX7_add_86 ?_
          refine x_if_le (tgt := 94) hC dX7_add_89 (by decide) (fun c13 => ?_) (fun c13 => ?_)
          · have h := h.1 c13
            refine x_aload_n hC 1 rfl dX7_add_94 ?_
            refine x_getI (n0 := this) hC (ci := 7) (T := TX7) (N := 36) (C := RX7) 15 k83 rfl rfl (by decide) rfl q704 dX7_add_95 ?_
            refine x_istore (L' := [(8, .int (hI σ51 this 15)), (7, .int 0), (0, .ref (ρ this)), (1, .int p1), (2, .int p2), (3, .int p3), (4, .int p4), (5, .int p5), (6, .int p6)]) hC dX7_add_98 (by decide) (by first | rfl | simp (decide := true) [rv_cat, cat_ref, cat_int]) ?_
            refine x_aload_n hC 2 rfl dX7_add_100 ?_
            refine x_getR (n0 := this) hC (ci := 7) (T := TX7) (N := 36) (C := RX7) 16 k83 rfl rfl (by decide) rfl q705 dX7_add_101 ?_
            rw [r47.1]
            refine x_iload hC 0 rfl dX7_add_104 ?_
            refine x_iload_n hC 3 rfl dX7_add_106 ?_
            obtain ⟨m33, hm33, h⟩ := h
            rw [show rv ρ (hR σ50 this 16) = Value.ref (ρ m33) from by rw [hm33]; rfl]
            obtain ⟨k84, h⟩ := h
            obtain ⟨v43, h⟩ := h
            refine x_iast (a := m33) hC k84 (by rw [r47.2]; exact v43) dX7_add_107 ?_
            refine xJ.nmH (fun σ52 e42 => ?_)
            have h := h σ52 e42
            have r48 : hR σ52 = hR σ50 ∧ hL σ52 = hL σ50 := by rw [e42]; exact ⟨r47.1, r47.2⟩
            refine x_aload_n hC 2 rfl dX7_add_108 ?_
            have k85 : hK σ52 this = 8 := by rw [e42]; exact k83
            refine x_getR (n0 := this) hC (ci := 7) (T := TX7) (N := 36) (C := RX7) 17 k85 rfl rfl (by decide) rfl q706 dX7_add_109 ?_
            rw [r48.1]
            refine x_iload hC 0 rfl dX7_add_112 ?_
            refine x_iload_n hC 4 rfl dX7_add_114 ?_
            obtain ⟨m34, hm34, h⟩ := h
            rw [show rv ρ (hR σ50 this 17) = Value.ref (ρ m34) from by rw [hm34]; rfl]
            obtain ⟨k86, h⟩ := h
            obtain ⟨v44, h⟩ := h
            refine x_iast (a := m34) hC k86 (by rw [r48.2]; exact v44) dX7_add_115 ?_
            refine xJ.nmH (fun σ53 e43 => ?_)
            have h := h σ53 e43
            have r49 : hR σ53 = hR σ50 ∧ hL σ53 = hL σ50 := by rw [e43]; exact ⟨r48.1, r48.2⟩
            refine x_aload_n hC 2 rfl dX7_add_116 ?_
            have k87 : hK σ53 this = 8 := by rw [e43]; exact k85
            refine x_getR (n0 := this) hC (ci := 7) (T := TX7) (N := 36) (C := RX7) 18 k87 rfl rfl (by decide) rfl q707 dX7_add_117 ?_
            rw [r49.1]
            refine x_iload hC 0 rfl dX7_add_120 ?_
            refine x_aload_n hC 2 rfl dX7_add_122 ?_
            refine x_getI (n0 := this) hC (ci := 7) (T := TX7) (N := 36) (C := RX7) 1 k87 rfl rfl (by decide) rfl q690 dX7_add_123 ?_
            obtain ⟨m35, hm35, h⟩ := h
            rw [show rv ρ (hR σ50 this 18) = Value.ref (ρ m35) from by rw [hm35]; rfl]
            obtain ⟨k88, h⟩ := h
            obtain ⟨v45, h⟩ := h
            refine x_iast (a := m35) hC k88 (by rw [r49.2]; exact v45) dX7_add_126 ?_
            refine xJ.nmH (fun σ54 e44 => ?_)
            have h := h σ54 e44
            have r50 : hR σ54 = hR σ50 ∧ hL σ54 = hL σ50 := by rw [e44]; exact ⟨r49.1, r49.2⟩
            refine x_aload_n hC 2 rfl dX7_add_127 ?_
            have k89 : hK σ54 this = 8 := by rw [e44]; exact k87
            refine x_getR (n0 := this) hC (ci := 7) (T := TX7) (N := 36) (C := RX7) 19 k89 rfl rfl (by decide) rfl q708 dX7_add_128 ?_
            rw [r50.1]
            refine x_iload hC 0 rfl dX7_add_131 ?_
            refine x_iload_n hC 5 rfl dX7_add_133 ?_
            obtain ⟨m36, hm36, h⟩ := h
            rw [show rv ρ (hR σ50 this 19) = Value.ref (ρ m36) from by rw [hm36]; rfl]
            obtain ⟨k90, h⟩ := h
            obtain ⟨v46, h⟩ := h
            refine x_iast (a := m36) hC k90 (by rw [r50.2]; exact v46) dX7_add_134 ?_
            refine xJ.nmH (fun σ55 e45 => ?_)
            have h := h σ55 e45
            have r51 : hR σ55 = hR σ50 ∧ hL σ55 = hL σ50 := by rw [e45]; exact ⟨r50.1, r50.2⟩
            refine x_aload_n hC 2 rfl dX7_add_135 ?_
            have k91 : hK σ55 this = 8 := by rw [e45]; exact k89
            refine x_getR (n0 := this) hC (ci := 7) (T := TX7) (N := 36) (C := RX7) 20 k91 rfl rfl (by decide) rfl q709 dX7_add_136 ?_
            rw [r51.1]
            refine x_iload hC 0 rfl dX7_add_139 ?_
            refine x_iload hC 6 rfl dX7_add_141 ?_
            obtain ⟨m37, hm37, h⟩ := h
            rw [show rv ρ (hR σ50 this 20) = Value.ref (ρ m37) from by rw [hm37]; rfl]
            obtain ⟨k92, h⟩ := h
            obtain ⟨v47, h⟩ := h
            refine x_iast (a := m37) hC k92 (by rw [r51.2]; exact v47) dX7_add_143 ?_
            refine xJ.nmH (fun σ56 e46 => ?_)
            have h := h σ56 e46
            have r52 : hR σ56 = hR σ50 ∧ hL σ56 = hL σ50 := by rw [e46]; exact ⟨r51.1, r51.2⟩
            refine x_aload_n hC 2 rfl dX7_add_144 ?_
            have k93 : hK σ56 this = 8 := by rw [e46]; exact k91
            refine x_getR (n0 := this) hC (ci := 7) (T := TX7) (N := 36) (C := RX7) 21 k93 rfl rfl (by decide) rfl q710 dX7_add_145 ?_
            rw [r52.1]
            refine x_iload hC 0 rfl dX7_add_148 ?_
            refine x_iload hC 7 rfl dX7_add_150 ?_
            obtain ⟨m38, hm38, h⟩ := h
            rw [show rv ρ (hR σ50 this 21) = Value.ref (ρ m38) from by rw [hm38]; rfl]
            obtain ⟨k94, h⟩ := h
            obtain ⟨v48, h⟩ := h
            obtain ⟨zh5, h⟩ := h
            refine x_zast (a := m38) hC zh5 k94 (by rw [r52.2]; exact v48) dX7_add_152 ?_
            refine xJ.nmH (fun σ57 e47 => ?_)
            have h := h σ57 e47
            have r53 : hR σ57 = hR σ50 ∧ hL σ57 = hL σ50 := by rw [e47]; exact ⟨r52.1, r52.2⟩
            refine x_aload_n hC 2 rfl dX7_add_153 ?_
            have k95 : hK σ57 this = 8 := by rw [e47]; exact k93
            refine x_getR (n0 := this) hC (ci := 7) (T := TX7) (N := 36) (C := RX7) 22 k95 rfl rfl (by decide) rfl q711 dX7_add_154 ?_
            rw [r53.1]
            refine x_iload hC 0 rfl dX7_add_157 ?_
            refine x_iload hC 8 rfl dX7_add_159 ?_
            obtain ⟨m39, hm39, h⟩ := h
            rw [show rv ρ (hR σ50 this 22) = Value.ref (ρ m39) from by rw [hm39]; rfl]
            obtain ⟨k96, h⟩ := h
            obtain ⟨v49, h⟩ := h
            refine x_iast (a := m39) hC k96 (by rw [r53.2]; exact v49) dX7_add_161 ?_
            refine xJ.nmH (fun σ58 e48 => ?_)
            have h := h σ58 e48
            have r54 : hR σ58 = hR σ50 ∧ hL σ58 = hL σ50 := by rw [e48]; exact ⟨r53.1, r53.2⟩
            refine x_aload_n hC 2 rfl dX7_add_162 ?_
            have k97 : hK σ58 this = 8 := by rw [e48]; exact k95
            refine x_getR (n0 := this) hC (ci := 7) (T := TX7) (N := 36) (C := RX7) 23 k97 rfl rfl (by decide) rfl q712 dX7_add_163 ?_
            rw [r54.1]
            refine x_iload hC 0 rfl dX7_add_166 ?_
            refine x_iconst (v := 1) hC dX7_add_168 (by decide) ?_
            obtain ⟨m40, hm40, h⟩ := h
            rw [show rv ρ (hR σ50 this 23) = Value.ref (ρ m40) from by rw [hm40]; rfl]
            obtain ⟨k98, h⟩ := h
            obtain ⟨v50, h⟩ := h
            refine x_zast (a := m40) hC zb1 k98 (by rw [r54.2]; exact v50) dX7_add_169 ?_
            refine xJ.nmH (fun σ59 e49 => ?_)
            have h := h σ59 e49
            have r55 : hR σ59 = hR σ50 ∧ hL σ59 = hL σ50 := by rw [e49]; exact ⟨r54.1, r54.2⟩
            refine x_aload_n hC 2 rfl dX7_add_170 ?_
            refine x_dup hC (by first | rfl | exact rv_cat) dX7_add_171 ?_
            have k99 : hK σ59 this = 8 := by rw [e49]; exact k97
            refine x_getI (n0 := this) hC (ci := 7) (T := TX7) (N := 36) (C := RX7) 15 k99 rfl rfl (by decide) rfl q704 dX7_add_172 ?_
            refine x_iconst (v := 1) hC dX7_add_175 (by decide) ?_
            refine x_iadd hC dX7_add_176 ?_
            refine x_putI (n0 := this) hC (ci := 7) (T := TX7) (N := 36) (C := RX7) 15 k99 rfl rfl (by decide) rfl q704 rfl (tyX7_ok 15 (by decide)) dX7_add_177 ?_
            refine xJ.nmH (fun σ60 e50 => ?_)
            have h := h σ60 e50
            have r56 : hR σ60 = hR σ50 ∧ hL σ60 = hL σ50 := by rw [e50]; exact ⟨r55.1, r55.2⟩
            refine x_aload_n hC 2 rfl dX7_add_180 ?_
            refine x_iload hC 0 rfl dX7_add_181 ?_
            have k100 : hK σ60 this = 8 := by rw [e50]; exact k99
            refine x_callV (n0 := this) (as := [.int (hI σ51 this 15)]) (rest := []) hC (ci := 7) (r := (RX7, TX7, 36)) k100 rfl (fun l hl => m7_samples l hl G ρ this (hI σ51 this 15) σ60 _ h) q828 q830 s15 q3 q831 ⟨rfl, hd7_samples⟩ (by decide) ⟨(by decide), (by decide)⟩ (by first | exact Nat.le_of_ble_eq_true rfl | (simp [rv_cat]; done) | (simp (decide := true) [rv_cat, cat_ref, cat_int]; done)) rfl dX7_add_183 (fun E σ9 hx => False.elim hx) (fun v51 σ61 ρ11 hp11 hag11 => ?_)
            obtain ⟨e9, e8, h⟩ := hp11
            rw [e8, e9]
            refine xJ.nrm (k' := 0) (n' := 0) (pc' := 186) (st' := []) rfl rfl rfl rfl ?_
            refine x_iload hC 0 rfl dX7_add_186 ?_
            exact x_iret hC hr dX7_add_188 (by decide) (by decide) ⟨rfl, _, rfl, h⟩
          · have h := h.2 c13
            refine x_iconst (v := 0) hC dX7_add_92 (by decide) ?_
            exact x_iret hC hr dX7_add_93 (by decide) (by decide) ⟨rfl, _, rfl, h⟩
        · have h := h.2 c11
          refine x_iconst (v := 1) hC dX7_add_55 (by decide) ?_
          refine x_goto (tgt := 82) hC dX7_add_56 (by decide) ?_
          have k101 : hK σ38 this = 8 := (hag8 this (by rw [k61]; decide)).1.trans k61
          have k102 : hK σ50 this = 8 := (hag10 this (by rw [k101]; decide)).1.trans k101
          refine x_putI (n0 := this) hC (ci := 7) (T := TX7) (N := 36) (C := RX7) 0 k102 rfl rfl (by decide) rfl q689 rfl (tyX7_ok 0 (by decide)) dX7_add_82 ?_
          refine xJ.nmH (fun σ62 e51 => ?_)
          have h := h σ62 e51
          have r57 : hR σ62 = hR σ50 ∧ hL σ62 = hL σ50 := by rw [e51]; exact ⟨rfl, rfl⟩
          refine x_aload_n hC 1 rfl dX7_add_85 ?_
          have k103 : hK σ62 this = 8 := by rw [e51]; exact k102
          refine x_getI (n0 := this) hC (ci := 7) (T := TX7) (N := 36) (C := RX7) 0 k103 rfl rfl (by decide) rfl q689 dX7_add_86 ?_
          refine x_if_le (tgt := 94) hC dX7_add_89 (by decide) (fun c14 => ?_) (fun c14 => ?_)
          · have h := h.1 c14
            refine x_aload_n hC 1 rfl dX7_add_94 ?_
            refine x_getI (n0 := this) hC (ci := 7) (T := TX7) (N := 36) (C := RX7) 15 k103 rfl rfl (by decide) rfl q704 dX7_add_95 ?_
            refine x_istore (L' := [(8, .int (hI σ62 this 15)), (7, .int 0), (0, .ref (ρ this)), (1, .int p1), (2, .int p2), (3, .int p3), (4, .int p4), (5, .int p5), (6, .int p6)]) hC dX7_add_98 (by decide) (by first | rfl | simp (decide := true) [rv_cat, cat_ref, cat_int]) ?_
            refine x_aload_n hC 2 rfl dX7_add_100 ?_
            refine x_getR (n0 := this) hC (ci := 7) (T := TX7) (N := 36) (C := RX7) 16 k103 rfl rfl (by decide) rfl q705 dX7_add_101 ?_
            rw [r57.1]
            refine x_iload hC 0 rfl dX7_add_104 ?_
            refine x_iload_n hC 3 rfl dX7_add_106 ?_
            obtain ⟨m41, hm41, h⟩ := h
            rw [show rv ρ (hR σ50 this 16) = Value.ref (ρ m41) from by rw [hm41]; rfl]
            obtain ⟨k104, h⟩ := h
            obtain ⟨v52, h⟩ := h
            refine x_iast (a := m41) hC k104 (by rw [r57.2]; exact v52) dX7_add_107 ?_
            refine xJ.nmH (fun σ63 e52 => ?_)
            have h := h σ63 e52
            have r58 : hR σ63 = hR σ50 ∧ hL σ63 = hL σ50 := by rw [e52]; exact ⟨r57.1, r57.2⟩
            refine x_aload_n hC 2 rfl dX7_add_108 ?_
            have k105 : hK σ63 this = 8 := by rw [e52]; exact k103
            refine x_getR (n0 := this) hC (ci := 7) (T := TX7) (N := 36) (C := RX7) 17 k105 rfl rfl (by decide) rfl q706 dX7_add_109 ?_
            rw [r58.1]
            refine x_iload hC 0 rfl dX7_add_112 ?_
            refine x_iload_n hC 4 rfl dX7_add_114 ?_
            obtain ⟨m42, hm42, h⟩ := h
            rw [show rv ρ (hR σ50 this 17) = Value.ref (ρ m42) from by rw [hm42]; rfl]
            obtain ⟨k106, h⟩ := h
            obtain ⟨v53, h⟩ := h
            refine x_iast (a := m42) hC k106 (by rw [r58.2]; exact v53) dX7_add_115 ?_
            refine xJ.nmH (fun σ64 e53 => ?_)
            have h := h σ64 e53
            have r59 : hR σ64 = hR σ50 ∧ hL σ64 = hL σ50 := by rw [e53]; exact ⟨r58.1, r58.2⟩
            refine x_aload_n hC 2 rfl dX7_add_116 ?_
            have k107 : hK σ64 this = 8 := by rw [e53]; exact k105
            refine x_getR (n0 := this) hC (ci := 7) (T := TX7) (N := 36) (C := RX7) 18 k107 rfl rfl (by decide) rfl q707 dX7_add_117 ?_
            rw [r59.1]
            refine x_iload hC 0 rfl dX7_add_120 ?_
            refine x_aload_n hC 2 rfl dX7_add_122 ?_
            refine x_getI (n0 := this) hC (ci := 7) (T := TX7) (N := 36) (C := RX7) 1 k107 rfl rfl (by decide) rfl q690 dX7_add_123 ?_
            obtain ⟨m43, hm43, h⟩ := h
            rw [show rv ρ (hR σ50 this 18) = Value.ref (ρ m43) from by rw [hm43]; rfl]
            obtain ⟨k108, h⟩ := h
            obtain ⟨v54, h⟩ := h
            refine x_iast (a := m43) hC k108 (by rw [r59.2]; exact v54) dX7_add_126 ?_
            refine xJ.nmH (fun σ65 e54 => ?_)
            have h := h σ65 e54
            have r60 : hR σ65 = hR σ50 ∧ hL σ65 = hL σ50 := by rw [e54]; exact ⟨r59.1, r59.2⟩
            refine x_aload_n hC 2 rfl dX7_add_127 ?_
            have k109 : hK σ65 this = 8 := by rw [e54]; exact k107
            refine x_getR (n0 := this) hC (ci := 7) (T := TX7) (N := 36) (C := RX7) 19 k109 rfl rfl (by decide) rfl q708 dX7_add_128 ?_
            rw [r60.1]
            refine x_iload hC 0 rfl dX7_add_131 ?_
            refine x_iload_n hC 5 rfl dX7_add_133 ?_
            obtain ⟨m44, hm44, h⟩ := h
            rw [show rv ρ (hR σ50 this 19) = Value.ref (ρ m44) from by rw [hm44]; rfl]
            obtain ⟨k110, h⟩ := h
            obtain ⟨v55, h⟩ := h
            refine x_iast (a := m44) hC k110 (by rw [r60.2]; exact v55) dX7_add_134 ?_
            refine xJ.nmH (fun σ66 e55 => ?_)
            have h := h σ66 e55
            have r61 : hR σ66 = hR σ50 ∧ hL σ66 = hL σ50 := by rw [e55]; exact ⟨r60.1, r60.2⟩
            refine x_aload_n hC 2 rfl dX7_add_135 ?_
            have k111 : hK σ66 this = 8 := by rw [e55]; exact k109
            refine x_getR (n0 := this) hC (ci := 7) (T := TX7) (N := 36) (C := RX7) 20 k111 rfl rfl (by decide) rfl q709 dX7_add_136 ?_
            rw [r61.1]
            refine x_iload hC 0 rfl dX7_add_139 ?_
            refine x_iload hC 6 rfl dX7_add_141 ?_
            obtain ⟨m45, hm45, h⟩ := h
            rw [show rv ρ (hR σ50 this 20) = Value.ref (ρ m45) from by rw [hm45]; rfl]
            obtain ⟨k112, h⟩ := h
            obtain ⟨v56, h⟩ := h
            refine x_iast (a := m45) hC k112 (by rw [r61.2]; exact v56) dX7_add_143 ?_
            refine xJ.nmH (fun σ67 e56 => ?_)
            have h := h σ67 e56
            have r62 : hR σ67 = hR σ50 ∧ hL σ67 = hL σ50 := by rw [e56]; exact ⟨r61.1, r61.2⟩
            refine x_aload_n hC 2 rfl dX7_add_144 ?_
            have k113 : hK σ67 this = 8 := by rw [e56]; exact k111
            refine x_getR (n0 := this) hC (ci := 7) (T := TX7) (N := 36) (C := RX7) 21 k113 rfl rfl (by decide) rfl q710 dX7_add_145 ?_
            rw [r62.1]
            refine x_iload hC 0 rfl dX7_add_148 ?_
            refine x_iload hC 7 rfl dX7_add_150 ?_
            obtain ⟨m46, hm46, h⟩ := h
            rw [show rv ρ (hR σ50 this 21) = Value.ref (ρ m46) from by rw [hm46]; rfl]
            obtain ⟨k114, h⟩ := h
            obtain ⟨v57, h⟩ := h
            obtain ⟨zh6, h⟩ := h
            refine x_zast (a := m46) hC zh6 k114 (by rw [r62.2]; exact v57) dX7_add_152 ?_
            refine xJ.nmH (fun σ68 e57 => ?_)
            have h := h σ68 e57
            have r63 : hR σ68 = hR σ50 ∧ hL σ68 = hL σ50 := by rw [e57]; exact ⟨r62.1, r62.2⟩
            refine x_aload_n hC 2 rfl dX7_add_153 ?_
            have k115 : hK σ68 this = 8 := by rw [e57]; exact k113
            refine x_getR (n0 := this) hC (ci := 7) (T := TX7) (N := 36) (C := RX7) 22 k115 rfl rfl (by decide) rfl q711 dX7_add_154 ?_
            rw [r63.1]
            refine x_iload hC 0 rfl dX7_add_157 ?_
            refine x_iload hC 8 rfl dX7_add_159 ?_
            obtain ⟨m47, hm47, h⟩ := h
            rw [show rv ρ (hR σ50 this 22) = Value.ref (ρ m47) from by rw [hm47]; rfl]
            obtain ⟨k116, h⟩ := h
            obtain ⟨v58, h⟩ := h
            refine x_iast (a := m47) hC k116 (by rw [r63.2]; exact v58) dX7_add_161 ?_
            refine xJ.nmH (fun σ69 e58 => ?_)
            have h := h σ69 e58
            have r64 : hR σ69 = hR σ50 ∧ hL σ69 = hL σ50 := by rw [e58]; exact ⟨r63.1, r63.2⟩
            refine x_aload_n hC 2 rfl dX7_add_162 ?_
            have k117 : hK σ69 this = 8 := by rw [e58]; exact k115
            refine x_getR (n0 := this) hC (ci := 7) (T := TX7) (N := 36) (C := RX7) 23 k117 rfl rfl (by decide) rfl q712 dX7_add_163 ?_
            rw [r64.1]
            refine x_iload hC 0 rfl dX7_add_166 ?_
            refine x_iconst (v := 1) hC dX7_add_168 (by decide) ?_
            obtain ⟨m48, hm48, h⟩ := h
            rw [show rv ρ (hR σ50 this 23) = Value.ref (ρ m48) from by rw [hm48]; rfl]
            obtain ⟨k118, h⟩ := h
            obtain ⟨v59, h⟩ := h
            refine x_zast (a := m48) hC zb1 k118 (by rw [r64.2]; exact v59) dX7_add_169 ?_
            refine xJ.nmH (fun σ70 e59 => ?_)
            have h := h σ70 e59
            have r65 : hR σ70 = hR σ50 ∧ hL σ70 = hL σ50 := by rw [e59]; exact ⟨r64.1, r64.2⟩
            refine x_aload_n hC 2 rfl dX7_add_170 ?_
            refine x_dup hC (by first | rfl | exact rv_cat) dX7_add_171 ?_
            have k119 : hK σ70 this = 8 := by rw [e59]; exact k117
            refine x_getI (n0 := this) hC (ci := 7) (T := TX7) (N := 36) (C := RX7) 15 k119 rfl rfl (by decide) rfl q704 dX7_add_172 ?_
            refine x_iconst (v := 1) hC dX7_add_175 (by decide) ?_
            refine x_iadd hC dX7_add_176 ?_
            refine x_putI (n0 := this) hC (ci := 7) (T := TX7) (N := 36) (C := RX7) 15 k119 rfl rfl (by decide) rfl q704 rfl (tyX7_ok 15 (by decide)) dX7_add_177 ?_
            refine xJ.nmH (fun σ71 e60 => ?_)
            have h := h σ71 e60
            have r66 : hR σ71 = hR σ50 ∧ hL σ71 = hL σ50 := by rw [e60]; exact ⟨r65.1, r65.2⟩
            refine x_aload_n hC 2 rfl dX7_add_180 ?_
            refine x_iload hC 0 rfl dX7_add_181 ?_
            have k120 : hK σ71 this = 8 := by rw [e60]; exact k119
            refine x_callV (n0 := this) (as := [.int (hI σ62 this 15)]) (rest := []) hC (ci := 7) (r := (RX7, TX7, 36)) k120 rfl (fun l hl => m7_samples l hl G ρ this (hI σ62 this 15) σ71 _ h) q828 q830 s15 q3 q831 ⟨rfl, hd7_samples⟩ (by decide) ⟨(by decide), (by decide)⟩ (by first | exact Nat.le_of_ble_eq_true rfl | (simp [rv_cat]; done) | (simp (decide := true) [rv_cat, cat_ref, cat_int]; done)) rfl dX7_add_183 (fun E σ9 hx => False.elim hx) (fun v60 σ72 ρ12 hp12 hag12 => ?_)
            obtain ⟨e9, e8, h⟩ := hp12
            rw [e8, e9]
            refine xJ.nrm (k' := 0) (n' := 0) (pc' := 186) (st' := []) rfl rfl rfl rfl ?_
            refine x_iload hC 0 rfl dX7_add_186 ?_
            exact x_iret hC hr dX7_add_188 (by decide) (by decide) ⟨rfl, _, rfl, h⟩
          · have h := h.2 c14
            refine x_iconst (v := 0) hC dX7_add_92 (by decide) ?_
            exact x_iret hC hr dX7_add_93 (by decide) (by decide) ⟨rfl, _, rfl, h⟩
    · have h := h.2 c8
      refine x_iload hC 6 rfl dX7_add_20 ?_
      refine x_iconst (v := 0) hC dX7_add_22 (by decide) ?_
      refine x_sipush (v := 1000) hC dX7_add_23 (by decide) ?_
      refine x_callS (as := [.int p6, .int 0, .int 1000]) (rest := []) hC (fun l hl => m7_in l hl G ρ p6 0 1000 σ37 _ h) q809 q810 q3 q811 hd7_in (by decide) ⟨(by decide), (by decide)⟩ (by first | exact Nat.le_of_ble_eq_true rfl | (simp [rv_cat]; done) | (simp (decide := true) [rv_cat, cat_ref, cat_int]; done)) rfl dX7_add_26 (fun E σ9 hx => False.elim hx) (fun v61 σ73 ρ13 hp13 hag13 => ?_)
      obtain ⟨e9, r67, e8, h⟩ := hp13
      rw [e8, e9]
      refine xJ.nrm (k' := 0) (n' := 0) (pc' := 29) (st' := [.int r67]) rfl rfl rfl rfl ?_
      refine x_if_eq (tgt := 36) hC dX7_add_29 (by decide) (fun c15 => ?_) (fun c15 => ?_)
      · have h := h.1 c15
        refine x_iconst (v := 0) hC dX7_add_36 (by decide) ?_
        refine x_istore (L' := [(7, .int 0), (0, .ref (ρ this)), (1, .int p1), (2, .int p2), (3, .int p3), (4, .int p4), (5, .int p5), (6, .int p6)]) hC dX7_add_37 (by decide) (by first | rfl | simp (decide := true) [rv_cat, cat_ref, cat_int]) ?_
        refine x_aload_n hC 1 rfl dX7_add_39 ?_
        refine x_aload_n hC 1 rfl dX7_add_40 ?_
        refine x_iload_n hC 2 rfl dX7_add_41 ?_
        obtain ⟨k121, h⟩ := h
        refine x_callV (n0 := this) (as := [.int p1]) (rest := [.ref (ρ this)]) hC (ci := 7) (r := (RX7, TX7, 36)) k121 rfl (fun l hl => m7_isSubscription l hl G ρ this p1 σ73 _ h) q820 q822 s14 q3 q823 ⟨rfl, hd7_isSubscription⟩ (by decide) ⟨(by decide), (by decide)⟩ (by first | exact Nat.le_of_ble_eq_true rfl | (simp [rv_cat]; done) | (simp (decide := true) [rv_cat, cat_ref, cat_int]; done)) rfl dX7_add_42 (fun E σ9 hx => False.elim hx) (fun v62 σ74 ρ14 hp14 hag14 => ?_)
        obtain ⟨e9, r68, e8, h⟩ := hp14
        rw [e8, e9]
        refine xJ.nrm (k' := 0) (n' := 0) (pc' := 45) (st' := [.int r68, .ref (ρ this)]) rfl rfl rfl rfl ?_
        refine x_if_eq (tgt := 55) hC dX7_add_45 (by decide) (fun c16 => ?_) (fun c16 => ?_)
        · have h := h.1 c16
          refine x_iconst (v := 1) hC dX7_add_55 (by decide) ?_
          refine x_goto (tgt := 82) hC dX7_add_56 (by decide) ?_
          have k122 : hK σ74 this = 8 := (hag14 this (by rw [k121]; decide)).1.trans k121
          refine x_putI (n0 := this) hC (ci := 7) (T := TX7) (N := 36) (C := RX7) 0 k122 rfl rfl (by decide) rfl q689 rfl (tyX7_ok 0 (by decide)) dX7_add_82 ?_
          refine xJ.nmH (fun σ75 e61 => ?_)
          have h := h σ75 e61
          have r69 : hR σ75 = hR σ74 ∧ hL σ75 = hL σ74 := by rw [e61]; exact ⟨rfl, rfl⟩
          refine x_aload_n hC 1 rfl dX7_add_85 ?_
          have k123 : hK σ75 this = 8 := by rw [e61]; exact k122
          refine x_getI (n0 := this) hC (ci := 7) (T := TX7) (N := 36) (C := RX7) 0 k123 rfl rfl (by decide) rfl q689 dX7_add_86 ?_
          refine x_if_le (tgt := 94) hC dX7_add_89 (by decide) (fun c17 => ?_) (fun c17 => ?_)
          · have h := h.1 c17
            refine x_aload_n hC 1 rfl dX7_add_94 ?_
            refine x_getI (n0 := this) hC (ci := 7) (T := TX7) (N := 36) (C := RX7) 15 k123 rfl rfl (by decide) rfl q704 dX7_add_95 ?_
            refine x_istore (L' := [(8, .int (hI σ75 this 15)), (7, .int 0), (0, .ref (ρ this)), (1, .int p1), (2, .int p2), (3, .int p3), (4, .int p4), (5, .int p5), (6, .int p6)]) hC dX7_add_98 (by decide) (by first | rfl | simp (decide := true) [rv_cat, cat_ref, cat_int]) ?_
            refine x_aload_n hC 2 rfl dX7_add_100 ?_
            refine x_getR (n0 := this) hC (ci := 7) (T := TX7) (N := 36) (C := RX7) 16 k123 rfl rfl (by decide) rfl q705 dX7_add_101 ?_
            rw [r69.1]
            refine x_iload hC 0 rfl dX7_add_104 ?_
            refine x_iload_n hC 3 rfl dX7_add_106 ?_
            obtain ⟨m49, hm49, h⟩ := h
            rw [show rv ρ (hR σ74 this 16) = Value.ref (ρ m49) from by rw [hm49]; rfl]
            obtain ⟨k124, h⟩ := h
            obtain ⟨v63, h⟩ := h
            refine x_iast (a := m49) hC k124 (by rw [r69.2]; exact v63) dX7_add_107 ?_
            refine xJ.nmH (fun σ76 e62 => ?_)
            have h := h σ76 e62
            have r70 : hR σ76 = hR σ74 ∧ hL σ76 = hL σ74 := by rw [e62]; exact ⟨r69.1, r69.2⟩
            refine x_aload_n hC 2 rfl dX7_add_108 ?_
            have k125 : hK σ76 this = 8 := by rw [e62]; exact k123
            refine x_getR (n0 := this) hC (ci := 7) (T := TX7) (N := 36) (C := RX7) 17 k125 rfl rfl (by decide) rfl q706 dX7_add_109 ?_
            rw [r70.1]
            refine x_iload hC 0 rfl dX7_add_112 ?_
            refine x_iload_n hC 4 rfl dX7_add_114 ?_
            obtain ⟨m50, hm50, h⟩ := h
            rw [show rv ρ (hR σ74 this 17) = Value.ref (ρ m50) from by rw [hm50]; rfl]
            obtain ⟨k126, h⟩ := h
            obtain ⟨v64, h⟩ := h
            refine x_iast (a := m50) hC k126 (by rw [r70.2]; exact v64) dX7_add_115 ?_
            refine xJ.nmH (fun σ77 e63 => ?_)
            have h := h σ77 e63
            have r71 : hR σ77 = hR σ74 ∧ hL σ77 = hL σ74 := by rw [e63]; exact ⟨r70.1, r70.2⟩
            refine x_aload_n hC 2 rfl dX7_add_116 ?_
            have k127 : hK σ77 this = 8 := by rw [e63]; exact k125
            refine x_getR (n0 := this) hC (ci := 7) (T := TX7) (N := 36) (C := RX7) 18 k127 rfl rfl (by decide) rfl q707 dX7_add_117 ?_
            rw [r71.1]
            refine x_iload hC 0 rfl dX7_add_120 ?_
            refine x_aload_n hC 2 rfl dX7_add_122 ?_
            refine x_getI (n0 := this) hC (ci := 7) (T := TX7) (N := 36) (C := RX7) 1 k127 rfl rfl (by decide) rfl q690 dX7_add_123 ?_
            obtain ⟨m51, hm51, h⟩ := h
            rw [show rv ρ (hR σ74 this 18) = Value.ref (ρ m51) from by rw [hm51]; rfl]
            obtain ⟨k128, h⟩ := h
            obtain ⟨v65, h⟩ := h
            refine x_iast (a := m51) hC k128 (by rw [r71.2]; exact v65) dX7_add_126 ?_
            refine xJ.nmH (fun σ78 e64 => ?_)
            have h := h σ78 e64
            have r72 : hR σ78 = hR σ74 ∧ hL σ78 = hL σ74 := by rw [e64]; exact ⟨r71.1, r71.2⟩
            refine x_aload_n hC 2 rfl dX7_add_127 ?_
            have k129 : hK σ78 this = 8 := by rw [e64]; exact k127
            refine x_getR (n0 := this) hC (ci := 7) (T := TX7) (N := 36) (C := RX7) 19 k129 rfl rfl (by decide) rfl q708 dX7_add_128 ?_
            rw [r72.1]
            refine x_iload hC 0 rfl dX7_add_131 ?_
            refine x_iload_n hC 5 rfl dX7_add_133 ?_
            obtain ⟨m52, hm52, h⟩ := h
            rw [show rv ρ (hR σ74 this 19) = Value.ref (ρ m52) from by rw [hm52]; rfl]
            obtain ⟨k130, h⟩ := h
            obtain ⟨v66, h⟩ := h
            refine x_iast (a := m52) hC k130 (by rw [r72.2]; exact v66) dX7_add_134 ?_
            refine xJ.nmH (fun σ79 e65 => ?_)
            have h := h σ79 e65
            have r73 : hR σ79 = hR σ74 ∧ hL σ79 = hL σ74 := by rw [e65]; exact ⟨r72.1, r72.2⟩
            refine x_aload_n hC 2 rfl dX7_add_135 ?_
            have k131 : hK σ79 this = 8 := by rw [e65]; exact k129
            refine x_getR (n0 := this) hC (ci := 7) (T := TX7) (N := 36) (C := RX7) 20 k131 rfl rfl (by decide) rfl q709 dX7_add_136 ?_
            rw [r73.1]
            refine x_iload hC 0 rfl dX7_add_139 ?_
            refine x_iload hC 6 rfl dX7_add_141 ?_
            obtain ⟨m53, hm53, h⟩ := h
            rw [show rv ρ (hR σ74 this 20) = Value.ref (ρ m53) from by rw [hm53]; rfl]
            obtain ⟨k132, h⟩ := h
            obtain ⟨v67, h⟩ := h
            refine x_iast (a := m53) hC k132 (by rw [r73.2]; exact v67) dX7_add_143 ?_
            refine xJ.nmH (fun σ80 e66 => ?_)
            have h := h σ80 e66
            have r74 : hR σ80 = hR σ74 ∧ hL σ80 = hL σ74 := by rw [e66]; exact ⟨r73.1, r73.2⟩
            refine x_aload_n hC 2 rfl dX7_add_144 ?_
            have k133 : hK σ80 this = 8 := by rw [e66]; exact k131
            refine x_getR (n0 := this) hC (ci := 7) (T := TX7) (N := 36) (C := RX7) 21 k133 rfl rfl (by decide) rfl q710 dX7_add_145 ?_
            rw [r74.1]
            refine x_iload hC 0 rfl dX7_add_148 ?_
            refine x_iload hC 7 rfl dX7_add_150 ?_
            obtain ⟨m54, hm54, h⟩ := h
            rw [show rv ρ (hR σ74 this 21) = Value.ref (ρ m54) from by rw [hm54]; rfl]
            obtain ⟨k134, h⟩ := h
            obtain ⟨v68, h⟩ := h
            obtain ⟨zh7, h⟩ := h
            refine x_zast (a := m54) hC zh7 k134 (by rw [r74.2]; exact v68) dX7_add_152 ?_
            refine xJ.nmH (fun σ81 e67 => ?_)
            have h := h σ81 e67
            have r75 : hR σ81 = hR σ74 ∧ hL σ81 = hL σ74 := by rw [e67]; exact ⟨r74.1, r74.2⟩
            refine x_aload_n hC 2 rfl dX7_add_153 ?_
            have k135 : hK σ81 this = 8 := by rw [e67]; exact k133
            refine x_getR (n0 := this) hC (ci := 7) (T := TX7) (N := 36) (C := RX7) 22 k135 rfl rfl (by decide) rfl q711 dX7_add_154 ?_
            rw [r75.1]
            refine x_iload hC 0 rfl dX7_add_157 ?_
            refine x_iload hC 8 rfl dX7_add_159 ?_
            obtain ⟨m55, hm55, h⟩ := h
            rw [show rv ρ (hR σ74 this 22) = Value.ref (ρ m55) from by rw [hm55]; rfl]
            obtain ⟨k136, h⟩ := h
            obtain ⟨v69, h⟩ := h
            refine x_iast (a := m55) hC k136 (by rw [r75.2]; exact v69) dX7_add_161 ?_
            refine xJ.nmH (fun σ82 e68 => ?_)
            have h := h σ82 e68
            have r76 : hR σ82 = hR σ74 ∧ hL σ82 = hL σ74 := by rw [e68]; exact ⟨r75.1, r75.2⟩
            refine x_aload_n hC 2 rfl dX7_add_162 ?_
            have k137 : hK σ82 this = 8 := by rw [e68]; exact k135
            refine x_getR (n0 := this) hC (ci := 7) (T := TX7) (N := 36) (C := RX7) 23 k137 rfl rfl (by decide) rfl q712 dX7_add_163 ?_
            rw [r76.1]
            refine x_iload hC 0 rfl dX7_add_166 ?_
            refine x_iconst (v := 1) hC dX7_add_168 (by decide) ?_
            obtain ⟨m56, hm56, h⟩ := h
            rw [show rv ρ (hR σ74 this 23) = Value.ref (ρ m56) from by rw [hm56]; rfl]
            obtain ⟨k138, h⟩ := h
            obtain ⟨v70, h⟩ := h
            refine x_zast (a := m56) hC zb1 k138 (by rw [r76.2]; exact v70) dX7_add_169 ?_
            refine xJ.nmH (fun σ83 e69 => ?_)
            have h := h σ83 e69
            have r77 : hR σ83 = hR σ74 ∧ hL σ83 = hL σ74 := by rw [e69]; exact ⟨r76.1, r76.2⟩
            refine x_aload_n hC 2 rfl dX7_add_170 ?_
            refine x_dup hC (by first | rfl | exact rv_cat) dX7_add_171 ?_
            have k139 : hK σ83 this = 8 := by rw [e69]; exact k137
            refine x_getI (n0 := this) hC (ci := 7) (T := TX7) (N := 36) (C := RX7) 15 k139 rfl rfl (by decide) rfl q704 dX7_add_172 ?_
            refine x_iconst (v := 1) hC dX7_add_175 (by decide) ?_
            refine x_iadd hC dX7_add_176 ?_
            refine x_putI (n0 := this) hC (ci := 7) (T := TX7) (N := 36) (C := RX7) 15 k139 rfl rfl (by decide) rfl q704 rfl (tyX7_ok 15 (by decide)) dX7_add_177 ?_
            refine xJ.nmH (fun σ84 e70 => ?_)
            have h := h σ84 e70
            have r78 : hR σ84 = hR σ74 ∧ hL σ84 = hL σ74 := by rw [e70]; exact ⟨r77.1, r77.2⟩
            refine x_aload_n hC 2 rfl dX7_add_180 ?_
            refine x_iload hC 0 rfl dX7_add_181 ?_
            have k140 : hK σ84 this = 8 := by rw [e70]; exact k139
            refine x_callV (n0 := this) (as := [.int (hI σ75 this 15)]) (rest := []) hC (ci := 7) (r := (RX7, TX7, 36)) k140 rfl (fun l hl => m7_samples l hl G ρ this (hI σ75 this 15) σ84 _ h) q828 q830 s15 q3 q831 ⟨rfl, hd7_samples⟩ (by decide) ⟨(by decide), (by decide)⟩ (by first | exact Nat.le_of_ble_eq_true rfl | (simp [rv_cat]; done) | (simp (decide := true) [rv_cat, cat_ref, cat_int]; done)) rfl dX7_add_183 (fun E σ9 hx => False.elim hx) (fun v71 σ85 ρ15 hp15 hag15 => ?_)
            obtain ⟨e9, e8, h⟩ := hp15
            rw [e8, e9]
            refine xJ.nrm (k' := 0) (n' := 0) (pc' := 186) (st' := []) rfl rfl rfl rfl ?_
            refine x_iload hC 0 rfl dX7_add_186 ?_
            exact x_iret hC hr dX7_add_188 (by decide) (by decide) ⟨rfl, _, rfl, h⟩
          · have h := h.2 c17
            refine x_iconst (v := 0) hC dX7_add_92 (by decide) ?_
            exact x_iret hC hr dX7_add_93 (by decide) (by decide) ⟨rfl, _, rfl, h⟩
        · have h := h.2 c16
          refine x_iload_n hC 3 rfl dX7_add_48 ?_
          refine x_callS (as := [.int p2]) (rest := [.ref (ρ this)]) hC (fun l hl => m7_isNode l hl G ρ p2 σ74 _ h) q806 q807 q3 q808 hd7_isNode (by decide) ⟨(by decide), (by decide)⟩ (by first | exact Nat.le_of_ble_eq_true rfl | (simp [rv_cat]; done) | (simp (decide := true) [rv_cat, cat_ref, cat_int]; done)) rfl dX7_add_49 (fun E σ9 hx => False.elim hx) (fun v72 σ86 ρ16 hp16 hag16 => ?_)
          obtain ⟨e9, r79, e8, h⟩ := hp16
          rw [e8, e9]
          refine xJ.nrm (k' := 0) (n' := 0) (pc' := 52) (st' := [.int r79, .ref (ρ this)]) rfl rfl rfl rfl ?_
          refine x_if_ne (tgt := 59) hC dX7_add_52 (by decide) (fun c18 => ?_) (fun c18 => ?_)
          · have h := h.1 c18
            refine x_iload hC 0 rfl dX7_add_59 ?_
            refine x_if_ne (tgt := 68) hC dX7_add_61 (by decide) (fun c19 => absurd c19 (by decide)) (fun _ => ?_)
            refine x_iconst (v := 2) hC dX7_add_64 (by decide) ?_
            refine x_goto (tgt := 82) hC dX7_add_65 (by decide) ?_
            have k141 : hK σ74 this = 8 := (hag14 this (by rw [k121]; decide)).1.trans k121
            have k142 : hK σ86 this = 8 := (hag16 this (by rw [k141]; decide)).1.trans k141
            refine x_putI (n0 := this) hC (ci := 7) (T := TX7) (N := 36) (C := RX7) 0 k142 rfl rfl (by decide) rfl q689 rfl (tyX7_ok 0 (by decide)) dX7_add_82 ?_
            refine xJ.nmH (fun σ87 e71 => ?_)
            have h := h σ87 e71
            have r80 : hR σ87 = hR σ86 ∧ hL σ87 = hL σ86 := by rw [e71]; exact ⟨rfl, rfl⟩
            refine x_aload_n hC 1 rfl dX7_add_85 ?_
            have k143 : hK σ87 this = 8 := by rw [e71]; exact k142
            refine x_getI (n0 := this) hC (ci := 7) (T := TX7) (N := 36) (C := RX7) 0 k143 rfl rfl (by decide) rfl q689 dX7_add_86 ?_
            refine x_if_le (tgt := 94) hC dX7_add_89 (by decide) (fun c20 => ?_) (fun c20 => ?_)
            · have h := h.1 c20
              refine x_aload_n hC 1 rfl dX7_add_94 ?_
              refine x_getI (n0 := this) hC (ci := 7) (T := TX7) (N := 36) (C := RX7) 15 k143 rfl rfl (by decide) rfl q704 dX7_add_95 ?_
              refine x_istore (L' := [(8, .int (hI σ87 this 15)), (7, .int 0), (0, .ref (ρ this)), (1, .int p1), (2, .int p2), (3, .int p3), (4, .int p4), (5, .int p5), (6, .int p6)]) hC dX7_add_98 (by decide) (by first | rfl | simp (decide := true) [rv_cat, cat_ref, cat_int]) ?_
              refine x_aload_n hC 2 rfl dX7_add_100 ?_
              refine x_getR (n0 := this) hC (ci := 7) (T := TX7) (N := 36) (C := RX7) 16 k143 rfl rfl (by decide) rfl q705 dX7_add_101 ?_
              rw [r80.1]
              refine x_iload hC 0 rfl dX7_add_104 ?_
              refine x_iload_n hC 3 rfl dX7_add_106 ?_
              obtain ⟨m57, hm57, h⟩ := h
              rw [show rv ρ (hR σ86 this 16) = Value.ref (ρ m57) from by rw [hm57]; rfl]
              obtain ⟨k144, h⟩ := h
              obtain ⟨v73, h⟩ := h
              refine x_iast (a := m57) hC k144 (by rw [r80.2]; exact v73) dX7_add_107 ?_
              refine xJ.nmH (fun σ88 e72 => ?_)
              have h := h σ88 e72
              have r81 : hR σ88 = hR σ86 ∧ hL σ88 = hL σ86 := by rw [e72]; exact ⟨r80.1, r80.2⟩
              refine x_aload_n hC 2 rfl dX7_add_108 ?_
              have k145 : hK σ88 this = 8 := by rw [e72]; exact k143
              refine x_getR (n0 := this) hC (ci := 7) (T := TX7) (N := 36) (C := RX7) 17 k145 rfl rfl (by decide) rfl q706 dX7_add_109 ?_
              rw [r81.1]
              refine x_iload hC 0 rfl dX7_add_112 ?_
              refine x_iload_n hC 4 rfl dX7_add_114 ?_
              obtain ⟨m58, hm58, h⟩ := h
              rw [show rv ρ (hR σ86 this 17) = Value.ref (ρ m58) from by rw [hm58]; rfl]
              obtain ⟨k146, h⟩ := h
              obtain ⟨v74, h⟩ := h
              refine x_iast (a := m58) hC k146 (by rw [r81.2]; exact v74) dX7_add_115 ?_
              refine xJ.nmH (fun σ89 e73 => ?_)
              have h := h σ89 e73
              have r82 : hR σ89 = hR σ86 ∧ hL σ89 = hL σ86 := by rw [e73]; exact ⟨r81.1, r81.2⟩
              refine x_aload_n hC 2 rfl dX7_add_116 ?_
              have k147 : hK σ89 this = 8 := by rw [e73]; exact k145
              refine x_getR (n0 := this) hC (ci := 7) (T := TX7) (N := 36) (C := RX7) 18 k147 rfl rfl (by decide) rfl q707 dX7_add_117 ?_
              rw [r82.1]
              refine x_iload hC 0 rfl dX7_add_120 ?_
              refine x_aload_n hC 2 rfl dX7_add_122 ?_
              refine x_getI (n0 := this) hC (ci := 7) (T := TX7) (N := 36) (C := RX7) 1 k147 rfl rfl (by decide) rfl q690 dX7_add_123 ?_
              obtain ⟨m59, hm59, h⟩ := h
              rw [show rv ρ (hR σ86 this 18) = Value.ref (ρ m59) from by rw [hm59]; rfl]
              obtain ⟨k148, h⟩ := h
              obtain ⟨v75, h⟩ := h
              refine x_iast (a := m59) hC k148 (by rw [r82.2]; exact v75) dX7_add_126 ?_
              refine xJ.nmH (fun σ90 e74 => ?_)
              have h := h σ90 e74
              have r83 : hR σ90 = hR σ86 ∧ hL σ90 = hL σ86 := by rw [e74]; exact ⟨r82.1, r82.2⟩
              refine x_aload_n hC 2 rfl dX7_add_127 ?_
              have k149 : hK σ90 this = 8 := by rw [e74]; exact k147
              refine x_getR (n0 := this) hC (ci := 7) (T := TX7) (N := 36) (C := RX7) 19 k149 rfl rfl (by decide) rfl q708 dX7_add_128 ?_
              rw [r83.1]
              refine x_iload hC 0 rfl dX7_add_131 ?_
              refine x_iload_n hC 5 rfl dX7_add_133 ?_
              obtain ⟨m60, hm60, h⟩ := h
              rw [show rv ρ (hR σ86 this 19) = Value.ref (ρ m60) from by rw [hm60]; rfl]
              obtain ⟨k150, h⟩ := h
              obtain ⟨v76, h⟩ := h
              refine x_iast (a := m60) hC k150 (by rw [r83.2]; exact v76) dX7_add_134 ?_
              refine xJ.nmH (fun σ91 e75 => ?_)
              have h := h σ91 e75
              have r84 : hR σ91 = hR σ86 ∧ hL σ91 = hL σ86 := by rw [e75]; exact ⟨r83.1, r83.2⟩
              refine x_aload_n hC 2 rfl dX7_add_135 ?_
              have k151 : hK σ91 this = 8 := by rw [e75]; exact k149
              refine x_getR (n0 := this) hC (ci := 7) (T := TX7) (N := 36) (C := RX7) 20 k151 rfl rfl (by decide) rfl q709 dX7_add_136 ?_
              rw [r84.1]
              refine x_iload hC 0 rfl dX7_add_139 ?_
              refine x_iload hC 6 rfl dX7_add_141 ?_
              obtain ⟨m61, hm61, h⟩ := h
              rw [show rv ρ (hR σ86 this 20) = Value.ref (ρ m61) from by rw [hm61]; rfl]
              obtain ⟨k152, h⟩ := h
              obtain ⟨v77, h⟩ := h
              refine x_iast (a := m61) hC k152 (by rw [r84.2]; exact v77) dX7_add_143 ?_
              refine xJ.nmH (fun σ92 e76 => ?_)
              have h := h σ92 e76
              have r85 : hR σ92 = hR σ86 ∧ hL σ92 = hL σ86 := by rw [e76]; exact ⟨r84.1, r84.2⟩
              refine x_aload_n hC 2 rfl dX7_add_144 ?_
              have k153 : hK σ92 this = 8 := by rw [e76]; exact k151
              refine x_getR (n0 := this) hC (ci := 7) (T := TX7) (N := 36) (C := RX7) 21 k153 rfl rfl (by decide) rfl q710 dX7_add_145 ?_
              rw [r85.1]
              refine x_iload hC 0 rfl dX7_add_148 ?_
              refine x_iload hC 7 rfl dX7_add_150 ?_
              obtain ⟨m62, hm62, h⟩ := h
              rw [show rv ρ (hR σ86 this 21) = Value.ref (ρ m62) from by rw [hm62]; rfl]
              obtain ⟨k154, h⟩ := h
              obtain ⟨v78, h⟩ := h
              obtain ⟨zh8, h⟩ := h
              refine x_zast (a := m62) hC zh8 k154 (by rw [r85.2]; exact v78) dX7_add_152 ?_
              refine xJ.nmH (fun σ93 e77 => ?_)
              have h := h σ93 e77
              have r86 : hR σ93 = hR σ86 ∧ hL σ93 = hL σ86 := by rw [e77]; exact ⟨r85.1, r85.2⟩
              refine x_aload_n hC 2 rfl dX7_add_153 ?_
              have k155 : hK σ93 this = 8 := by rw [e77]; exact k153
              refine x_getR (n0 := this) hC (ci := 7) (T := TX7) (N := 36) (C := RX7) 22 k155 rfl rfl (by decide) rfl q711 dX7_add_154 ?_
              rw [r86.1]
              refine x_iload hC 0 rfl dX7_add_157 ?_
              refine x_iload hC 8 rfl dX7_add_159 ?_
              obtain ⟨m63, hm63, h⟩ := h
              rw [show rv ρ (hR σ86 this 22) = Value.ref (ρ m63) from by rw [hm63]; rfl]
              obtain ⟨k156, h⟩ := h
              obtain ⟨v79, h⟩ := h
              refine x_iast (a := m63) hC k156 (by rw [r86.2]; exact v79) dX7_add_161 ?_
              refine xJ.nmH (fun σ94 e78 => ?_)
              have h := h σ94 e78
              have r87 : hR σ94 = hR σ86 ∧ hL σ94 = hL σ86 := by rw [e78]; exact ⟨r86.1, r86.2⟩
              refine x_aload_n hC 2 rfl dX7_add_162 ?_
              have k157 : hK σ94 this = 8 := by rw [e78]; exact k155
              refine x_getR (n0 := this) hC (ci := 7) (T := TX7) (N := 36) (C := RX7) 23 k157 rfl rfl (by decide) rfl q712 dX7_add_163 ?_
              rw [r87.1]
              refine x_iload hC 0 rfl dX7_add_166 ?_
              refine x_iconst (v := 1) hC dX7_add_168 (by decide) ?_
              obtain ⟨m64, hm64, h⟩ := h
              rw [show rv ρ (hR σ86 this 23) = Value.ref (ρ m64) from by rw [hm64]; rfl]
              obtain ⟨k158, h⟩ := h
              obtain ⟨v80, h⟩ := h
              refine x_zast (a := m64) hC zb1 k158 (by rw [r87.2]; exact v80) dX7_add_169 ?_
              refine xJ.nmH (fun σ95 e79 => ?_)
              have h := h σ95 e79
              have r88 : hR σ95 = hR σ86 ∧ hL σ95 = hL σ86 := by rw [e79]; exact ⟨r87.1, r87.2⟩
              refine x_aload_n hC 2 rfl dX7_add_170 ?_
              refine x_dup hC (by first | rfl | exact rv_cat) dX7_add_171 ?_
              have k159 : hK σ95 this = 8 := by rw [e79]; exact k157
              refine x_getI (n0 := this) hC (ci := 7) (T := TX7) (N := 36) (C := RX7) 15 k159 rfl rfl (by decide) rfl q704 dX7_add_172 ?_
              refine x_iconst (v := 1) hC dX7_add_175 (by decide) ?_
              refine x_iadd hC dX7_add_176 ?_
              refine x_putI (n0 := this) hC (ci := 7) (T := TX7) (N := 36) (C := RX7) 15 k159 rfl rfl (by decide) rfl q704 rfl (tyX7_ok 15 (by decide)) dX7_add_177 ?_
              refine xJ.nmH (fun σ96 e80 => ?_)
              have h := h σ96 e80
              have r89 : hR σ96 = hR σ86 ∧ hL σ96 = hL σ86 := by rw [e80]; exact ⟨r88.1, r88.2⟩
              refine x_aload_n hC 2 rfl dX7_add_180 ?_
              refine x_iload hC 0 rfl dX7_add_181 ?_
              have k160 : hK σ96 this = 8 := by rw [e80]; exact k159
              refine x_callV (n0 := this) (as := [.int (hI σ87 this 15)]) (rest := []) hC (ci := 7) (r := (RX7, TX7, 36)) k160 rfl (fun l hl => m7_samples l hl G ρ this (hI σ87 this 15) σ96 _ h) q828 q830 s15 q3 q831 ⟨rfl, hd7_samples⟩ (by decide) ⟨(by decide), (by decide)⟩ (by first | exact Nat.le_of_ble_eq_true rfl | (simp [rv_cat]; done) | (simp (decide := true) [rv_cat, cat_ref, cat_int]; done)) rfl dX7_add_183 (fun E σ9 hx => False.elim hx) (fun v81 σ97 ρ17 hp17 hag17 => ?_)
              obtain ⟨e9, e8, h⟩ := hp17
              rw [e8, e9]
              refine xJ.nrm (k' := 0) (n' := 0) (pc' := 186) (st' := []) rfl rfl rfl rfl ?_
              refine x_iload hC 0 rfl dX7_add_186 ?_
              exact x_iret hC hr dX7_add_188 (by decide) (by decide) ⟨rfl, _, rfl, h⟩
            · have h := h.2 c20
              refine x_iconst (v := 0) hC dX7_add_92 (by decide) ?_
              exact x_iret hC hr dX7_add_93 (by decide) (by decide) ⟨rfl, _, rfl, h⟩
          · have h := h.2 c18
            refine x_iconst (v := 1) hC dX7_add_55 (by decide) ?_
            refine x_goto (tgt := 82) hC dX7_add_56 (by decide) ?_
            have k161 : hK σ74 this = 8 := (hag14 this (by rw [k121]; decide)).1.trans k121
            have k162 : hK σ86 this = 8 := (hag16 this (by rw [k161]; decide)).1.trans k161
            refine x_putI (n0 := this) hC (ci := 7) (T := TX7) (N := 36) (C := RX7) 0 k162 rfl rfl (by decide) rfl q689 rfl (tyX7_ok 0 (by decide)) dX7_add_82 ?_
            refine xJ.nmH (fun σ98 e81 => ?_)
            have h := h σ98 e81
            have r90 : hR σ98 = hR σ86 ∧ hL σ98 = hL σ86 := by rw [e81]; exact ⟨rfl, rfl⟩
            refine x_aload_n hC 1 rfl dX7_add_85 ?_
            have k163 : hK σ98 this = 8 := by rw [e81]; exact k162
            refine x_getI (n0 := this) hC (ci := 7) (T := TX7) (N := 36) (C := RX7) 0 k163 rfl rfl (by decide) rfl q689 dX7_add_86 ?_
            refine x_if_le (tgt := 94) hC dX7_add_89 (by decide) (fun c21 => ?_) (fun c21 => ?_)
            · have h := h.1 c21
              refine x_aload_n hC 1 rfl dX7_add_94 ?_
              refine x_getI (n0 := this) hC (ci := 7) (T := TX7) (N := 36) (C := RX7) 15 k163 rfl rfl (by decide) rfl q704 dX7_add_95 ?_
              refine x_istore (L' := [(8, .int (hI σ98 this 15)), (7, .int 0), (0, .ref (ρ this)), (1, .int p1), (2, .int p2), (3, .int p3), (4, .int p4), (5, .int p5), (6, .int p6)]) hC dX7_add_98 (by decide) (by first | rfl | simp (decide := true) [rv_cat, cat_ref, cat_int]) ?_
              refine x_aload_n hC 2 rfl dX7_add_100 ?_
              refine x_getR (n0 := this) hC (ci := 7) (T := TX7) (N := 36) (C := RX7) 16 k163 rfl rfl (by decide) rfl q705 dX7_add_101 ?_
              rw [r90.1]
              refine x_iload hC 0 rfl dX7_add_104 ?_
              refine x_iload_n hC 3 rfl dX7_add_106 ?_
              obtain ⟨m65, hm65, h⟩ := h
              rw [show rv ρ (hR σ86 this 16) = Value.ref (ρ m65) from by rw [hm65]; rfl]
              obtain ⟨k164, h⟩ := h
              obtain ⟨v82, h⟩ := h
              refine x_iast (a := m65) hC k164 (by rw [r90.2]; exact v82) dX7_add_107 ?_
              refine xJ.nmH (fun σ99 e82 => ?_)
              have h := h σ99 e82
              have r91 : hR σ99 = hR σ86 ∧ hL σ99 = hL σ86 := by rw [e82]; exact ⟨r90.1, r90.2⟩
              refine x_aload_n hC 2 rfl dX7_add_108 ?_
              have k165 : hK σ99 this = 8 := by rw [e82]; exact k163
              refine x_getR (n0 := this) hC (ci := 7) (T := TX7) (N := 36) (C := RX7) 17 k165 rfl rfl (by decide) rfl q706 dX7_add_109 ?_
              rw [r91.1]
              refine x_iload hC 0 rfl dX7_add_112 ?_
              refine x_iload_n hC 4 rfl dX7_add_114 ?_
              obtain ⟨m66, hm66, h⟩ := h
              rw [show rv ρ (hR σ86 this 17) = Value.ref (ρ m66) from by rw [hm66]; rfl]
              obtain ⟨k166, h⟩ := h
              obtain ⟨v83, h⟩ := h
              refine x_iast (a := m66) hC k166 (by rw [r91.2]; exact v83) dX7_add_115 ?_
              refine xJ.nmH (fun σ100 e83 => ?_)
              have h := h σ100 e83
              have r92 : hR σ100 = hR σ86 ∧ hL σ100 = hL σ86 := by rw [e83]; exact ⟨r91.1, r91.2⟩
              refine x_aload_n hC 2 rfl dX7_add_116 ?_
              have k167 : hK σ100 this = 8 := by rw [e83]; exact k165
              refine x_getR (n0 := this) hC (ci := 7) (T := TX7) (N := 36) (C := RX7) 18 k167 rfl rfl (by decide) rfl q707 dX7_add_117 ?_
              rw [r92.1]
              refine x_iload hC 0 rfl dX7_add_120 ?_
              refine x_aload_n hC 2 rfl dX7_add_122 ?_
              refine x_getI (n0 := this) hC (ci := 7) (T := TX7) (N := 36) (C := RX7) 1 k167 rfl rfl (by decide) rfl q690 dX7_add_123 ?_
              obtain ⟨m67, hm67, h⟩ := h
              rw [show rv ρ (hR σ86 this 18) = Value.ref (ρ m67) from by rw [hm67]; rfl]
              obtain ⟨k168, h⟩ := h
              obtain ⟨v84, h⟩ := h
              refine x_iast (a := m67) hC k168 (by rw [r92.2]; exact v84) dX7_add_126 ?_
              refine xJ.nmH (fun σ101 e84 => ?_)
              have h := h σ101 e84
              have r93 : hR σ101 = hR σ86 ∧ hL σ101 = hL σ86 := by rw [e84]; exact ⟨r92.1, r92.2⟩
              refine x_aload_n hC 2 rfl dX7_add_127 ?_
              have k169 : hK σ101 this = 8 := by rw [e84]; exact k167
              refine x_getR (n0 := this) hC (ci := 7) (T := TX7) (N := 36) (C := RX7) 19 k169 rfl rfl (by decide) rfl q708 dX7_add_128 ?_
              rw [r93.1]
              refine x_iload hC 0 rfl dX7_add_131 ?_
              refine x_iload_n hC 5 rfl dX7_add_133 ?_
              obtain ⟨m68, hm68, h⟩ := h
              rw [show rv ρ (hR σ86 this 19) = Value.ref (ρ m68) from by rw [hm68]; rfl]
              obtain ⟨k170, h⟩ := h
              obtain ⟨v85, h⟩ := h
              refine x_iast (a := m68) hC k170 (by rw [r93.2]; exact v85) dX7_add_134 ?_
              refine xJ.nmH (fun σ102 e85 => ?_)
              have h := h σ102 e85
              have r94 : hR σ102 = hR σ86 ∧ hL σ102 = hL σ86 := by rw [e85]; exact ⟨r93.1, r93.2⟩
              refine x_aload_n hC 2 rfl dX7_add_135 ?_
              have k171 : hK σ102 this = 8 := by rw [e85]; exact k169
              refine x_getR (n0 := this) hC (ci := 7) (T := TX7) (N := 36) (C := RX7) 20 k171 rfl rfl (by decide) rfl q709 dX7_add_136 ?_
              rw [r94.1]
              refine x_iload hC 0 rfl dX7_add_139 ?_
              refine x_iload hC 6 rfl dX7_add_141 ?_
              obtain ⟨m69, hm69, h⟩ := h
              rw [show rv ρ (hR σ86 this 20) = Value.ref (ρ m69) from by rw [hm69]; rfl]
              obtain ⟨k172, h⟩ := h
              obtain ⟨v86, h⟩ := h
              refine x_iast (a := m69) hC k172 (by rw [r94.2]; exact v86) dX7_add_143 ?_
              refine xJ.nmH (fun σ103 e86 => ?_)
              have h := h σ103 e86
              have r95 : hR σ103 = hR σ86 ∧ hL σ103 = hL σ86 := by rw [e86]; exact ⟨r94.1, r94.2⟩
              refine x_aload_n hC 2 rfl dX7_add_144 ?_
              have k173 : hK σ103 this = 8 := by rw [e86]; exact k171
              refine x_getR (n0 := this) hC (ci := 7) (T := TX7) (N := 36) (C := RX7) 21 k173 rfl rfl (by decide) rfl q710 dX7_add_145 ?_
              rw [r95.1]
              refine x_iload hC 0 rfl dX7_add_148 ?_
              refine x_iload hC 7 rfl dX7_add_150 ?_
              obtain ⟨m70, hm70, h⟩ := h
              rw [show rv ρ (hR σ86 this 21) = Value.ref (ρ m70) from by rw [hm70]; rfl]
              obtain ⟨k174, h⟩ := h
              obtain ⟨v87, h⟩ := h
              obtain ⟨zh9, h⟩ := h
              refine x_zast (a := m70) hC zh9 k174 (by rw [r95.2]; exact v87) dX7_add_152 ?_
              refine xJ.nmH (fun σ104 e87 => ?_)
              have h := h σ104 e87
              have r96 : hR σ104 = hR σ86 ∧ hL σ104 = hL σ86 := by rw [e87]; exact ⟨r95.1, r95.2⟩
              refine x_aload_n hC 2 rfl dX7_add_153 ?_
              have k175 : hK σ104 this = 8 := by rw [e87]; exact k173
              refine x_getR (n0 := this) hC (ci := 7) (T := TX7) (N := 36) (C := RX7) 22 k175 rfl rfl (by decide) rfl q711 dX7_add_154 ?_
              rw [r96.1]
              refine x_iload hC 0 rfl dX7_add_157 ?_
              refine x_iload hC 8 rfl dX7_add_159 ?_
              obtain ⟨m71, hm71, h⟩ := h
              rw [show rv ρ (hR σ86 this 22) = Value.ref (ρ m71) from by rw [hm71]; rfl]
              obtain ⟨k176, h⟩ := h
              obtain ⟨v88, h⟩ := h
              refine x_iast (a := m71) hC k176 (by rw [r96.2]; exact v88) dX7_add_161 ?_
              refine xJ.nmH (fun σ105 e88 => ?_)
              have h := h σ105 e88
              have r97 : hR σ105 = hR σ86 ∧ hL σ105 = hL σ86 := by rw [e88]; exact ⟨r96.1, r96.2⟩
              refine x_aload_n hC 2 rfl dX7_add_162 ?_
              have k177 : hK σ105 this = 8 := by rw [e88]; exact k175
              refine x_getR (n0 := this) hC (ci := 7) (T := TX7) (N := 36) (C := RX7) 23 k177 rfl rfl (by decide) rfl q712 dX7_add_163 ?_
              rw [r97.1]
              refine x_iload hC 0 rfl dX7_add_166 ?_
              refine x_iconst (v := 1) hC dX7_add_168 (by decide) ?_
              obtain ⟨m72, hm72, h⟩ := h
              rw [show rv ρ (hR σ86 this 23) = Value.ref (ρ m72) from by rw [hm72]; rfl]
              obtain ⟨k178, h⟩ := h
              obtain ⟨v89, h⟩ := h
              refine x_zast (a := m72) hC zb1 k178 (by rw [r97.2]; exact v89) dX7_add_169 ?_
              refine xJ.nmH (fun σ106 e89 => ?_)
              have h := h σ106 e89
              have r98 : hR σ106 = hR σ86 ∧ hL σ106 = hL σ86 := by rw [e89]; exact ⟨r97.1, r97.2⟩
              refine x_aload_n hC 2 rfl dX7_add_170 ?_
              refine x_dup hC (by first | rfl | exact rv_cat) dX7_add_171 ?_
              have k179 : hK σ106 this = 8 := by rw [e89]; exact k177
              refine x_getI (n0 := this) hC (ci := 7) (T := TX7) (N := 36) (C := RX7) 15 k179 rfl rfl (by decide) rfl q704 dX7_add_172 ?_
              refine x_iconst (v := 1) hC dX7_add_175 (by decide) ?_
              refine x_iadd hC dX7_add_176 ?_
              refine x_putI (n0 := this) hC (ci := 7) (T := TX7) (N := 36) (C := RX7) 15 k179 rfl rfl (by decide) rfl q704 rfl (tyX7_ok 15 (by decide)) dX7_add_177 ?_
              refine xJ.nmH (fun σ107 e90 => ?_)
              have h := h σ107 e90
              have r99 : hR σ107 = hR σ86 ∧ hL σ107 = hL σ86 := by rw [e90]; exact ⟨r98.1, r98.2⟩
              refine x_aload_n hC 2 rfl dX7_add_180 ?_
              refine x_iload hC 0 rfl dX7_add_181 ?_
              have k180 : hK σ107 this = 8 := by rw [e90]; exact k179
              refine x_callV (n0 := this) (as := [.int (hI σ98 this 15)]) (rest := []) hC (ci := 7) (r := (RX7, TX7, 36)) k180 rfl (fun l hl => m7_samples l hl G ρ this (hI σ98 this 15) σ107 _ h) q828 q830 s15 q3 q831 ⟨rfl, hd7_samples⟩ (by decide) ⟨(by decide), (by decide)⟩ (by first | exact Nat.le_of_ble_eq_true rfl | (simp [rv_cat]; done) | (simp (decide := true) [rv_cat, cat_ref, cat_int]; done)) rfl dX7_add_183 (fun E σ9 hx => False.elim hx) (fun v90 σ108 ρ18 hp18 hag18 => ?_)
              obtain ⟨e9, e8, h⟩ := hp18
              rw [e8, e9]
              refine xJ.nrm (k' := 0) (n' := 0) (pc' := 186) (st' := []) rfl rfl rfl rfl ?_
              refine x_iload hC 0 rfl dX7_add_186 ?_
              exact x_iret hC hr dX7_add_188 (by decide) (by decide) ⟨rfl, _, rfl, h⟩
            · have h := h.2 c21
              refine x_iconst (v := 0) hC dX7_add_92 (by decide) ?_
              exact x_iret hC hr dX7_add_93 (by decide) (by decide) ⟨rfl, _, rfl, h⟩
      · have h := h.2 c15
        refine x_iconst (v := 1) hC dX7_add_32 (by decide) ?_
        refine x_goto (tgt := 37) hC dX7_add_33 (by decide) ?_
        refine x_istore (L' := [(7, .int 1), (0, .ref (ρ this)), (1, .int p1), (2, .int p2), (3, .int p3), (4, .int p4), (5, .int p5), (6, .int p6)]) hC dX7_add_37 (by decide) (by first | rfl | simp (decide := true) [rv_cat, cat_ref, cat_int]) ?_
        refine x_aload_n hC 1 rfl dX7_add_39 ?_
        refine x_aload_n hC 1 rfl dX7_add_40 ?_
        refine x_iload_n hC 2 rfl dX7_add_41 ?_
        obtain ⟨k181, h⟩ := h
        refine x_callV (n0 := this) (as := [.int p1]) (rest := [.ref (ρ this)]) hC (ci := 7) (r := (RX7, TX7, 36)) k181 rfl (fun l hl => m7_isSubscription l hl G ρ this p1 σ73 _ h) q820 q822 s14 q3 q823 ⟨rfl, hd7_isSubscription⟩ (by decide) ⟨(by decide), (by decide)⟩ (by first | exact Nat.le_of_ble_eq_true rfl | (simp [rv_cat]; done) | (simp (decide := true) [rv_cat, cat_ref, cat_int]; done)) rfl dX7_add_42 (fun E σ9 hx => False.elim hx) (fun v91 σ109 ρ19 hp19 hag19 => ?_)
        obtain ⟨e9, r100, e8, h⟩ := hp19
        rw [e8, e9]
        refine xJ.nrm (k' := 0) (n' := 0) (pc' := 45) (st' := [.int r100, .ref (ρ this)]) rfl rfl rfl rfl ?_
        refine x_if_eq (tgt := 55) hC dX7_add_45 (by decide) (fun c22 => ?_) (fun c22 => ?_)
        · have h := h.1 c22
          refine x_iconst (v := 1) hC dX7_add_55 (by decide) ?_
          refine x_goto (tgt := 82) hC dX7_add_56 (by decide) ?_
          have k182 : hK σ109 this = 8 := (hag19 this (by rw [k181]; decide)).1.trans k181
          refine x_putI (n0 := this) hC (ci := 7) (T := TX7) (N := 36) (C := RX7) 0 k182 rfl rfl (by decide) rfl q689 rfl (tyX7_ok 0 (by decide)) dX7_add_82 ?_
          refine xJ.nmH (fun σ110 e91 => ?_)
          have h := h σ110 e91
          have r101 : hR σ110 = hR σ109 ∧ hL σ110 = hL σ109 := by rw [e91]; exact ⟨rfl, rfl⟩
          refine x_aload_n hC 1 rfl dX7_add_85 ?_
          have k183 : hK σ110 this = 8 := by rw [e91]; exact k182
          refine x_getI (n0 := this) hC (ci := 7) (T := TX7) (N := 36) (C := RX7) 0 k183 rfl rfl (by decide) rfl q689 dX7_add_86 ?_
          refine x_if_le (tgt := 94) hC dX7_add_89 (by decide) (fun c23 => ?_) (fun c23 => ?_)
          · have h := h.1 c23
            refine x_aload_n hC 1 rfl dX7_add_94 ?_
            refine x_getI (n0 := this) hC (ci := 7) (T := TX7) (N := 36) (C := RX7) 15 k183 rfl rfl (by decide) rfl q704 dX7_add_95 ?_
            refine x_istore (L' := [(8, .int (hI σ110 this 15)), (7, .int 1), (0, .ref (ρ this)), (1, .int p1), (2, .int p2), (3, .int p3), (4, .int p4), (5, .int p5), (6, .int p6)]) hC dX7_add_98 (by decide) (by first | rfl | simp (decide := true) [rv_cat, cat_ref, cat_int]) ?_
            refine x_aload_n hC 2 rfl dX7_add_100 ?_
            refine x_getR (n0 := this) hC (ci := 7) (T := TX7) (N := 36) (C := RX7) 16 k183 rfl rfl (by decide) rfl q705 dX7_add_101 ?_
            rw [r101.1]
            refine x_iload hC 0 rfl dX7_add_104 ?_
            refine x_iload_n hC 3 rfl dX7_add_106 ?_
            obtain ⟨m73, hm73, h⟩ := h
            rw [show rv ρ (hR σ109 this 16) = Value.ref (ρ m73) from by rw [hm73]; rfl]
            obtain ⟨k184, h⟩ := h
            obtain ⟨v92, h⟩ := h
            refine x_iast (a := m73) hC k184 (by rw [r101.2]; exact v92) dX7_add_107 ?_
            refine xJ.nmH (fun σ111 e92 => ?_)
            have h := h σ111 e92
            have r102 : hR σ111 = hR σ109 ∧ hL σ111 = hL σ109 := by rw [e92]; exact ⟨r101.1, r101.2⟩
            refine x_aload_n hC 2 rfl dX7_add_108 ?_
            have k185 : hK σ111 this = 8 := by rw [e92]; exact k183
            refine x_getR (n0 := this) hC (ci := 7) (T := TX7) (N := 36) (C := RX7) 17 k185 rfl rfl (by decide) rfl q706 dX7_add_109 ?_
            rw [r102.1]
            refine x_iload hC 0 rfl dX7_add_112 ?_
            refine x_iload_n hC 4 rfl dX7_add_114 ?_
            obtain ⟨m74, hm74, h⟩ := h
            rw [show rv ρ (hR σ109 this 17) = Value.ref (ρ m74) from by rw [hm74]; rfl]
            obtain ⟨k186, h⟩ := h
            obtain ⟨v93, h⟩ := h
            refine x_iast (a := m74) hC k186 (by rw [r102.2]; exact v93) dX7_add_115 ?_
            refine xJ.nmH (fun σ112 e93 => ?_)
            have h := h σ112 e93
            have r103 : hR σ112 = hR σ109 ∧ hL σ112 = hL σ109 := by rw [e93]; exact ⟨r102.1, r102.2⟩
            refine x_aload_n hC 2 rfl dX7_add_116 ?_
            have k187 : hK σ112 this = 8 := by rw [e93]; exact k185
            refine x_getR (n0 := this) hC (ci := 7) (T := TX7) (N := 36) (C := RX7) 18 k187 rfl rfl (by decide) rfl q707 dX7_add_117 ?_
            rw [r103.1]
            refine x_iload hC 0 rfl dX7_add_120 ?_
            refine x_aload_n hC 2 rfl dX7_add_122 ?_
            refine x_getI (n0 := this) hC (ci := 7) (T := TX7) (N := 36) (C := RX7) 1 k187 rfl rfl (by decide) rfl q690 dX7_add_123 ?_
            obtain ⟨m75, hm75, h⟩ := h
            rw [show rv ρ (hR σ109 this 18) = Value.ref (ρ m75) from by rw [hm75]; rfl]
            obtain ⟨k188, h⟩ := h
            obtain ⟨v94, h⟩ := h
            refine x_iast (a := m75) hC k188 (by rw [r103.2]; exact v94) dX7_add_126 ?_
            refine xJ.nmH (fun σ113 e94 => ?_)
            have h := h σ113 e94
            have r104 : hR σ113 = hR σ109 ∧ hL σ113 = hL σ109 := by rw [e94]; exact ⟨r103.1, r103.2⟩
            refine x_aload_n hC 2 rfl dX7_add_127 ?_
            have k189 : hK σ113 this = 8 := by rw [e94]; exact k187
            refine x_getR (n0 := this) hC (ci := 7) (T := TX7) (N := 36) (C := RX7) 19 k189 rfl rfl (by decide) rfl q708 dX7_add_128 ?_
            rw [r104.1]
            refine x_iload hC 0 rfl dX7_add_131 ?_
            refine x_iload_n hC 5 rfl dX7_add_133 ?_
            obtain ⟨m76, hm76, h⟩ := h
            rw [show rv ρ (hR σ109 this 19) = Value.ref (ρ m76) from by rw [hm76]; rfl]
            obtain ⟨k190, h⟩ := h
            obtain ⟨v95, h⟩ := h
            refine x_iast (a := m76) hC k190 (by rw [r104.2]; exact v95) dX7_add_134 ?_
            refine xJ.nmH (fun σ114 e95 => ?_)
            have h := h σ114 e95
            have r105 : hR σ114 = hR σ109 ∧ hL σ114 = hL σ109 := by rw [e95]; exact ⟨r104.1, r104.2⟩
            refine x_aload_n hC 2 rfl dX7_add_135 ?_
            have k191 : hK σ114 this = 8 := by rw [e95]; exact k189
            refine x_getR (n0 := this) hC (ci := 7) (T := TX7) (N := 36) (C := RX7) 20 k191 rfl rfl (by decide) rfl q709 dX7_add_136 ?_
            rw [r105.1]
            refine x_iload hC 0 rfl dX7_add_139 ?_
            refine x_iload hC 6 rfl dX7_add_141 ?_
            obtain ⟨m77, hm77, h⟩ := h
            rw [show rv ρ (hR σ109 this 20) = Value.ref (ρ m77) from by rw [hm77]; rfl]
            obtain ⟨k192, h⟩ := h
            obtain ⟨v96, h⟩ := h
            refine x_iast (a := m77) hC k192 (by rw [r105.2]; exact v96) dX7_add_143 ?_
            refine xJ.nmH (fun σ115 e96 => ?_)
            have h := h σ115 e96
            have r106 : hR σ115 = hR σ109 ∧ hL σ115 = hL σ109 := by rw [e96]; exact ⟨r105.1, r105.2⟩
            refine x_aload_n hC 2 rfl dX7_add_144 ?_
            have k193 : hK σ115 this = 8 := by rw [e96]; exact k191
            refine x_getR (n0 := this) hC (ci := 7) (T := TX7) (N := 36) (C := RX7) 21 k193 rfl rfl (by decide) rfl q710 dX7_add_145 ?_
            rw [r106.1]
            refine x_iload hC 0 rfl dX7_add_148 ?_
            refine x_iload hC 7 rfl dX7_add_150 ?_
            obtain ⟨m78, hm78, h⟩ := h
            rw [show rv ρ (hR σ109 this 21) = Value.ref (ρ m78) from by rw [hm78]; rfl]
            obtain ⟨k194, h⟩ := h
            obtain ⟨v97, h⟩ := h
            obtain ⟨zh10, h⟩ := h
            refine x_zast (a := m78) hC zh10 k194 (by rw [r106.2]; exact v97) dX7_add_152 ?_
            refine xJ.nmH (fun σ116 e97 => ?_)
            have h := h σ116 e97
            have r107 : hR σ116 = hR σ109 ∧ hL σ116 = hL σ109 := by rw [e97]; exact ⟨r106.1, r106.2⟩
            refine x_aload_n hC 2 rfl dX7_add_153 ?_
            have k195 : hK σ116 this = 8 := by rw [e97]; exact k193
            refine x_getR (n0 := this) hC (ci := 7) (T := TX7) (N := 36) (C := RX7) 22 k195 rfl rfl (by decide) rfl q711 dX7_add_154 ?_
            rw [r107.1]
            refine x_iload hC 0 rfl dX7_add_157 ?_
            refine x_iload hC 8 rfl dX7_add_159 ?_
            obtain ⟨m79, hm79, h⟩ := h
            rw [show rv ρ (hR σ109 this 22) = Value.ref (ρ m79) from by rw [hm79]; rfl]
            obtain ⟨k196, h⟩ := h
            obtain ⟨v98, h⟩ := h
            refine x_iast (a := m79) hC k196 (by rw [r107.2]; exact v98) dX7_add_161 ?_
            refine xJ.nmH (fun σ117 e98 => ?_)
            have h := h σ117 e98
            have r108 : hR σ117 = hR σ109 ∧ hL σ117 = hL σ109 := by rw [e98]; exact ⟨r107.1, r107.2⟩
            refine x_aload_n hC 2 rfl dX7_add_162 ?_
            have k197 : hK σ117 this = 8 := by rw [e98]; exact k195
            refine x_getR (n0 := this) hC (ci := 7) (T := TX7) (N := 36) (C := RX7) 23 k197 rfl rfl (by decide) rfl q712 dX7_add_163 ?_
            rw [r108.1]
            refine x_iload hC 0 rfl dX7_add_166 ?_
            refine x_iconst (v := 1) hC dX7_add_168 (by decide) ?_
            obtain ⟨m80, hm80, h⟩ := h
            rw [show rv ρ (hR σ109 this 23) = Value.ref (ρ m80) from by rw [hm80]; rfl]
            obtain ⟨k198, h⟩ := h
            obtain ⟨v99, h⟩ := h
            refine x_zast (a := m80) hC zb1 k198 (by rw [r108.2]; exact v99) dX7_add_169 ?_
            refine xJ.nmH (fun σ118 e99 => ?_)
            have h := h σ118 e99
            have r109 : hR σ118 = hR σ109 ∧ hL σ118 = hL σ109 := by rw [e99]; exact ⟨r108.1, r108.2⟩
            refine x_aload_n hC 2 rfl dX7_add_170 ?_
            refine x_dup hC (by first | rfl | exact rv_cat) dX7_add_171 ?_
            have k199 : hK σ118 this = 8 := by rw [e99]; exact k197
            refine x_getI (n0 := this) hC (ci := 7) (T := TX7) (N := 36) (C := RX7) 15 k199 rfl rfl (by decide) rfl q704 dX7_add_172 ?_
            refine x_iconst (v := 1) hC dX7_add_175 (by decide) ?_
            refine x_iadd hC dX7_add_176 ?_
            refine x_putI (n0 := this) hC (ci := 7) (T := TX7) (N := 36) (C := RX7) 15 k199 rfl rfl (by decide) rfl q704 rfl (tyX7_ok 15 (by decide)) dX7_add_177 ?_
            refine xJ.nmH (fun σ119 e100 => ?_)
            have h := h σ119 e100
            have r110 : hR σ119 = hR σ109 ∧ hL σ119 = hL σ109 := by rw [e100]; exact ⟨r109.1, r109.2⟩
            refine x_aload_n hC 2 rfl dX7_add_180 ?_
            refine x_iload hC 0 rfl dX7_add_181 ?_
            have k200 : hK σ119 this = 8 := by rw [e100]; exact k199
            refine x_callV (n0 := this) (as := [.int (hI σ110 this 15)]) (rest := []) hC (ci := 7) (r := (RX7, TX7, 36)) k200 rfl (fun l hl => m7_samples l hl G ρ this (hI σ110 this 15) σ119 _ h) q828 q830 s15 q3 q831 ⟨rfl, hd7_samples⟩ (by decide) ⟨(by decide), (by decide)⟩ (by first | exact Nat.le_of_ble_eq_true rfl | (simp [rv_cat]; done) | (simp (decide := true) [rv_cat, cat_ref, cat_int]; done)) rfl dX7_add_183 (fun E σ9 hx => False.elim hx) (fun v100 σ120 ρ20 hp20 hag20 => ?_)
            obtain ⟨e9, e8, h⟩ := hp20
            rw [e8, e9]
            refine xJ.nrm (k' := 0) (n' := 0) (pc' := 186) (st' := []) rfl rfl rfl rfl ?_
            refine x_iload hC 0 rfl dX7_add_186 ?_
            exact x_iret hC hr dX7_add_188 (by decide) (by decide) ⟨rfl, _, rfl, h⟩
          · have h := h.2 c23
            refine x_iconst (v := 0) hC dX7_add_92 (by decide) ?_
            exact x_iret hC hr dX7_add_93 (by decide) (by decide) ⟨rfl, _, rfl, h⟩
        · have h := h.2 c22
          refine x_iload_n hC 3 rfl dX7_add_48 ?_
          refine x_callS (as := [.int p2]) (rest := [.ref (ρ this)]) hC (fun l hl => m7_isNode l hl G ρ p2 σ109 _ h) q806 q807 q3 q808 hd7_isNode (by decide) ⟨(by decide), (by decide)⟩ (by first | exact Nat.le_of_ble_eq_true rfl | (simp [rv_cat]; done) | (simp (decide := true) [rv_cat, cat_ref, cat_int]; done)) rfl dX7_add_49 (fun E σ9 hx => False.elim hx) (fun v101 σ121 ρ21 hp21 hag21 => ?_)
          obtain ⟨e9, r111, e8, h⟩ := hp21
          rw [e8, e9]
          refine xJ.nrm (k' := 0) (n' := 0) (pc' := 52) (st' := [.int r111, .ref (ρ this)]) rfl rfl rfl rfl ?_
          refine x_if_ne (tgt := 59) hC dX7_add_52 (by decide) (fun c24 => ?_) (fun c24 => ?_)
          · have h := h.1 c24
            refine x_iload hC 0 rfl dX7_add_59 ?_
            refine x_if_ne (tgt := 68) hC dX7_add_61 (by decide) (fun _ => ?_) (fun c25 => absurd c25 (by decide))
            refine x_aload_n hC 1 rfl dX7_add_68 ?_
            have k201 : hK σ109 this = 8 := (hag19 this (by rw [k181]; decide)).1.trans k181
            have k202 : hK σ121 this = 8 := (hag21 this (by rw [k201]; decide)).1.trans k201
            refine x_getI (n0 := this) hC (ci := 7) (T := TX7) (N := 36) (C := RX7) 15 k202 rfl rfl (by decide) rfl q704 dX7_add_69 ?_
            refine x_bipush (v := 16) hC dX7_add_72 (by decide) ?_
            refine x_icmp_ne (tgt := 81) hC dX7_add_74 (by decide) (fun c26 => ?_) (fun c26 => ?_)
            · have h := h.1 c26
              refine x_iconst (v := 0) hC dX7_add_81 (by decide) ?_
              refine x_putI (n0 := this) hC (ci := 7) (T := TX7) (N := 36) (C := RX7) 0 k202 rfl rfl (by decide) rfl q689 rfl (tyX7_ok 0 (by decide)) dX7_add_82 ?_
              refine xJ.nmH (fun σ122 e101 => ?_)
              have h := h σ122 e101
              have r112 : hR σ122 = hR σ121 ∧ hL σ122 = hL σ121 := by rw [e101]; exact ⟨rfl, rfl⟩
              refine x_aload_n hC 1 rfl dX7_add_85 ?_
              have k203 : hK σ122 this = 8 := by rw [e101]; exact k202
              refine x_getI (n0 := this) hC (ci := 7) (T := TX7) (N := 36) (C := RX7) 0 k203 rfl rfl (by decide) rfl q689 dX7_add_86 ?_
              refine x_if_le (tgt := 94) hC dX7_add_89 (by decide) (fun c27 => ?_) (fun c27 => ?_)
              · have h := h.1 c27
                refine x_aload_n hC 1 rfl dX7_add_94 ?_
                refine x_getI (n0 := this) hC (ci := 7) (T := TX7) (N := 36) (C := RX7) 15 k203 rfl rfl (by decide) rfl q704 dX7_add_95 ?_
                refine x_istore (L' := [(8, .int (hI σ122 this 15)), (7, .int 1), (0, .ref (ρ this)), (1, .int p1), (2, .int p2), (3, .int p3), (4, .int p4), (5, .int p5), (6, .int p6)]) hC dX7_add_98 (by decide) (by first | rfl | simp (decide := true) [rv_cat, cat_ref, cat_int]) ?_
                refine x_aload_n hC 2 rfl dX7_add_100 ?_
                refine x_getR (n0 := this) hC (ci := 7) (T := TX7) (N := 36) (C := RX7) 16 k203 rfl rfl (by decide) rfl q705 dX7_add_101 ?_
                rw [r112.1]
                refine x_iload hC 0 rfl dX7_add_104 ?_
                refine x_iload_n hC 3 rfl dX7_add_106 ?_
                obtain ⟨m81, hm81, h⟩ := h
                rw [show rv ρ (hR σ121 this 16) = Value.ref (ρ m81) from by rw [hm81]; rfl]
                obtain ⟨k204, h⟩ := h
                obtain ⟨v102, h⟩ := h
                refine x_iast (a := m81) hC k204 (by rw [r112.2]; exact v102) dX7_add_107 ?_
                refine xJ.nmH (fun σ123 e102 => ?_)
                have h := h σ123 e102
                have r113 : hR σ123 = hR σ121 ∧ hL σ123 = hL σ121 := by rw [e102]; exact ⟨r112.1, r112.2⟩
                refine x_aload_n hC 2 rfl dX7_add_108 ?_
                have k205 : hK σ123 this = 8 := by rw [e102]; exact k203
                refine x_getR (n0 := this) hC (ci := 7) (T := TX7) (N := 36) (C := RX7) 17 k205 rfl rfl (by decide) rfl q706 dX7_add_109 ?_
                rw [r113.1]
                refine x_iload hC 0 rfl dX7_add_112 ?_
                refine x_iload_n hC 4 rfl dX7_add_114 ?_
                obtain ⟨m82, hm82, h⟩ := h
                rw [show rv ρ (hR σ121 this 17) = Value.ref (ρ m82) from by rw [hm82]; rfl]
                obtain ⟨k206, h⟩ := h
                obtain ⟨v103, h⟩ := h
                refine x_iast (a := m82) hC k206 (by rw [r113.2]; exact v103) dX7_add_115 ?_
                refine xJ.nmH (fun σ124 e103 => ?_)
                have h := h σ124 e103
                have r114 : hR σ124 = hR σ121 ∧ hL σ124 = hL σ121 := by rw [e103]; exact ⟨r113.1, r113.2⟩
                refine x_aload_n hC 2 rfl dX7_add_116 ?_
                have k207 : hK σ124 this = 8 := by rw [e103]; exact k205
                refine x_getR (n0 := this) hC (ci := 7) (T := TX7) (N := 36) (C := RX7) 18 k207 rfl rfl (by decide) rfl q707 dX7_add_117 ?_
                rw [r114.1]
                refine x_iload hC 0 rfl dX7_add_120 ?_
                refine x_aload_n hC 2 rfl dX7_add_122 ?_
                refine x_getI (n0 := this) hC (ci := 7) (T := TX7) (N := 36) (C := RX7) 1 k207 rfl rfl (by decide) rfl q690 dX7_add_123 ?_
                obtain ⟨m83, hm83, h⟩ := h
                rw [show rv ρ (hR σ121 this 18) = Value.ref (ρ m83) from by rw [hm83]; rfl]
                obtain ⟨k208, h⟩ := h
                obtain ⟨v104, h⟩ := h
                refine x_iast (a := m83) hC k208 (by rw [r114.2]; exact v104) dX7_add_126 ?_
                refine xJ.nmH (fun σ125 e104 => ?_)
                have h := h σ125 e104
                have r115 : hR σ125 = hR σ121 ∧ hL σ125 = hL σ121 := by rw [e104]; exact ⟨r114.1, r114.2⟩
                refine x_aload_n hC 2 rfl dX7_add_127 ?_
                have k209 : hK σ125 this = 8 := by rw [e104]; exact k207
                refine x_getR (n0 := this) hC (ci := 7) (T := TX7) (N := 36) (C := RX7) 19 k209 rfl rfl (by decide) rfl q708 dX7_add_128 ?_
                rw [r115.1]
                refine x_iload hC 0 rfl dX7_add_131 ?_
                refine x_iload_n hC 5 rfl dX7_add_133 ?_
                obtain ⟨m84, hm84, h⟩ := h
                rw [show rv ρ (hR σ121 this 19) = Value.ref (ρ m84) from by rw [hm84]; rfl]
                obtain ⟨k210, h⟩ := h
                obtain ⟨v105, h⟩ := h
                refine x_iast (a := m84) hC k210 (by rw [r115.2]; exact v105) dX7_add_134 ?_
                refine xJ.nmH (fun σ126 e105 => ?_)
                have h := h σ126 e105
                have r116 : hR σ126 = hR σ121 ∧ hL σ126 = hL σ121 := by rw [e105]; exact ⟨r115.1, r115.2⟩
                refine x_aload_n hC 2 rfl dX7_add_135 ?_
                have k211 : hK σ126 this = 8 := by rw [e105]; exact k209
                refine x_getR (n0 := this) hC (ci := 7) (T := TX7) (N := 36) (C := RX7) 20 k211 rfl rfl (by decide) rfl q709 dX7_add_136 ?_
                rw [r116.1]
                refine x_iload hC 0 rfl dX7_add_139 ?_
                refine x_iload hC 6 rfl dX7_add_141 ?_
                obtain ⟨m85, hm85, h⟩ := h
                rw [show rv ρ (hR σ121 this 20) = Value.ref (ρ m85) from by rw [hm85]; rfl]
                obtain ⟨k212, h⟩ := h
                obtain ⟨v106, h⟩ := h
                refine x_iast (a := m85) hC k212 (by rw [r116.2]; exact v106) dX7_add_143 ?_
                refine xJ.nmH (fun σ127 e106 => ?_)
                have h := h σ127 e106
                have r117 : hR σ127 = hR σ121 ∧ hL σ127 = hL σ121 := by rw [e106]; exact ⟨r116.1, r116.2⟩
                refine x_aload_n hC 2 rfl dX7_add_144 ?_
                have k213 : hK σ127 this = 8 := by rw [e106]; exact k211
                refine x_getR (n0 := this) hC (ci := 7) (T := TX7) (N := 36) (C := RX7) 21 k213 rfl rfl (by decide) rfl q710 dX7_add_145 ?_
                rw [r117.1]
                refine x_iload hC 0 rfl dX7_add_148 ?_
                refine x_iload hC 7 rfl dX7_add_150 ?_
                obtain ⟨m86, hm86, h⟩ := h
                rw [show rv ρ (hR σ121 this 21) = Value.ref (ρ m86) from by rw [hm86]; rfl]
                obtain ⟨k214, h⟩ := h
                obtain ⟨v107, h⟩ := h
                obtain ⟨zh11, h⟩ := h
                refine x_zast (a := m86) hC zh11 k214 (by rw [r117.2]; exact v107) dX7_add_152 ?_
                refine xJ.nmH (fun σ128 e107 => ?_)
                have h := h σ128 e107
                have r118 : hR σ128 = hR σ121 ∧ hL σ128 = hL σ121 := by rw [e107]; exact ⟨r117.1, r117.2⟩
                refine x_aload_n hC 2 rfl dX7_add_153 ?_
                have k215 : hK σ128 this = 8 := by rw [e107]; exact k213
                refine x_getR (n0 := this) hC (ci := 7) (T := TX7) (N := 36) (C := RX7) 22 k215 rfl rfl (by decide) rfl q711 dX7_add_154 ?_
                rw [r118.1]
                refine x_iload hC 0 rfl dX7_add_157 ?_
                refine x_iload hC 8 rfl dX7_add_159 ?_
                obtain ⟨m87, hm87, h⟩ := h
                rw [show rv ρ (hR σ121 this 22) = Value.ref (ρ m87) from by rw [hm87]; rfl]
                obtain ⟨k216, h⟩ := h
                obtain ⟨v108, h⟩ := h
                refine x_iast (a := m87) hC k216 (by rw [r118.2]; exact v108) dX7_add_161 ?_
                refine xJ.nmH (fun σ129 e108 => ?_)
                have h := h σ129 e108
                have r119 : hR σ129 = hR σ121 ∧ hL σ129 = hL σ121 := by rw [e108]; exact ⟨r118.1, r118.2⟩
                refine x_aload_n hC 2 rfl dX7_add_162 ?_
                have k217 : hK σ129 this = 8 := by rw [e108]; exact k215
                refine x_getR (n0 := this) hC (ci := 7) (T := TX7) (N := 36) (C := RX7) 23 k217 rfl rfl (by decide) rfl q712 dX7_add_163 ?_
                rw [r119.1]
                refine x_iload hC 0 rfl dX7_add_166 ?_
                refine x_iconst (v := 1) hC dX7_add_168 (by decide) ?_
                obtain ⟨m88, hm88, h⟩ := h
                rw [show rv ρ (hR σ121 this 23) = Value.ref (ρ m88) from by rw [hm88]; rfl]
                obtain ⟨k218, h⟩ := h
                obtain ⟨v109, h⟩ := h
                refine x_zast (a := m88) hC zb1 k218 (by rw [r119.2]; exact v109) dX7_add_169 ?_
                refine xJ.nmH (fun σ130 e109 => ?_)
                have h := h σ130 e109
                have r120 : hR σ130 = hR σ121 ∧ hL σ130 = hL σ121 := by rw [e109]; exact ⟨r119.1, r119.2⟩
                refine x_aload_n hC 2 rfl dX7_add_170 ?_
                refine x_dup hC (by first | rfl | exact rv_cat) dX7_add_171 ?_
                have k219 : hK σ130 this = 8 := by rw [e109]; exact k217
                refine x_getI (n0 := this) hC (ci := 7) (T := TX7) (N := 36) (C := RX7) 15 k219 rfl rfl (by decide) rfl q704 dX7_add_172 ?_
                refine x_iconst (v := 1) hC dX7_add_175 (by decide) ?_
                refine x_iadd hC dX7_add_176 ?_
                refine x_putI (n0 := this) hC (ci := 7) (T := TX7) (N := 36) (C := RX7) 15 k219 rfl rfl (by decide) rfl q704 rfl (tyX7_ok 15 (by decide)) dX7_add_177 ?_
                refine xJ.nmH (fun σ131 e110 => ?_)
                have h := h σ131 e110
                have r121 : hR σ131 = hR σ121 ∧ hL σ131 = hL σ121 := by rw [e110]; exact ⟨r120.1, r120.2⟩
                refine x_aload_n hC 2 rfl dX7_add_180 ?_
                refine x_iload hC 0 rfl dX7_add_181 ?_
                have k220 : hK σ131 this = 8 := by rw [e110]; exact k219
                refine x_callV (n0 := this) (as := [.int (hI σ122 this 15)]) (rest := []) hC (ci := 7) (r := (RX7, TX7, 36)) k220 rfl (fun l hl => m7_samples l hl G ρ this (hI σ122 this 15) σ131 _ h) q828 q830 s15 q3 q831 ⟨rfl, hd7_samples⟩ (by decide) ⟨(by decide), (by decide)⟩ (by first | exact Nat.le_of_ble_eq_true rfl | (simp [rv_cat]; done) | (simp (decide := true) [rv_cat, cat_ref, cat_int]; done)) rfl dX7_add_183 (fun E σ9 hx => False.elim hx) (fun v110 σ132 ρ22 hp22 hag22 => ?_)
                obtain ⟨e9, e8, h⟩ := hp22
                rw [e8, e9]
                refine xJ.nrm (k' := 0) (n' := 0) (pc' := 186) (st' := []) rfl rfl rfl rfl ?_
                refine x_iload hC 0 rfl dX7_add_186 ?_
                exact x_iret hC hr dX7_add_188 (by decide) (by decide) ⟨rfl, _, rfl, h⟩
              · have h := h.2 c27
                refine x_iconst (v := 0) hC dX7_add_92 (by decide) ?_
                exact x_iret hC hr dX7_add_93 (by decide) (by decide) ⟨rfl, _, rfl, h⟩
            · have h := h.2 c26
              refine x_iconst (v := 3) hC dX7_add_77 (by decide) ?_
              refine x_goto (tgt := 82) hC dX7_add_78 (by decide) ?_
              refine x_putI (n0 := this) hC (ci := 7) (T := TX7) (N := 36) (C := RX7) 0 k202 rfl rfl (by decide) rfl q689 rfl (tyX7_ok 0 (by decide)) dX7_add_82 ?_
              refine xJ.nmH (fun σ133 e111 => ?_)
              have h := h σ133 e111
              have r122 : hR σ133 = hR σ121 ∧ hL σ133 = hL σ121 := by rw [e111]; exact ⟨rfl, rfl⟩
              refine x_aload_n hC 1 rfl dX7_add_85 ?_
              have k221 : hK σ133 this = 8 := by rw [e111]; exact k202
              refine x_getI (n0 := this) hC (ci := 7) (T := TX7) (N := 36) (C := RX7) 0 k221 rfl rfl (by decide) rfl q689 dX7_add_86 ?_
              refine x_if_le (tgt := 94) hC dX7_add_89 (by decide) (fun c28 => ?_) (fun c28 => ?_)
              · have h := h.1 c28
                refine x_aload_n hC 1 rfl dX7_add_94 ?_
                refine x_getI (n0 := this) hC (ci := 7) (T := TX7) (N := 36) (C := RX7) 15 k221 rfl rfl (by decide) rfl q704 dX7_add_95 ?_
                refine x_istore (L' := [(8, .int (hI σ133 this 15)), (7, .int 1), (0, .ref (ρ this)), (1, .int p1), (2, .int p2), (3, .int p3), (4, .int p4), (5, .int p5), (6, .int p6)]) hC dX7_add_98 (by decide) (by first | rfl | simp (decide := true) [rv_cat, cat_ref, cat_int]) ?_
                refine x_aload_n hC 2 rfl dX7_add_100 ?_
                refine x_getR (n0 := this) hC (ci := 7) (T := TX7) (N := 36) (C := RX7) 16 k221 rfl rfl (by decide) rfl q705 dX7_add_101 ?_
                rw [r122.1]
                refine x_iload hC 0 rfl dX7_add_104 ?_
                refine x_iload_n hC 3 rfl dX7_add_106 ?_
                obtain ⟨m89, hm89, h⟩ := h
                rw [show rv ρ (hR σ121 this 16) = Value.ref (ρ m89) from by rw [hm89]; rfl]
                obtain ⟨k222, h⟩ := h
                obtain ⟨v111, h⟩ := h
                refine x_iast (a := m89) hC k222 (by rw [r122.2]; exact v111) dX7_add_107 ?_
                refine xJ.nmH (fun σ134 e112 => ?_)
                have h := h σ134 e112
                have r123 : hR σ134 = hR σ121 ∧ hL σ134 = hL σ121 := by rw [e112]; exact ⟨r122.1, r122.2⟩
                refine x_aload_n hC 2 rfl dX7_add_108 ?_
                have k223 : hK σ134 this = 8 := by rw [e112]; exact k221
                refine x_getR (n0 := this) hC (ci := 7) (T := TX7) (N := 36) (C := RX7) 17 k223 rfl rfl (by decide) rfl q706 dX7_add_109 ?_
                rw [r123.1]
                refine x_iload hC 0 rfl dX7_add_112 ?_
                refine x_iload_n hC 4 rfl dX7_add_114 ?_
                obtain ⟨m90, hm90, h⟩ := h
                rw [show rv ρ (hR σ121 this 17) = Value.ref (ρ m90) from by rw [hm90]; rfl]
                obtain ⟨k224, h⟩ := h
                obtain ⟨v112, h⟩ := h
                refine x_iast (a := m90) hC k224 (by rw [r123.2]; exact v112) dX7_add_115 ?_
                refine xJ.nmH (fun σ135 e113 => ?_)
                have h := h σ135 e113
                have r124 : hR σ135 = hR σ121 ∧ hL σ135 = hL σ121 := by rw [e113]; exact ⟨r123.1, r123.2⟩
                refine x_aload_n hC 2 rfl dX7_add_116 ?_
                have k225 : hK σ135 this = 8 := by rw [e113]; exact k223
                refine x_getR (n0 := this) hC (ci := 7) (T := TX7) (N := 36) (C := RX7) 18 k225 rfl rfl (by decide) rfl q707 dX7_add_117 ?_
                rw [r124.1]
                refine x_iload hC 0 rfl dX7_add_120 ?_
                refine x_aload_n hC 2 rfl dX7_add_122 ?_
                refine x_getI (n0 := this) hC (ci := 7) (T := TX7) (N := 36) (C := RX7) 1 k225 rfl rfl (by decide) rfl q690 dX7_add_123 ?_
                obtain ⟨m91, hm91, h⟩ := h
                rw [show rv ρ (hR σ121 this 18) = Value.ref (ρ m91) from by rw [hm91]; rfl]
                obtain ⟨k226, h⟩ := h
                obtain ⟨v113, h⟩ := h
                refine x_iast (a := m91) hC k226 (by rw [r124.2]; exact v113) dX7_add_126 ?_
                refine xJ.nmH (fun σ136 e114 => ?_)
                have h := h σ136 e114
                have r125 : hR σ136 = hR σ121 ∧ hL σ136 = hL σ121 := by rw [e114]; exact ⟨r124.1, r124.2⟩
                refine x_aload_n hC 2 rfl dX7_add_127 ?_
                have k227 : hK σ136 this = 8 := by rw [e114]; exact k225
                refine x_getR (n0 := this) hC (ci := 7) (T := TX7) (N := 36) (C := RX7) 19 k227 rfl rfl (by decide) rfl q708 dX7_add_128 ?_
                rw [r125.1]
                refine x_iload hC 0 rfl dX7_add_131 ?_
                refine x_iload_n hC 5 rfl dX7_add_133 ?_
                obtain ⟨m92, hm92, h⟩ := h
                rw [show rv ρ (hR σ121 this 19) = Value.ref (ρ m92) from by rw [hm92]; rfl]
                obtain ⟨k228, h⟩ := h
                obtain ⟨v114, h⟩ := h
                refine x_iast (a := m92) hC k228 (by rw [r125.2]; exact v114) dX7_add_134 ?_
                refine xJ.nmH (fun σ137 e115 => ?_)
                have h := h σ137 e115
                have r126 : hR σ137 = hR σ121 ∧ hL σ137 = hL σ121 := by rw [e115]; exact ⟨r125.1, r125.2⟩
                refine x_aload_n hC 2 rfl dX7_add_135 ?_
                have k229 : hK σ137 this = 8 := by rw [e115]; exact k227
                refine x_getR (n0 := this) hC (ci := 7) (T := TX7) (N := 36) (C := RX7) 20 k229 rfl rfl (by decide) rfl q709 dX7_add_136 ?_
                rw [r126.1]
                refine x_iload hC 0 rfl dX7_add_139 ?_
                refine x_iload hC 6 rfl dX7_add_141 ?_
                obtain ⟨m93, hm93, h⟩ := h
                rw [show rv ρ (hR σ121 this 20) = Value.ref (ρ m93) from by rw [hm93]; rfl]
                obtain ⟨k230, h⟩ := h
                obtain ⟨v115, h⟩ := h
                refine x_iast (a := m93) hC k230 (by rw [r126.2]; exact v115) dX7_add_143 ?_
                refine xJ.nmH (fun σ138 e116 => ?_)
                have h := h σ138 e116
                have r127 : hR σ138 = hR σ121 ∧ hL σ138 = hL σ121 := by rw [e116]; exact ⟨r126.1, r126.2⟩
                refine x_aload_n hC 2 rfl dX7_add_144 ?_
                have k231 : hK σ138 this = 8 := by rw [e116]; exact k229
                refine x_getR (n0 := this) hC (ci := 7) (T := TX7) (N := 36) (C := RX7) 21 k231 rfl rfl (by decide) rfl q710 dX7_add_145 ?_
                rw [r127.1]
                refine x_iload hC 0 rfl dX7_add_148 ?_
                refine x_iload hC 7 rfl dX7_add_150 ?_
                obtain ⟨m94, hm94, h⟩ := h
                rw [show rv ρ (hR σ121 this 21) = Value.ref (ρ m94) from by rw [hm94]; rfl]
                obtain ⟨k232, h⟩ := h
                obtain ⟨v116, h⟩ := h
                obtain ⟨zh12, h⟩ := h
                refine x_zast (a := m94) hC zh12 k232 (by rw [r127.2]; exact v116) dX7_add_152 ?_
                refine xJ.nmH (fun σ139 e117 => ?_)
                have h := h σ139 e117
                have r128 : hR σ139 = hR σ121 ∧ hL σ139 = hL σ121 := by rw [e117]; exact ⟨r127.1, r127.2⟩
                refine x_aload_n hC 2 rfl dX7_add_153 ?_
                have k233 : hK σ139 this = 8 := by rw [e117]; exact k231
                refine x_getR (n0 := this) hC (ci := 7) (T := TX7) (N := 36) (C := RX7) 22 k233 rfl rfl (by decide) rfl q711 dX7_add_154 ?_
                rw [r128.1]
                refine x_iload hC 0 rfl dX7_add_157 ?_
                refine x_iload hC 8 rfl dX7_add_159 ?_
                obtain ⟨m95, hm95, h⟩ := h
                rw [show rv ρ (hR σ121 this 22) = Value.ref (ρ m95) from by rw [hm95]; rfl]
                obtain ⟨k234, h⟩ := h
                obtain ⟨v117, h⟩ := h
                refine x_iast (a := m95) hC k234 (by rw [r128.2]; exact v117) dX7_add_161 ?_
                refine xJ.nmH (fun σ140 e118 => ?_)
                have h := h σ140 e118
                have r129 : hR σ140 = hR σ121 ∧ hL σ140 = hL σ121 := by rw [e118]; exact ⟨r128.1, r128.2⟩
                refine x_aload_n hC 2 rfl dX7_add_162 ?_
                have k235 : hK σ140 this = 8 := by rw [e118]; exact k233
                refine x_getR (n0 := this) hC (ci := 7) (T := TX7) (N := 36) (C := RX7) 23 k235 rfl rfl (by decide) rfl q712 dX7_add_163 ?_
                rw [r129.1]
                refine x_iload hC 0 rfl dX7_add_166 ?_
                refine x_iconst (v := 1) hC dX7_add_168 (by decide) ?_
                obtain ⟨m96, hm96, h⟩ := h
                rw [show rv ρ (hR σ121 this 23) = Value.ref (ρ m96) from by rw [hm96]; rfl]
                obtain ⟨k236, h⟩ := h
                obtain ⟨v118, h⟩ := h
                refine x_zast (a := m96) hC zb1 k236 (by rw [r129.2]; exact v118) dX7_add_169 ?_
                refine xJ.nmH (fun σ141 e119 => ?_)
                have h := h σ141 e119
                have r130 : hR σ141 = hR σ121 ∧ hL σ141 = hL σ121 := by rw [e119]; exact ⟨r129.1, r129.2⟩
                refine x_aload_n hC 2 rfl dX7_add_170 ?_
                refine x_dup hC (by first | rfl | exact rv_cat) dX7_add_171 ?_
                have k237 : hK σ141 this = 8 := by rw [e119]; exact k235
                refine x_getI (n0 := this) hC (ci := 7) (T := TX7) (N := 36) (C := RX7) 15 k237 rfl rfl (by decide) rfl q704 dX7_add_172 ?_
                refine x_iconst (v := 1) hC dX7_add_175 (by decide) ?_
                refine x_iadd hC dX7_add_176 ?_
                refine x_putI (n0 := this) hC (ci := 7) (T := TX7) (N := 36) (C := RX7) 15 k237 rfl rfl (by decide) rfl q704 rfl (tyX7_ok 15 (by decide)) dX7_add_177 ?_
                refine xJ.nmH (fun σ142 e120 => ?_)
                have h := h σ142 e120
                have r131 : hR σ142 = hR σ121 ∧ hL σ142 = hL σ121 := by rw [e120]; exact ⟨r130.1, r130.2⟩
                refine x_aload_n hC 2 rfl dX7_add_180 ?_
                refine x_iload hC 0 rfl dX7_add_181 ?_
                have k238 : hK σ142 this = 8 := by rw [e120]; exact k237
                refine x_callV (n0 := this) (as := [.int (hI σ133 this 15)]) (rest := []) hC (ci := 7) (r := (RX7, TX7, 36)) k238 rfl (fun l hl => m7_samples l hl G ρ this (hI σ133 this 15) σ142 _ h) q828 q830 s15 q3 q831 ⟨rfl, hd7_samples⟩ (by decide) ⟨(by decide), (by decide)⟩ (by first | exact Nat.le_of_ble_eq_true rfl | (simp [rv_cat]; done) | (simp (decide := true) [rv_cat, cat_ref, cat_int]; done)) rfl dX7_add_183 (fun E σ9 hx => False.elim hx) (fun v119 σ143 ρ23 hp23 hag23 => ?_)
                obtain ⟨e9, e8, h⟩ := hp23
                rw [e8, e9]
                refine xJ.nrm (k' := 0) (n' := 0) (pc' := 186) (st' := []) rfl rfl rfl rfl ?_
                refine x_iload hC 0 rfl dX7_add_186 ?_
                exact x_iret hC hr dX7_add_188 (by decide) (by decide) ⟨rfl, _, rfl, h⟩
              · have h := h.2 c28
                refine x_iconst (v := 0) hC dX7_add_92 (by decide) ?_
                exact x_iret hC hr dX7_add_93 (by decide) (by decide) ⟨rfl, _, rfl, h⟩
          · have h := h.2 c24
            refine x_iconst (v := 1) hC dX7_add_55 (by decide) ?_
            refine x_goto (tgt := 82) hC dX7_add_56 (by decide) ?_
            have k239 : hK σ109 this = 8 := (hag19 this (by rw [k181]; decide)).1.trans k181
            have k240 : hK σ121 this = 8 := (hag21 this (by rw [k239]; decide)).1.trans k239
            refine x_putI (n0 := this) hC (ci := 7) (T := TX7) (N := 36) (C := RX7) 0 k240 rfl rfl (by decide) rfl q689 rfl (tyX7_ok 0 (by decide)) dX7_add_82 ?_
            refine xJ.nmH (fun σ144 e121 => ?_)
            have h := h σ144 e121
            have r132 : hR σ144 = hR σ121 ∧ hL σ144 = hL σ121 := by rw [e121]; exact ⟨rfl, rfl⟩
            refine x_aload_n hC 1 rfl dX7_add_85 ?_
            have k241 : hK σ144 this = 8 := by rw [e121]; exact k240
            refine x_getI (n0 := this) hC (ci := 7) (T := TX7) (N := 36) (C := RX7) 0 k241 rfl rfl (by decide) rfl q689 dX7_add_86 ?_
            refine x_if_le (tgt := 94) hC dX7_add_89 (by decide) (fun c29 => ?_) (fun c29 => ?_)
            · have h := h.1 c29
              refine x_aload_n hC 1 rfl dX7_add_94 ?_
              refine x_getI (n0 := this) hC (ci := 7) (T := TX7) (N := 36) (C := RX7) 15 k241 rfl rfl (by decide) rfl q704 dX7_add_95 ?_
              refine x_istore (L' := [(8, .int (hI σ144 this 15)), (7, .int 1), (0, .ref (ρ this)), (1, .int p1), (2, .int p2), (3, .int p3), (4, .int p4), (5, .int p5), (6, .int p6)]) hC dX7_add_98 (by decide) (by first | rfl | simp (decide := true) [rv_cat, cat_ref, cat_int]) ?_
              refine x_aload_n hC 2 rfl dX7_add_100 ?_
              refine x_getR (n0 := this) hC (ci := 7) (T := TX7) (N := 36) (C := RX7) 16 k241 rfl rfl (by decide) rfl q705 dX7_add_101 ?_
              rw [r132.1]
              refine x_iload hC 0 rfl dX7_add_104 ?_
              refine x_iload_n hC 3 rfl dX7_add_106 ?_
              obtain ⟨m97, hm97, h⟩ := h
              rw [show rv ρ (hR σ121 this 16) = Value.ref (ρ m97) from by rw [hm97]; rfl]
              obtain ⟨k242, h⟩ := h
              obtain ⟨v120, h⟩ := h
              refine x_iast (a := m97) hC k242 (by rw [r132.2]; exact v120) dX7_add_107 ?_
              refine xJ.nmH (fun σ145 e122 => ?_)
              have h := h σ145 e122
              have r133 : hR σ145 = hR σ121 ∧ hL σ145 = hL σ121 := by rw [e122]; exact ⟨r132.1, r132.2⟩
              refine x_aload_n hC 2 rfl dX7_add_108 ?_
              have k243 : hK σ145 this = 8 := by rw [e122]; exact k241
              refine x_getR (n0 := this) hC (ci := 7) (T := TX7) (N := 36) (C := RX7) 17 k243 rfl rfl (by decide) rfl q706 dX7_add_109 ?_
              rw [r133.1]
              refine x_iload hC 0 rfl dX7_add_112 ?_
              refine x_iload_n hC 4 rfl dX7_add_114 ?_
              obtain ⟨m98, hm98, h⟩ := h
              rw [show rv ρ (hR σ121 this 17) = Value.ref (ρ m98) from by rw [hm98]; rfl]
              obtain ⟨k244, h⟩ := h
              obtain ⟨v121, h⟩ := h
              refine x_iast (a := m98) hC k244 (by rw [r133.2]; exact v121) dX7_add_115 ?_
              refine xJ.nmH (fun σ146 e123 => ?_)
              have h := h σ146 e123
              have r134 : hR σ146 = hR σ121 ∧ hL σ146 = hL σ121 := by rw [e123]; exact ⟨r133.1, r133.2⟩
              refine x_aload_n hC 2 rfl dX7_add_116 ?_
              have k245 : hK σ146 this = 8 := by rw [e123]; exact k243
              refine x_getR (n0 := this) hC (ci := 7) (T := TX7) (N := 36) (C := RX7) 18 k245 rfl rfl (by decide) rfl q707 dX7_add_117 ?_
              rw [r134.1]
              refine x_iload hC 0 rfl dX7_add_120 ?_
              refine x_aload_n hC 2 rfl dX7_add_122 ?_
              refine x_getI (n0 := this) hC (ci := 7) (T := TX7) (N := 36) (C := RX7) 1 k245 rfl rfl (by decide) rfl q690 dX7_add_123 ?_
              obtain ⟨m99, hm99, h⟩ := h
              rw [show rv ρ (hR σ121 this 18) = Value.ref (ρ m99) from by rw [hm99]; rfl]
              obtain ⟨k246, h⟩ := h
              obtain ⟨v122, h⟩ := h
              refine x_iast (a := m99) hC k246 (by rw [r134.2]; exact v122) dX7_add_126 ?_
              refine xJ.nmH (fun σ147 e124 => ?_)
              have h := h σ147 e124
              have r135 : hR σ147 = hR σ121 ∧ hL σ147 = hL σ121 := by rw [e124]; exact ⟨r134.1, r134.2⟩
              refine x_aload_n hC 2 rfl dX7_add_127 ?_
              have k247 : hK σ147 this = 8 := by rw [e124]; exact k245
              refine x_getR (n0 := this) hC (ci := 7) (T := TX7) (N := 36) (C := RX7) 19 k247 rfl rfl (by decide) rfl q708 dX7_add_128 ?_
              rw [r135.1]
              refine x_iload hC 0 rfl dX7_add_131 ?_
              refine x_iload_n hC 5 rfl dX7_add_133 ?_
              obtain ⟨m100, hm100, h⟩ := h
              rw [show rv ρ (hR σ121 this 19) = Value.ref (ρ m100) from by rw [hm100]; rfl]
              obtain ⟨k248, h⟩ := h
              obtain ⟨v123, h⟩ := h
              refine x_iast (a := m100) hC k248 (by rw [r135.2]; exact v123) dX7_add_134 ?_
              refine xJ.nmH (fun σ148 e125 => ?_)
              have h := h σ148 e125
              have r136 : hR σ148 = hR σ121 ∧ hL σ148 = hL σ121 := by rw [e125]; exact ⟨r135.1, r135.2⟩
              refine x_aload_n hC 2 rfl dX7_add_135 ?_
              have k249 : hK σ148 this = 8 := by rw [e125]; exact k247
              refine x_getR (n0 := this) hC (ci := 7) (T := TX7) (N := 36) (C := RX7) 20 k249 rfl rfl (by decide) rfl q709 dX7_add_136 ?_
              rw [r136.1]
              refine x_iload hC 0 rfl dX7_add_139 ?_
              refine x_iload hC 6 rfl dX7_add_141 ?_
              obtain ⟨m101, hm101, h⟩ := h
              rw [show rv ρ (hR σ121 this 20) = Value.ref (ρ m101) from by rw [hm101]; rfl]
              obtain ⟨k250, h⟩ := h
              obtain ⟨v124, h⟩ := h
              refine x_iast (a := m101) hC k250 (by rw [r136.2]; exact v124) dX7_add_143 ?_
              refine xJ.nmH (fun σ149 e126 => ?_)
              have h := h σ149 e126
              have r137 : hR σ149 = hR σ121 ∧ hL σ149 = hL σ121 := by rw [e126]; exact ⟨r136.1, r136.2⟩
              refine x_aload_n hC 2 rfl dX7_add_144 ?_
              have k251 : hK σ149 this = 8 := by rw [e126]; exact k249
              refine x_getR (n0 := this) hC (ci := 7) (T := TX7) (N := 36) (C := RX7) 21 k251 rfl rfl (by decide) rfl q710 dX7_add_145 ?_
              rw [r137.1]
              refine x_iload hC 0 rfl dX7_add_148 ?_
              refine x_iload hC 7 rfl dX7_add_150 ?_
              obtain ⟨m102, hm102, h⟩ := h
              rw [show rv ρ (hR σ121 this 21) = Value.ref (ρ m102) from by rw [hm102]; rfl]
              obtain ⟨k252, h⟩ := h
              obtain ⟨v125, h⟩ := h
              obtain ⟨zh13, h⟩ := h
              refine x_zast (a := m102) hC zh13 k252 (by rw [r137.2]; exact v125) dX7_add_152 ?_
              refine xJ.nmH (fun σ150 e127 => ?_)
              have h := h σ150 e127
              have r138 : hR σ150 = hR σ121 ∧ hL σ150 = hL σ121 := by rw [e127]; exact ⟨r137.1, r137.2⟩
              refine x_aload_n hC 2 rfl dX7_add_153 ?_
              have k253 : hK σ150 this = 8 := by rw [e127]; exact k251
              refine x_getR (n0 := this) hC (ci := 7) (T := TX7) (N := 36) (C := RX7) 22 k253 rfl rfl (by decide) rfl q711 dX7_add_154 ?_
              rw [r138.1]
              refine x_iload hC 0 rfl dX7_add_157 ?_
              refine x_iload hC 8 rfl dX7_add_159 ?_
              obtain ⟨m103, hm103, h⟩ := h
              rw [show rv ρ (hR σ121 this 22) = Value.ref (ρ m103) from by rw [hm103]; rfl]
              obtain ⟨k254, h⟩ := h
              obtain ⟨v126, h⟩ := h
              refine x_iast (a := m103) hC k254 (by rw [r138.2]; exact v126) dX7_add_161 ?_
              refine xJ.nmH (fun σ151 e128 => ?_)
              have h := h σ151 e128
              have r139 : hR σ151 = hR σ121 ∧ hL σ151 = hL σ121 := by rw [e128]; exact ⟨r138.1, r138.2⟩
              refine x_aload_n hC 2 rfl dX7_add_162 ?_
              have k255 : hK σ151 this = 8 := by rw [e128]; exact k253
              refine x_getR (n0 := this) hC (ci := 7) (T := TX7) (N := 36) (C := RX7) 23 k255 rfl rfl (by decide) rfl q712 dX7_add_163 ?_
              rw [r139.1]
              refine x_iload hC 0 rfl dX7_add_166 ?_
              refine x_iconst (v := 1) hC dX7_add_168 (by decide) ?_
              obtain ⟨m104, hm104, h⟩ := h
              rw [show rv ρ (hR σ121 this 23) = Value.ref (ρ m104) from by rw [hm104]; rfl]
              obtain ⟨k256, h⟩ := h
              obtain ⟨v127, h⟩ := h
              refine x_zast (a := m104) hC zb1 k256 (by rw [r139.2]; exact v127) dX7_add_169 ?_
              refine xJ.nmH (fun σ152 e129 => ?_)
              have h := h σ152 e129
              have r140 : hR σ152 = hR σ121 ∧ hL σ152 = hL σ121 := by rw [e129]; exact ⟨r139.1, r139.2⟩
              refine x_aload_n hC 2 rfl dX7_add_170 ?_
              refine x_dup hC (by first | rfl | exact rv_cat) dX7_add_171 ?_
              have k257 : hK σ152 this = 8 := by rw [e129]; exact k255
              refine x_getI (n0 := this) hC (ci := 7) (T := TX7) (N := 36) (C := RX7) 15 k257 rfl rfl (by decide) rfl q704 dX7_add_172 ?_
              refine x_iconst (v := 1) hC dX7_add_175 (by decide) ?_
              refine x_iadd hC dX7_add_176 ?_
              refine x_putI (n0 := this) hC (ci := 7) (T := TX7) (N := 36) (C := RX7) 15 k257 rfl rfl (by decide) rfl q704 rfl (tyX7_ok 15 (by decide)) dX7_add_177 ?_
              refine xJ.nmH (fun σ153 e130 => ?_)
              have h := h σ153 e130
              have r141 : hR σ153 = hR σ121 ∧ hL σ153 = hL σ121 := by rw [e130]; exact ⟨r140.1, r140.2⟩
              refine x_aload_n hC 2 rfl dX7_add_180 ?_
              refine x_iload hC 0 rfl dX7_add_181 ?_
              have k258 : hK σ153 this = 8 := by rw [e130]; exact k257
              refine x_callV (n0 := this) (as := [.int (hI σ144 this 15)]) (rest := []) hC (ci := 7) (r := (RX7, TX7, 36)) k258 rfl (fun l hl => m7_samples l hl G ρ this (hI σ144 this 15) σ153 _ h) q828 q830 s15 q3 q831 ⟨rfl, hd7_samples⟩ (by decide) ⟨(by decide), (by decide)⟩ (by first | exact Nat.le_of_ble_eq_true rfl | (simp [rv_cat]; done) | (simp (decide := true) [rv_cat, cat_ref, cat_int]; done)) rfl dX7_add_183 (fun E σ9 hx => False.elim hx) (fun v128 σ154 ρ24 hp24 hag24 => ?_)
              obtain ⟨e9, e8, h⟩ := hp24
              rw [e8, e9]
              refine xJ.nrm (k' := 0) (n' := 0) (pc' := 186) (st' := []) rfl rfl rfl rfl ?_
              refine x_iload hC 0 rfl dX7_add_186 ?_
              exact x_iret hC hr dX7_add_188 (by decide) (by decide) ⟨rfl, _, rfl, h⟩
            · have h := h.2 c29
              refine x_iconst (v := 0) hC dX7_add_92 (by decide) ?_
              exact x_iret hC hr dX7_add_93 (by decide) (by decide) ⟨rfl, _, rfl, h⟩
