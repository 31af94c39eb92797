/-! PlantServerModel.samples -/
theorem dX7_samples_0 : decode cX7_samples 0 = .ok (.aload_n 0, 1) := by decide +kernel
theorem dX7_samples_1 : decode cX7_samples 1 = .ok (.getfield 7, 3) := by decide +kernel
theorem dX7_samples_4 : decode cX7_samples 4 = .ok (.aload_n 0, 1) := by decide +kernel
theorem dX7_samples_5 : decode cX7_samples 5 = .ok (.getfield 50, 3) := by decide +kernel
theorem dX7_samples_8 : decode cX7_samples 8 = .ok (.iload_n 1, 1) := by decide +kernel
theorem dX7_samples_9 : decode cX7_samples 9 = .ok (.iaload, 1) := by decide +kernel
theorem dX7_samples_10 : decode cX7_samples 10 = .ok (.iaload, 1) := by decide +kernel
theorem dX7_samples_11 : decode cX7_samples 11 = .ok (.istore_n 2, 1) := by decide +kernel
theorem dX7_samples_12 : decode cX7_samples 12 = .ok (.iload_n 2, 1) := by decide +kernel
theorem dX7_samples_13 : decode cX7_samples 13 = .ok (.aload_n 0, 1) := by decide +kernel
theorem dX7_samples_14 : decode cX7_samples 14 = .ok (.getfield 74, 3) := by decide +kernel
theorem dX7_samples_17 : decode cX7_samples 17 = .ok (.iload_n 1, 1) := by decide +kernel
theorem dX7_samples_18 : decode cX7_samples 18 = .ok (.iaload, 1) := by decide +kernel
theorem dX7_samples_19 : decode cX7_samples 19 = .ok (.if_icmp .le 14, 3) := by decide +kernel
theorem dX7_samples_22 : decode cX7_samples 22 = .ok (.iload_n 2, 1) := by decide +kernel
theorem dX7_samples_23 : decode cX7_samples 23 = .ok (.aload_n 0, 1) := by decide +kernel
theorem dX7_samples_24 : decode cX7_samples 24 = .ok (.getfield 74, 3) := by decide +kernel
theorem dX7_samples_27 : decode cX7_samples 27 = .ok (.iload_n 1, 1) := by decide +kernel
theorem dX7_samples_28 : decode cX7_samples 28 = .ok (.iaload, 1) := by decide +kernel
theorem dX7_samples_29 : decode cX7_samples 29 = .ok (.isub, 1) := by decide +kernel
theorem dX7_samples_30 : decode cX7_samples 30 = .ok (.goto 11, 3) := by decide +kernel
theorem dX7_samples_33 : decode cX7_samples 33 = .ok (.aload_n 0, 1) := by decide +kernel
theorem dX7_samples_34 : decode cX7_samples 34 = .ok (.getfield 74, 3) := by decide +kernel
theorem dX7_samples_37 : decode cX7_samples 37 = .ok (.iload_n 1, 1) := by decide +kernel
theorem dX7_samples_38 : decode cX7_samples 38 = .ok (.iaload, 1) := by decide +kernel
theorem dX7_samples_39 : decode cX7_samples 39 = .ok (.iload_n 2, 1) := by decide +kernel
theorem dX7_samples_40 : decode cX7_samples 40 = .ok (.isub, 1) := by decide +kernel
theorem dX7_samples_41 : decode cX7_samples 41 = .ok (.istore_n 3, 1) := by decide +kernel
theorem dX7_samples_42 : decode cX7_samples 42 = .ok (.aload_n 0, 1) := by decide +kernel
theorem dX7_samples_43 : decode cX7_samples 43 = .ok (.getfield 77, 3) := by decide +kernel
theorem dX7_samples_46 : decode cX7_samples 46 = .ok (.iload_n 1, 1) := by decide +kernel
theorem dX7_samples_47 : decode cX7_samples 47 = .ok (.iaload, 1) := by decide +kernel
theorem dX7_samples_48 : decode cX7_samples 48 = .ok (.ifCond .le 14, 3) := by decide +kernel
theorem dX7_samples_51 : decode cX7_samples 51 = .ok (.iload_n 3, 1) := by decide +kernel
theorem dX7_samples_52 : decode cX7_samples 52 = .ok (.aload_n 0, 1) := by decide +kernel
theorem dX7_samples_53 : decode cX7_samples 53 = .ok (.getfield 65, 3) := by decide +kernel
theorem dX7_samples_56 : decode cX7_samples 56 = .ok (.iload_n 1, 1) := by decide +kernel
theorem dX7_samples_57 : decode cX7_samples 57 = .ok (.iaload, 1) := by decide +kernel
theorem dX7_samples_58 : decode cX7_samples 58 = .ok (.if_icmp .gt 4, 3) := by decide +kernel
theorem dX7_samples_61 : decode cX7_samples 61 = .ok (.return_, 1) := by decide +kernel
theorem dX7_samples_62 : decode cX7_samples 62 = .ok (.aload_n 0, 1) := by decide +kernel
theorem dX7_samples_63 : decode cX7_samples 63 = .ok (.getfield 77, 3) := by decide +kernel
theorem dX7_samples_66 : decode cX7_samples 66 = .ok (.iload_n 1, 1) := by decide +kernel
theorem dX7_samples_67 : decode cX7_samples 67 = .ok (.dup2, 1) := by decide +kernel
theorem dX7_samples_68 : decode cX7_samples 68 = .ok (.iaload, 1) := by decide +kernel
theorem dX7_samples_69 : decode cX7_samples 69 = .ok (.iconst 1, 1) := by decide +kernel
theorem dX7_samples_70 : decode cX7_samples 70 = .ok (.iadd, 1) := by decide +kernel
theorem dX7_samples_71 : decode cX7_samples 71 = .ok (.iastore, 1) := by decide +kernel
theorem dX7_samples_72 : decode cX7_samples 72 = .ok (.aload_n 0, 1) := by decide +kernel
theorem dX7_samples_73 : decode cX7_samples 73 = .ok (.getfield 74, 3) := by decide +kernel
theorem dX7_samples_76 : decode cX7_samples 76 = .ok (.iload_n 1, 1) := by decide +kernel
theorem dX7_samples_77 : decode cX7_samples 77 = .ok (.iload_n 2, 1) := by decide +kernel
theorem dX7_samples_78 : decode cX7_samples 78 = .ok (.iastore, 1) := by decide +kernel
theorem dX7_samples_79 : decode cX7_samples 79 = .ok (.aload_n 0, 1) := by decide +kernel
theorem dX7_samples_80 : decode cX7_samples 80 = .ok (.getfield 80, 3) := by decide +kernel
theorem dX7_samples_83 : decode cX7_samples 83 = .ok (.iload_n 1, 1) := by decide +kernel
theorem dX7_samples_84 : decode cX7_samples 84 = .ok (.iaload, 1) := by decide +kernel
theorem dX7_samples_85 : decode cX7_samples 85 = .ok (.aload_n 0, 1) := by decide +kernel
theorem dX7_samples_86 : decode cX7_samples 86 = .ok (.getfield 59, 3) := by decide +kernel
theorem dX7_samples_89 : decode cX7_samples 89 = .ok (.iload_n 1, 1) := by decide +kernel
theorem dX7_samples_90 : decode cX7_samples 90 = .ok (.iaload, 1) := by decide +kernel
theorem dX7_samples_91 : decode cX7_samples 91 = .ok (.if_icmp .ge 32, 3) := by decide +kernel
theorem dX7_samples_94 : decode cX7_samples 94 = .ok (.aload_n 0, 1) := by decide +kernel
theorem dX7_samples_95 : decode cX7_samples 95 = .ok (.iconst 4, 1) := by decide +kernel
theorem dX7_samples_96 : decode cX7_samples 96 = .ok (.iload_n 1, 1) := by decide +kernel
theorem dX7_samples_97 : decode cX7_samples 97 = .ok (.imul, 1) := by decide +kernel
theorem dX7_samples_98 : decode cX7_samples 98 = .ok (.aload_n 0, 1) := by decide +kernel
theorem dX7_samples_99 : decode cX7_samples 99 = .ok (.getfield 80, 3) := by decide +kernel
theorem dX7_samples_102 : decode cX7_samples 102 = .ok (.iload_n 1, 1) := by decide +kernel
theorem dX7_samples_103 : decode cX7_samples 103 = .ok (.iaload, 1) := by decide +kernel
theorem dX7_samples_104 : decode cX7_samples 104 = .ok (.iadd, 1) := by decide +kernel
theorem dX7_samples_105 : decode cX7_samples 105 = .ok (.iload_n 2, 1) := by decide +kernel
theorem dX7_samples_106 : decode cX7_samples 106 = .ok (.iconst 0, 1) := by decide +kernel
theorem dX7_samples_107 : decode cX7_samples 107 = .ok (.invokevirtual 135, 3) := by decide +kernel
theorem dX7_samples_110 : decode cX7_samples 110 = .ok (.aload_n 0, 1) := by decide +kernel
theorem dX7_samples_111 : decode cX7_samples 111 = .ok (.getfield 80, 3) := by decide +kernel
theorem dX7_samples_114 : decode cX7_samples 114 = .ok (.iload_n 1, 1) := by decide +kernel
theorem dX7_samples_115 : decode cX7_samples 115 = .ok (.dup2, 1) := by decide +kernel
theorem dX7_samples_116 : decode cX7_samples 116 = .ok (.iaload, 1) := by decide +kernel
theorem dX7_samples_117 : decode cX7_samples 117 = .ok (.iconst 1, 1) := by decide +kernel
theorem dX7_samples_118 : decode cX7_samples 118 = .ok (.iadd, 1) := by decide +kernel
theorem dX7_samples_119 : decode cX7_samples 119 = .ok (.iastore, 1) := by decide +kernel
theorem dX7_samples_120 : decode cX7_samples 120 = .ok (.goto 73, 3) := by decide +kernel
theorem dX7_samples_123 : decode cX7_samples 123 = .ok (.aload_n 0, 1) := by decide +kernel
theorem dX7_samples_124 : decode cX7_samples 124 = .ok (.getfield 62, 3) := by decide +kernel
theorem dX7_samples_127 : decode cX7_samples 127 = .ok (.iload_n 1, 1) := by decide +kernel
theorem dX7_samples_128 : decode cX7_samples 128 = .ok (.baload, 1) := by decide +kernel
theorem dX7_samples_129 : decode cX7_samples 129 = .ok (.ifCond .eq 46, 3) := by decide +kernel
theorem dX7_samples_132 : decode cX7_samples 132 = .ok (.aload_n 0, 1) := by decide +kernel
theorem dX7_samples_133 : decode cX7_samples 133 = .ok (.iload_n 1, 1) := by decide +kernel
theorem dX7_samples_134 : decode cX7_samples 134 = .ok (.invokevirtual 139, 3) := by decide +kernel
theorem dX7_samples_137 : decode cX7_samples 137 = .ok (.aload_n 0, 1) := by decide +kernel
theorem dX7_samples_138 : decode cX7_samples 138 = .ok (.iconst 4, 1) := by decide +kernel
theorem dX7_samples_139 : decode cX7_samples 139 = .ok (.iload_n 1, 1) := by decide +kernel
theorem dX7_samples_140 : decode cX7_samples 140 = .ok (.imul, 1) := by decide +kernel
theorem dX7_samples_141 : decode cX7_samples 141 = .ok (.aload_n 0, 1) := by decide +kernel
theorem dX7_samples_142 : decode cX7_samples 142 = .ok (.getfield 80, 3) := by decide +kernel
theorem dX7_samples_145 : decode cX7_samples 145 = .ok (.iload_n 1, 1) := by decide +kernel
theorem dX7_samples_146 : decode cX7_samples 146 = .ok (.iaload, 1) := by decide +kernel
theorem dX7_samples_147 : decode cX7_samples 147 = .ok (.iadd, 1) := by decide +kernel
theorem dX7_samples_148 : decode cX7_samples 148 = .ok (.iload_n 2, 1) := by decide +kernel
theorem dX7_samples_149 : decode cX7_samples 149 = .ok (.iconst 0, 1) := by decide +kernel
theorem dX7_samples_150 : decode cX7_samples 150 = .ok (.invokevirtual 135, 3) := by decide +kernel
theorem dX7_samples_153 : decode cX7_samples 153 = .ok (.aload_n 0, 1) := by decide +kernel
theorem dX7_samples_154 : decode cX7_samples 154 = .ok (.getfield 80, 3) := by decide +kernel
theorem dX7_samples_157 : decode cX7_samples 157 = .ok (.iload_n 1, 1) := by decide +kernel
theorem dX7_samples_158 : decode cX7_samples 158 = .ok (.dup2, 1) := by decide +kernel
theorem dX7_samples_159 : decode cX7_samples 159 = .ok (.iaload, 1) := by decide +kernel
theorem dX7_samples_160 : decode cX7_samples 160 = .ok (.iconst 1, 1) := by decide +kernel
theorem dX7_samples_161 : decode cX7_samples 161 = .ok (.iadd, 1) := by decide +kernel
theorem dX7_samples_162 : decode cX7_samples 162 = .ok (.iastore, 1) := by decide +kernel
theorem dX7_samples_163 : decode cX7_samples 163 = .ok (.aload_n 0, 1) := by decide +kernel
theorem dX7_samples_164 : decode cX7_samples 164 = .ok (.getfield 86, 3) := by decide +kernel
theorem dX7_samples_167 : decode cX7_samples 167 = .ok (.iconst 4, 1) := by decide +kernel
theorem dX7_samples_168 : decode cX7_samples 168 = .ok (.iload_n 1, 1) := by decide +kernel
theorem dX7_samples_169 : decode cX7_samples 169 = .ok (.imul, 1) := by decide +kernel
theorem dX7_samples_170 : decode cX7_samples 170 = .ok (.iconst 1, 1) := by decide +kernel
theorem dX7_samples_171 : decode cX7_samples 171 = .ok (.bastore, 1) := by decide +kernel
theorem dX7_samples_172 : decode cX7_samples 172 = .ok (.goto 21, 3) := by decide +kernel
theorem dX7_samples_175 : decode cX7_samples 175 = .ok (.aload_n 0, 1) := by decide +kernel
theorem dX7_samples_176 : decode cX7_samples 176 = .ok (.iconst 4, 1) := by decide +kernel
theorem dX7_samples_177 : decode cX7_samples 177 = .ok (.iload_n 1, 1) := by decide +kernel
theorem dX7_samples_178 : decode cX7_samples 178 = .ok (.imul, 1) := by decide +kernel
theorem dX7_samples_179 : decode cX7_samples 179 = .ok (.aload_n 0, 1) := by decide +kernel
theorem dX7_samples_180 : decode cX7_samples 180 = .ok (.getfield 80, 3) := by decide +kernel
theorem dX7_samples_183 : decode cX7_samples 183 = .ok (.iload_n 1, 1) := by decide +kernel
theorem dX7_samples_184 : decode cX7_samples 184 = .ok (.iaload, 1) := by decide +kernel
theorem dX7_samples_185 : decode cX7_samples 185 = .ok (.iadd, 1) := by decide +kernel
theorem dX7_samples_186 : decode cX7_samples 186 = .ok (.iconst 1, 1) := by decide +kernel
theorem dX7_samples_187 : decode cX7_samples 187 = .ok (.isub, 1) := by decide +kernel
theorem dX7_samples_188 : decode cX7_samples 188 = .ok (.iload_n 2, 1) := by decide +kernel
theorem dX7_samples_189 : decode cX7_samples 189 = .ok (.iconst 1, 1) := by decide +kernel
theorem dX7_samples_190 : decode cX7_samples 190 = .ok (.invokevirtual 135, 3) := by decide +kernel
theorem dX7_samples_193 : decode cX7_samples 193 = .ok (.return_, 1) := by decide +kernel
abbrev rm7_samples : Room := { frames := 2, cells := 0, slots := 0, locals := 45 }
theorem hd7_samples : yX7_samples.cls ≠ "java/lang/invoke/MethodHandle" ∧ yX7_samples.cls ≠ "java/lang/invoke/VarHandle" ∧ (parseMethodDescriptor yX7_samples.desc).map (fun d => d.parameters.length) = some 1 := by decide +kernel
set_option maxHeartbeats 4000000 in
set_option maxRecDepth 20000 in
theorem m7_samples (l : Launch) (hl : l.stackTraces = false) (G : xG) (ρ : Nm → Nat) (this : Nm) (p1 : Int32) (σ : PH) (Q : PH → Prop) (h : w7_samples this p1 σ Q) : xMet l yX7_samples (.code yX7_samples cX7_samples 4 none) rm7_samples G ρ σ [.ref (ρ this), .int p1] (eV ρ Q) xNo := by
  refine xMet.of hl (by decide +kernel) (Nat.le_of_ble_eq_true rfl) (fun X hC hr hn htab h0 => ?_)
  have hC : xC G X "PlantServerModel" cX7_samples 4 rm7_samples := hC
  unfold w7_samples at h
  refine xJ.loc (L' := [(0, .ref (ρ this)), (1, .int p1)]) rfl ?_
  refine x_aload_n hC 0 rfl dX7_samples_0 ?_
  obtain ⟨k1, h⟩ := h
  refine x_getR (n0 := this) hC (ci := 7) (T := TX7) (N := 36) (C := RX7) 2 k1 rfl rfl (by decide) rfl q691 dX7_samples_1 ?_
  refine x_aload_n hC 0 rfl dX7_samples_4 ?_
  refine x_getR (n0 := this) hC (ci := 7) (T := TX7) (N := 36) (C := RX7) 17 k1 rfl rfl (by decide) rfl q706 dX7_samples_5 ?_
  refine x_iload_n hC 1 rfl dX7_samples_8 ?_
  obtain ⟨m1, hm1, h⟩ := h
  rw [show rv ρ (hR σ this 17) = Value.ref (ρ m1) from by rw [hm1]; rfl]
  obtain ⟨k2, h⟩ := h
  obtain ⟨v1, h⟩ := h
  refine x_iald (a := m1) hC k2 v1 dX7_samples_9 ?_
  obtain ⟨m2, hm2, h⟩ := h
  rw [show rv ρ (hR σ this 2) = Value.ref (ρ m2) from by rw [hm2]; rfl]
  obtain ⟨k3, h⟩ := h
  obtain ⟨v2, h⟩ := h
  refine x_iald (a := m2) hC k3 v2 dX7_samples_10 ?_
  refine xJ.nmT (fun x1 ex1 => ?_)
  have h := h x1 ex1
  refine x_istore_n (L' := [(2, .int x1), (0, .ref (ρ this)), (1, .int p1)]) hC dX7_samples_11 (by decide) (by first | rfl | simp (decide := true) [rv_cat, cat_ref, cat_int]) ?_
  refine x_iload_n hC 0 rfl dX7_samples_12 ?_
  refine x_aload_n hC 1 rfl dX7_samples_13 ?_
  refine x_getR (n0 := this) hC (ci := 7) (T := TX7) (N := 36) (C := RX7) 25 k1 rfl rfl (by decide) rfl q714 dX7_samples_14 ?_
  refine x_iload_n hC 2 rfl dX7_samples_17 ?_
  obtain ⟨m3, hm3, h⟩ := h
  rw [show rv ρ (hR σ this 25) = Value.ref (ρ m3) from by rw [hm3]; rfl]
  obtain ⟨k4, h⟩ := h
  obtain ⟨v3, h⟩ := h
  refine x_iald (a := m3) hC k4 v3 dX7_samples_18 ?_
  refine x_icmp_le (tgt := 33) hC dX7_samples_19 (by decide) (fun c1 => ?_) (fun c1 => ?_)
  · have h := h.1 c1
    refine x_aload_n hC 1 rfl dX7_samples_33 ?_
    refine x_getR (n0 := this) hC (ci := 7) (T := TX7) (N := 36) (C := RX7) 25 k1 rfl rfl (by decide) rfl q714 dX7_samples_34 ?_
    rw [show rv ρ (hR σ this 25) = Value.ref (ρ m3) from by rw [hm3]; rfl]
    refine x_iload_n hC 2 rfl dX7_samples_37 ?_
    refine x_iald (a := m3) hC k4 v3 dX7_samples_38 ?_
    refine x_iload_n hC 0 rfl dX7_samples_39 ?_
    refine x_isub hC dX7_samples_40 ?_
    refine x_istore_n (L' := [(3, .int ((hI σ m3 (Int32.toNatClampNeg p1)) - x1)), (2, .int x1), (0, .ref (ρ this)), (1, .int p1)]) hC dX7_samples_41 (by decide) (by first | rfl | simp (decide := true) [rv_cat, cat_ref, cat_int]) ?_
    refine x_aload_n hC 2 rfl dX7_samples_42 ?_
    refine x_getR (n0 := this) hC (ci := 7) (T := TX7) (N := 36) (C := RX7) 26 k1 rfl rfl (by decide) rfl q715 dX7_samples_43 ?_
    refine x_iload_n hC 3 rfl dX7_samples_46 ?_
    obtain ⟨m4, hm4, h⟩ := h
    rw [show rv ρ (hR σ this 26) = Value.ref (ρ m4) from by rw [hm4]; rfl]
    obtain ⟨k5, h⟩ := h
    obtain ⟨v4, h⟩ := h
    refine x_iald (a := m4) hC k5 v4 dX7_samples_47 ?_
    refine x_if_le (tgt := 62) hC dX7_samples_48 (by decide) (fun c2 => ?_) (fun c2 => ?_)
    · have h := h.1 c2
      refine x_aload_n hC 2 rfl dX7_samples_62 ?_
      refine x_getR (n0 := this) hC (ci := 7) (T := TX7) (N := 36) (C := RX7) 26 k1 rfl rfl (by decide) rfl q715 dX7_samples_63 ?_
      rw [show rv ρ (hR σ this 26) = Value.ref (ρ m4) from by rw [hm4]; rfl]
      refine x_iload_n hC 3 rfl dX7_samples_66 ?_
      refine x_dup2 hC (by first | rfl | exact rv_cat) (by first | rfl | exact rv_cat) dX7_samples_67 ?_
      refine x_iald (a := m4) hC k5 v4 dX7_samples_68 ?_
      refine x_iconst (v := 1) hC dX7_samples_69 (by decide) ?_
      refine x_iadd hC dX7_samples_70 ?_
      refine x_iast (a := m4) hC k5 v4 dX7_samples_71 ?_
      refine xJ.nmH (fun σ1 e1 => ?_)
      have h := h σ1 e1
      have r1 : hR σ1 = hR σ ∧ hL σ1 = hL σ := by rw [e1]; exact ⟨rfl, rfl⟩
      refine x_aload_n hC 2 rfl dX7_samples_72 ?_
      have k6 : hK σ1 this = 8 := by rw [e1]; exact k1
      refine x_getR (n0 := this) hC (ci := 7) (T := TX7) (N := 36) (C := RX7) 25 k6 rfl rfl (by decide) rfl q714 dX7_samples_73 ?_
      rw [r1.1]
      rw [show rv ρ (hR σ this 25) = Value.ref (ρ m3) from by rw [hm3]; rfl]
      refine x_iload_n hC 3 rfl dX7_samples_76 ?_
      refine x_iload_n hC 1 rfl dX7_samples_77 ?_
      have k7 : hK σ1 m3 = 9 := by rw [e1]; exact k4
      refine x_iast (a := m3) hC k7 (by rw [r1.2]; exact v3) dX7_samples_78 ?_
      refine xJ.nmH (fun σ2 e2 => ?_)
      have h := h σ2 e2
      have r2 : hR σ2 = hR σ ∧ hL σ2 = hL σ := by rw [e2]; exact ⟨r1.1, r1.2⟩
      refine x_aload_n hC 2 rfl dX7_samples_79 ?_
      have k8 : hK σ2 this = 8 := by rw [e2]; exact k6
      refine x_getR (n0 := this) hC (ci := 7) (T := TX7) (N := 36) (C := RX7) 27 k8 rfl rfl (by decide) rfl q716 dX7_samples_80 ?_
      rw [r2.1]
      refine x_iload_n hC 3 rfl dX7_samples_83 ?_
      obtain ⟨m5, hm5, h⟩ := h
      rw [show rv ρ (hR σ this 27) = Value.ref (ρ m5) from by rw [hm5]; rfl]
      obtain ⟨k9, h⟩ := h
      obtain ⟨v5, h⟩ := h
      refine x_iald (a := m5) hC k9 (by rw [r2.2]; exact v5) dX7_samples_84 ?_
      refine x_aload_n hC 2 rfl dX7_samples_85 ?_
      refine x_getR (n0 := this) hC (ci := 7) (T := TX7) (N := 36) (C := RX7) 20 k8 rfl rfl (by decide) rfl q709 dX7_samples_86 ?_
      rw [r2.1]
      refine x_iload_n hC 3 rfl dX7_samples_89 ?_
      obtain ⟨m6, hm6, h⟩ := h
      rw [show rv ρ (hR σ this 20) = Value.ref (ρ m6) from by rw [hm6]; rfl]
      obtain ⟨k10, h⟩ := h
      obtain ⟨v6, h⟩ := h
      refine x_iald (a := m6) hC k10 (by rw [r2.2]; exact v6) dX7_samples_90 ?_
      refine x_icmp_ge (tgt := 123) hC dX7_samples_91 (by decide) (fun c3 => ?_) (fun c3 => ?_)
      · have h := h.1 c3
        refine x_aload_n hC 2 rfl dX7_samples_123 ?_
        refine x_getR (n0 := this) hC (ci := 7) (T := TX7) (N := 36) (C := RX7) 21 k8 rfl rfl (by decide) rfl q710 dX7_samples_124 ?_
        rw [r2.1]
        refine x_iload_n hC 3 rfl dX7_samples_127 ?_
        obtain ⟨m7, hm7, h⟩ := h
        rw [show rv ρ (hR σ this 21) = Value.ref (ρ m7) from by rw [hm7]; rfl]
        obtain ⟨k11, h⟩ := h
        obtain ⟨v7, h⟩ := h
        refine x_zald (a := m7) hC k11 (by rw [r2.2]; exact v7) dX7_samples_128 ?_
        refine x_if_eq (tgt := 175) hC dX7_samples_129 (by decide) (fun c4 => ?_) (fun c4 => ?_)
        · have h := h.1 c4
          refine x_aload_n hC 2 rfl dX7_samples_175 ?_
          refine x_iconst (v := 4) hC dX7_samples_176 (by decide) ?_
          refine x_iload_n hC 3 rfl dX7_samples_177 ?_
          refine x_imul hC dX7_samples_178 ?_
          refine x_aload_n hC 2 rfl dX7_samples_179 ?_
          refine x_getR (n0 := this) hC (ci := 7) (T := TX7) (N := 36) (C := RX7) 27 k8 rfl rfl (by decide) rfl q716 dX7_samples_180 ?_
          rw [r2.1]
          rw [show rv ρ (hR σ this 27) = Value.ref (ρ m5) from by rw [hm5]; rfl]
          refine x_iload_n hC 3 rfl dX7_samples_183 ?_
          refine x_iald (a := m5) hC k9 (by rw [r2.2]; exact v5) dX7_samples_184 ?_
          refine x_iadd hC dX7_samples_185 ?_
          refine x_iconst (v := 1) hC dX7_samples_186 (by decide) ?_
          refine x_isub hC dX7_samples_187 ?_
          refine x_iload_n hC 1 rfl dX7_samples_188 ?_
          refine x_iconst (v := 1) hC dX7_samples_189 (by decide) ?_
          refine x_callV (n0 := this) (as := [.int (((4 * p1) + (hI σ2 m5 (Int32.toNatClampNeg p1))) - 1), .int x1, .int 1]) (rest := []) hC (ci := 7) (r := (RX7, TX7, 36)) k8 rfl (fun l hl => m7_puts l hl G ρ this (((4 * p1) + (hI σ2 m5 (Int32.toNatClampNeg p1))) - 1) x1 1 σ2 _ h) q832 q834 s16 q3 q835 ⟨rfl, hd7_puts⟩ (by decide) ⟨(by decide), (by decide)⟩ (by first | exact Nat.le_of_ble_eq_true rfl | (simp [rv_cat]; done) | (simp (decide := true) [rv_cat, cat_ref, cat_int]; done)) rfl dX7_samples_190 (fun E σ9 hx => False.elim hx) (fun v8 σ3 ρ1 hp1 hag1 => ?_)
          obtain ⟨e9, e8, h⟩ := hp1
          rw [e8, e9]
          refine xJ.nrm (k' := 0) (n' := 0) (pc' := 193) (st' := []) rfl rfl rfl rfl ?_
          exact x_vret hC hr dX7_samples_193 (by decide) (by decide) ⟨rfl, rfl, h⟩
        · have h := h.2 c4
          refine x_aload_n hC 2 rfl dX7_samples_132 ?_
          refine x_iload_n hC 3 rfl dX7_samples_133 ?_
          refine x_callV (n0 := this) (as := [.int p1]) (rest := []) hC (ci := 7) (r := (RX7, TX7, 36)) k8 rfl (fun l hl => m7_takesFirst l hl G ρ this p1 σ2 _ h) q836 q838 s17 q3 q839 ⟨rfl, hd7_takesFirst⟩ (by decide) ⟨(by decide), (by decide)⟩ (by first | exact Nat.le_of_ble_eq_true rfl | (simp [rv_cat]; done) | (simp (decide := true) [rv_cat, cat_ref, cat_int]; done)) rfl dX7_samples_134 (fun E σ9 hx => False.elim hx) (fun v9 σ4 ρ2 hp2 hag2 => ?_)
          obtain ⟨e9, e8, h⟩ := hp2
          rw [e8, e9]
          refine xJ.nrm (k' := 0) (n' := 0) (pc' := 137) (st' := []) rfl rfl rfl rfl ?_
          refine x_aload_n hC 2 rfl dX7_samples_137 ?_
          refine x_iconst (v := 4) hC dX7_samples_138 (by decide) ?_
          refine x_iload_n hC 3 rfl dX7_samples_139 ?_
          refine x_imul hC dX7_samples_140 ?_
          refine x_aload_n hC 2 rfl dX7_samples_141 ?_
          have k12 : hK σ4 this = 8 := (hag2 this (by rw [k8]; decide)).1.trans k8
          refine x_getR (n0 := this) hC (ci := 7) (T := TX7) (N := 36) (C := RX7) 27 k12 rfl rfl (by decide) rfl q716 dX7_samples_142 ?_
          refine x_iload_n hC 3 rfl dX7_samples_145 ?_
          obtain ⟨m8, hm8, h⟩ := h
          rw [show rv ρ (hR σ4 this 27) = Value.ref (ρ m8) from by rw [hm8]; rfl]
          obtain ⟨k13, h⟩ := h
          obtain ⟨v10, h⟩ := h
          refine x_iald (a := m8) hC k13 v10 dX7_samples_146 ?_
          refine x_iadd hC dX7_samples_147 ?_
          refine x_iload_n hC 1 rfl dX7_samples_148 ?_
          refine x_iconst (v := 0) hC dX7_samples_149 (by decide) ?_
          refine x_callV (n0 := this) (as := [.int ((4 * p1) + (hI σ4 m8 (Int32.toNatClampNeg p1))), .int x1, .int 0]) (rest := []) hC (ci := 7) (r := (RX7, TX7, 36)) k12 rfl (fun l hl => m7_puts l hl G ρ this ((4 * p1) + (hI σ4 m8 (Int32.toNatClampNeg p1))) x1 0 σ4 _ h) q832 q834 s16 q3 q835 ⟨rfl, hd7_puts⟩ (by decide) ⟨(by decide), (by decide)⟩ (by first | exact Nat.le_of_ble_eq_true rfl | (simp [rv_cat]; done) | (simp (decide := true) [rv_cat, cat_ref, cat_int]; done)) rfl dX7_samples_150 (fun E σ9 hx => False.elim hx) (fun v11 σ5 ρ3 hp3 hag3 => ?_)
          obtain ⟨e9, e8, h⟩ := hp3
          rw [e8, e9]
          refine xJ.nrm (k' := 0) (n' := 0) (pc' := 153) (st' := []) rfl rfl rfl rfl ?_
          refine x_aload_n hC 2 rfl dX7_samples_153 ?_
          have k14 : hK σ5 this = 8 := (hag3 this (by rw [k12]; decide)).1.trans k12
          refine x_getR (n0 := this) hC (ci := 7) (T := TX7) (N := 36) (C := RX7) 27 k14 rfl rfl (by decide) rfl q716 dX7_samples_154 ?_
          refine x_iload_n hC 3 rfl dX7_samples_157 ?_
          refine x_dup2 hC (by first | rfl | exact rv_cat) (by first | rfl | exact rv_cat) dX7_samples_158 ?_
          obtain ⟨m9, hm9, h⟩ := h
          rw [show rv ρ (hR σ5 this 27) = Value.ref (ρ m9) from by rw [hm9]; rfl]
          obtain ⟨k15, h⟩ := h
          obtain ⟨v12, h⟩ := h
          refine x_iald (a := m9) hC k15 v12 dX7_samples_159 ?_
          refine x_iconst (v := 1) hC dX7_samples_160 (by decide) ?_
          refine x_iadd hC dX7_samples_161 ?_
          refine x_iast (a := m9) hC k15 v12 dX7_samples_162 ?_
          refine xJ.nmH (fun σ6 e3 => ?_)
          have h := h σ6 e3
          have r3 : hR σ6 = hR σ5 ∧ hL σ6 = hL σ5 := by rw [e3]; exact ⟨rfl, rfl⟩
          refine x_aload_n hC 2 rfl dX7_samples_163 ?_
          have k16 : hK σ6 this = 8 := by rw [e3]; exact k14
          refine x_getR (n0 := this) hC (ci := 7) (T := TX7) (N := 36) (C := RX7) 29 k16 rfl rfl (by decide) rfl q718 dX7_samples_164 ?_
          rw [r3.1]
          refine x_iconst (v := 4) hC dX7_samples_167 (by decide) ?_
          refine x_iload_n hC 3 rfl dX7_samples_168 ?_
          refine x_imul hC dX7_samples_169 ?_
          refine x_iconst (v := 1) hC dX7_samples_170 (by decide) ?_
          obtain ⟨m10, hm10, h⟩ := h
          rw [show rv ρ (hR σ5 this 29) = Value.ref (ρ m10) from by rw [hm10]; rfl]
          obtain ⟨k17, h⟩ := h
          obtain ⟨v13, h⟩ := h
          refine x_zast (a := m10) hC zb1 k17 (by rw [r3.2]; exact v13) dX7_samples_171 ?_
          refine xJ.nmH (fun σ7 e4 => ?_)
          have h := h σ7 e4
          have r4 : hR σ7 = hR σ5 ∧ hL σ7 = hL σ5 := by rw [e4]; exact ⟨r3.1, r3.2⟩
          refine x_goto (tgt := 193) hC dX7_samples_172 (by decide) ?_
          exact x_vret hC hr dX7_samples_193 (by decide) (by decide) ⟨rfl, rfl, h⟩
      · have h := h.2 c3
        refine x_aload_n hC 2 rfl dX7_samples_94 ?_
        refine x_iconst (v := 4) hC dX7_samples_95 (by decide) ?_
        refine x_iload_n hC 3 rfl dX7_samples_96 ?_
        refine x_imul hC dX7_samples_97 ?_
        refine x_aload_n hC 2 rfl dX7_samples_98 ?_
        refine x_getR (n0 := this) hC (ci := 7) (T := TX7) (N := 36) (C := RX7) 27 k8 rfl rfl (by decide) rfl q716 dX7_samples_99 ?_
        rw [r2.1]
        rw [show rv ρ (hR σ this 27) = Value.ref (ρ m5) from by rw [hm5]; rfl]
        refine x_iload_n hC 3 rfl dX7_samples_102 ?_
        refine x_iald (a := m5) hC k9 (by rw [r2.2]; exact v5) dX7_samples_103 ?_
        refine x_iadd hC dX7_samples_104 ?_
        refine x_iload_n hC 1 rfl dX7_samples_105 ?_
        refine x_iconst (v := 0) hC dX7_samples_106 (by decide) ?_
        refine x_callV (n0 := this) (as := [.int ((4 * p1) + (hI σ2 m5 (Int32.toNatClampNeg p1))), .int x1, .int 0]) (rest := []) hC (ci := 7) (r := (RX7, TX7, 36)) k8 rfl (fun l hl => m7_puts l hl G ρ this ((4 * p1) + (hI σ2 m5 (Int32.toNatClampNeg p1))) x1 0 σ2 _ h) q832 q834 s16 q3 q835 ⟨rfl, hd7_puts⟩ (by decide) ⟨(by decide), (by decide)⟩ (by first | exact Nat.le_of_ble_eq_true rfl | (simp [rv_cat]; done) | (simp (decide := true) [rv_cat, cat_ref, cat_int]; done)) rfl dX7_samples_107 (fun E σ9 hx => False.elim hx) (fun v14 σ8 ρ4 hp4 hag4 => ?_)
        obtain ⟨e9, e8, h⟩ := hp4
        rw [e8, e9]
        refine xJ.nrm (k' := 0) (n' := 0) (pc' := 110) (st' := []) rfl rfl rfl rfl ?_
        refine x_aload_n hC 2 rfl dX7_samples_110 ?_
        have k18 : hK σ8 this = 8 := (hag4 this (by rw [k8]; decide)).1.trans k8
        refine x_getR (n0 := this) hC (ci := 7) (T := TX7) (N := 36) (C := RX7) 27 k18 rfl rfl (by decide) rfl q716 dX7_samples_111 ?_
        refine x_iload_n hC 3 rfl dX7_samples_114 ?_
        refine x_dup2 hC (by first | rfl | exact rv_cat) (by first | rfl | exact rv_cat) dX7_samples_115 ?_
        obtain ⟨m11, hm11, h⟩ := h
        rw [show rv ρ (hR σ8 this 27) = Value.ref (ρ m11) from by rw [hm11]; rfl]
        obtain ⟨k19, h⟩ := h
        obtain ⟨v15, h⟩ := h
        refine x_iald (a := m11) hC k19 v15 dX7_samples_116 ?_
        refine x_iconst (v := 1) hC dX7_samples_117 (by decide) ?_
        refine x_iadd hC dX7_samples_118 ?_
        refine x_iast (a := m11) hC k19 v15 dX7_samples_119 ?_
        refine xJ.nmH (fun σ9 e5 => ?_)
        have h := h σ9 e5
        have r5 : hR σ9 = hR σ8 ∧ hL σ9 = hL σ8 := by rw [e5]; exact ⟨rfl, rfl⟩
        refine x_goto (tgt := 193) hC dX7_samples_120 (by decide) ?_
        exact x_vret hC hr dX7_samples_193 (by decide) (by decide) ⟨rfl, rfl, h⟩
    · have h := h.2 c2
      refine x_iload_n hC 0 rfl dX7_samples_51 ?_
      refine x_aload_n hC 2 rfl dX7_samples_52 ?_
      refine x_getR (n0 := this) hC (ci := 7) (T := TX7) (N := 36) (C := RX7) 22 k1 rfl rfl (by decide) rfl q711 dX7_samples_53 ?_
      refine x_iload_n hC 3 rfl dX7_samples_56 ?_
      obtain ⟨m12, hm12, h⟩ := h
      rw [show rv ρ (hR σ this 22) = Value.ref (ρ m12) from by rw [hm12]; rfl]
      obtain ⟨k20, h⟩ := h
      obtain ⟨v16, h⟩ := h
      refine x_iald (a := m12) hC k20 v16 dX7_samples_57 ?_
      refine x_icmp_gt (tgt := 62) hC dX7_samples_58 (by decide) (fun c5 => ?_) (fun c5 => ?_)
      · have h := h.1 c5
        refine x_aload_n hC 2 rfl dX7_samples_62 ?_
        refine x_getR (n0 := this) hC (ci := 7) (T := TX7) (N := 36) (C := RX7) 26 k1 rfl rfl (by decide) rfl q715 dX7_samples_63 ?_
        rw [show rv ρ (hR σ this 26) = Value.ref (ρ m4) from by rw [hm4]; rfl]
        refine x_iload_n hC 3 rfl dX7_samples_66 ?_
        refine x_dup2 hC (by first | rfl | exact rv_cat) (by first | rfl | exact rv_cat) dX7_samples_67 ?_
        refine x_iald (a := m4) hC k5 v4 dX7_samples_68 ?_
        refine x_iconst (v := 1) hC dX7_samples_69 (by decide) ?_
        refine x_iadd hC dX7_samples_70 ?_
        refine x_iast (a := m4) hC k5 v4 dX7_samples_71 ?_
        refine xJ.nmH (fun σ10 e6 => ?_)
        have h := h σ10 e6
        have r6 : hR σ10 = hR σ ∧ hL σ10 = hL σ := by rw [e6]; exact ⟨rfl, rfl⟩
        refine x_aload_n hC 2 rfl dX7_samples_72 ?_
        have k21 : hK σ10 this = 8 := by rw [e6]; exact k1
        refine x_getR (n0 := this) hC (ci := 7) (T := TX7) (N := 36) (C := RX7) 25 k21 rfl rfl (by decide) rfl q714 dX7_samples_73 ?_
        rw [r6.1]
        rw [show rv ρ (hR σ this 25) = Value.ref (ρ m3) from by rw [hm3]; rfl]
        refine x_iload_n hC 3 rfl dX7_samples_76 ?_
        refine x_iload_n hC 1 rfl dX7_samples_77 ?_
        have k22 : hK σ10 m3 = 9 := by rw [e6]; exact k4
        refine x_iast (a := m3) hC k22 (by rw [r6.2]; exact v3) dX7_samples_78 ?_
        refine xJ.nmH (fun σ11 e7 => ?_)
        have h := h σ11 e7
        have r7 : hR σ11 = hR σ ∧ hL σ11 = hL σ := by rw [e7]; exact ⟨r6.1, r6.2⟩
        refine x_aload_n hC 2 rfl dX7_samples_79 ?_
        have k23 : hK σ11 this = 8 := by rw [e7]; exact k21
        refine x_getR (n0 := this) hC (ci := 7) (T := TX7) (N := 36) (C := RX7) 27 k23 rfl rfl (by decide) rfl q716 dX7_samples_80 ?_
        rw [r7.1]
        refine x_iload_n hC 3 rfl dX7_samples_83 ?_
        obtain ⟨m13, hm13, h⟩ := h
        rw [show rv ρ (hR σ this 27) = Value.ref (ρ m13) from by rw [hm13]; rfl]
        obtain ⟨k24, h⟩ := h
        obtain ⟨v17, h⟩ := h
        refine x_iald (a := m13) hC k24 (by rw [r7.2]; exact v17) dX7_samples_84 ?_
        refine x_aload_n hC 2 rfl dX7_samples_85 ?_
        refine x_getR (n0 := this) hC (ci := 7) (T := TX7) (N := 36) (C := RX7) 20 k23 rfl rfl (by decide) rfl q709 dX7_samples_86 ?_
        rw [r7.1]
        refine x_iload_n hC 3 rfl dX7_samples_89 ?_
        obtain ⟨m14, hm14, h⟩ := h
        rw [show rv ρ (hR σ this 20) = Value.ref (ρ m14) from by rw [hm14]; rfl]
        obtain ⟨k25, h⟩ := h
        obtain ⟨v18, h⟩ := h
        refine x_iald (a := m14) hC k25 (by rw [r7.2]; exact v18) dX7_samples_90 ?_
        refine x_icmp_ge (tgt := 123) hC dX7_samples_91 (by decide) (fun c6 => ?_) (fun c6 => ?_)
        · have h := h.1 c6
          refine x_aload_n hC 2 rfl dX7_samples_123 ?_
          refine x_getR (n0 := this) hC (ci := 7) (T := TX7) (N := 36) (C := RX7) 21 k23 rfl rfl (by decide) rfl q710 dX7_samples_124 ?_
          rw [r7.1]
          refine x_iload_n hC 3 rfl dX7_samples_127 ?_
          obtain ⟨m15, hm15, h⟩ := h
          rw [show rv ρ (hR σ this 21) = Value.ref (ρ m15) from by rw [hm15]; rfl]
          obtain ⟨k26, h⟩ := h
          obtain ⟨v19, h⟩ := h
          refine x_zald (a := m15) hC k26 (by rw [r7.2]; exact v19) dX7_samples_128 ?_
          refine x_if_eq (tgt := 175) hC dX7_samples_129 (by decide) (fun c7 => ?_) (fun c7 => ?_)
          · have h := h.1 c7
            refine x_aload_n hC 2 rfl dX7_samples_175 ?_
            refine x_iconst (v := 4) hC dX7_samples_176 (by decide) ?_
            refine x_iload_n hC 3 rfl dX7_samples_177 ?_
            refine x_imul hC dX7_samples_178 ?_
            refine x_aload_n hC 2 rfl dX7_samples_179 ?_
            refine x_getR (n0 := this) hC (ci := 7) (T := TX7) (N := 36) (C := RX7) 27 k23 rfl rfl (by decide) rfl q716 dX7_samples_180 ?_
            rw [r7.1]
            rw [show rv ρ (hR σ this 27) = Value.ref (ρ m13) from by rw [hm13]; rfl]
            refine x_iload_n hC 3 rfl dX7_samples_183 ?_
            refine x_iald (a := m13) hC k24 (by rw [r7.2]; exact v17) dX7_samples_184 ?_
            refine x_iadd hC dX7_samples_185 ?_
            refine x_iconst (v := 1) hC dX7_samples_186 (by decide) ?_
            refine x_isub hC dX7_samples_187 ?_
            refine x_iload_n hC 1 rfl dX7_samples_188 ?_
            refine x_iconst (v := 1) hC dX7_samples_189 (by decide) ?_
            refine x_callV (n0 := this) (as := [.int (((4 * p1) + (hI σ11 m13 (Int32.toNatClampNeg p1))) - 1), .int x1, .int 1]) (rest := []) hC (ci := 7) (r := (RX7, TX7, 36)) k23 rfl (fun l hl => m7_puts l hl G ρ this (((4 * p1) + (hI σ11 m13 (Int32.toNatClampNeg p1))) - 1) x1 1 σ11 _ h) q832 q834 s16 q3 q835 ⟨rfl, hd7_puts⟩ (by decide) ⟨(by decide), (by decide)⟩ (by first | exact Nat.le_of_ble_eq_true rfl | (simp [rv_cat]; done) | (simp (decide := true) [rv_cat, cat_ref, cat_int]; done)) rfl dX7_samples_190 (fun E σ9 hx => False.elim hx) (fun v20 σ12 ρ5 hp5 hag5 => ?_)
            obtain ⟨e9, e8, h⟩ := hp5
            rw [e8, e9]
            refine xJ.nrm (k' := 0) (n' := 0) (pc' := 193) (st' := []) rfl rfl rfl rfl ?_
            exact x_vret hC hr dX7_samples_193 (by decide) (by decide) ⟨rfl, rfl, h⟩
          · have h := h.2 c7
            refine x_aload_n hC 2 rfl dX7_samples_132 ?_
            refine x_iload_n hC 3 rfl dX7_samples_133 ?_
            refine x_callV (n0 := this) (as := [.int p1]) (rest := []) hC (ci := 7) (r := (RX7, TX7, 36)) k23 rfl (fun l hl => m7_takesFirst l hl G ρ this p1 σ11 _ h) q836 q838 s17 q3 q839 ⟨rfl, hd7_takesFirst⟩ (by decide) ⟨(by decide), (by decide)⟩ (by first | exact Nat.le_of_ble_eq_true rfl | (simp [rv_cat]; done) | (simp (decide := true) [rv_cat, cat_ref, cat_int]; done)) rfl dX7_samples_134 (fun E σ9 hx => False.elim hx) (fun v21 σ13 ρ6 hp6 hag6 => ?_)
            obtain ⟨e9, e8, h⟩ := hp6
            rw [e8, e9]
            refine xJ.nrm (k' := 0) (n' := 0) (pc' := 137) (st' := []) rfl rfl rfl rfl ?_
            refine x_aload_n hC 2 rfl dX7_samples_137 ?_
            refine x_iconst (v := 4) hC dX7_samples_138 (by decide) ?_
            refine x_iload_n hC 3 rfl dX7_samples_139 ?_
            refine x_imul hC dX7_samples_140 ?_
            refine x_aload_n hC 2 rfl dX7_samples_141 ?_
            have k27 : hK σ13 this = 8 := (hag6 this (by rw [k23]; decide)).1.trans k23
            refine x_getR (n0 := this) hC (ci := 7) (T := TX7) (N := 36) (C := RX7) 27 k27 rfl rfl (by decide) rfl q716 dX7_samples_142 ?_
            refine x_iload_n hC 3 rfl dX7_samples_145 ?_
            obtain ⟨m16, hm16, h⟩ := h
            rw [show rv ρ (hR σ13 this 27) = Value.ref (ρ m16) from by rw [hm16]; rfl]
            obtain ⟨k28, h⟩ := h
            obtain ⟨v22, h⟩ := h
            refine x_iald (a := m16) hC k28 v22 dX7_samples_146 ?_
            refine x_iadd hC dX7_samples_147 ?_
            refine x_iload_n hC 1 rfl dX7_samples_148 ?_
            refine x_iconst (v := 0) hC dX7_samples_149 (by decide) ?_
            refine x_callV (n0 := this) (as := [.int ((4 * p1) + (hI σ13 m16 (Int32.toNatClampNeg p1))), .int x1, .int 0]) (rest := []) hC (ci := 7) (r := (RX7, TX7, 36)) k27 rfl (fun l hl => m7_puts l hl G ρ this ((4 * p1) + (hI σ13 m16 (Int32.toNatClampNeg p1))) x1 0 σ13 _ h) q832 q834 s16 q3 q835 ⟨rfl, hd7_puts⟩ (by decide) ⟨(by decide), (by decide)⟩ (by first | exact Nat.le_of_ble_eq_true rfl | (simp [rv_cat]; done) | (simp (decide := true) [rv_cat, cat_ref, cat_int]; done)) rfl dX7_samples_150 (fun E σ9 hx => False.elim hx) (fun v23 σ14 ρ7 hp7 hag7 => ?_)
            obtain ⟨e9, e8, h⟩ := hp7
            rw [e8, e9]
            refine xJ.nrm (k' := 0) (n' := 0) (pc' := 153) (st' := []) rfl rfl rfl rfl ?_
            refine x_aload_n hC 2 rfl dX7_samples_153 ?_
            have k29 : hK σ14 this = 8 := (hag7 this (by rw [k27]; decide)).1.trans k27
            refine x_getR (n0 := this) hC (ci := 7) (T := TX7) (N := 36) (C := RX7) 27 k29 rfl rfl (by decide) rfl q716 dX7_samples_154 ?_
            refine x_iload_n hC 3 rfl dX7_samples_157 ?_
            refine x_dup2 hC (by first | rfl | exact rv_cat) (by first | rfl | exact rv_cat) dX7_samples_158 ?_
            obtain ⟨m17, hm17, h⟩ := h
            rw [show rv ρ (hR σ14 this 27) = Value.ref (ρ m17) from by rw [hm17]; rfl]
            obtain ⟨k30, h⟩ := h
            obtain ⟨v24, h⟩ := h
            refine x_iald (a := m17) hC k30 v24 dX7_samples_159 ?_
            refine x_iconst (v := 1) hC dX7_samples_160 (by decide) ?_
            refine x_iadd hC dX7_samples_161 ?_
            refine x_iast (a := m17) hC k30 v24 dX7_samples_162 ?_
            refine xJ.nmH (fun σ15 e8 => ?_)
            have h := h σ15 e8
            have r8 : hR σ15 = hR σ14 ∧ hL σ15 = hL σ14 := by rw [e8]; exact ⟨rfl, rfl⟩
            refine x_aload_n hC 2 rfl dX7_samples_163 ?_
            have k31 : hK σ15 this = 8 := by rw [e8]; exact k29
            refine x_getR (n0 := this) hC (ci := 7) (T := TX7) (N := 36) (C := RX7) 29 k31 rfl rfl (by decide) rfl q718 dX7_samples_164 ?_
            rw [r8.1]
            refine x_iconst (v := 4) hC dX7_samples_167 (by decide) ?_
            refine x_iload_n hC 3 rfl dX7_samples_168 ?_
            refine x_imul hC dX7_samples_169 ?_
            refine x_iconst (v := 1) hC dX7_samples_170 (by decide) ?_
            obtain ⟨m18, hm18, h⟩ := h
            rw [show rv ρ (hR σ14 this 29) = Value.ref (ρ m18) from by rw [hm18]; rfl]
            obtain ⟨k32, h⟩ := h
            obtain ⟨v25, h⟩ := h
            refine x_zast (a := m18) hC zb1 k32 (by rw [r8.2]; exact v25) dX7_samples_171 ?_
            refine xJ.nmH (fun σ16 e9 => ?_)
            have h := h σ16 e9
            have r9 : hR σ16 = hR σ14 ∧ hL σ16 = hL σ14 := by rw [e9]; exact ⟨r8.1, r8.2⟩
            refine x_goto (tgt := 193) hC dX7_samples_172 (by decide) ?_
            exact x_vret hC hr dX7_samples_193 (by decide) (by decide) ⟨rfl, rfl, h⟩
        · have h := h.2 c6
          refine x_aload_n hC 2 rfl dX7_samples_94 ?_
          refine x_iconst (v := 4) hC dX7_samples_95 (by decide) ?_
          refine x_iload_n hC 3 rfl dX7_samples_96 ?_
          refine x_imul hC dX7_samples_97 ?_
          refine x_aload_n hC 2 rfl dX7_samples_98 ?_
          refine x_getR (n0 := this) hC (ci := 7) (T := TX7) (N := 36) (C := RX7) 27 k23 rfl rfl (by decide) rfl q716 dX7_samples_99 ?_
          rw [r7.1]
          rw [show rv ρ (hR σ this 27) = Value.ref (ρ m13) from by rw [hm13]; rfl]
          refine x_iload_n hC 3 rfl dX7_samples_102 ?_
          refine x_iald (a := m13) hC k24 (by rw [r7.2]; exact v17) dX7_samples_103 ?_
          refine x_iadd hC dX7_samples_104 ?_
          refine x_iload_n hC 1 rfl dX7_samples_105 ?_
          refine x_iconst (v := 0) hC dX7_samples_106 (by decide) ?_
          refine x_callV (n0 := this) (as := [.int ((4 * p1) + (hI σ11 m13 (Int32.toNatClampNeg p1))), .int x1, .int 0]) (rest := []) hC (ci := 7) (r := (RX7, TX7, 36)) k23 rfl (fun l hl => m7_puts l hl G ρ this ((4 * p1) + (hI σ11 m13 (Int32.toNatClampNeg p1))) x1 0 σ11 _ h) q832 q834 s16 q3 q835 ⟨rfl, hd7_puts⟩ (by decide) ⟨(by decide), (by decide)⟩ (by first | exact Nat.le_of_ble_eq_true rfl | (simp [rv_cat]; done) | (simp (decide := true) [rv_cat, cat_ref, cat_int]; done)) rfl dX7_samples_107 (fun E σ9 hx => False.elim hx) (fun v26 σ17 ρ8 hp8 hag8 => ?_)
          obtain ⟨e9, e8, h⟩ := hp8
          rw [e8, e9]
          refine xJ.nrm (k' := 0) (n' := 0) (pc' := 110) (st' := []) rfl rfl rfl rfl ?_
          refine x_aload_n hC 2 rfl dX7_samples_110 ?_
          have k33 : hK σ17 this = 8 := (hag8 this (by rw [k23]; decide)).1.trans k23
          refine x_getR (n0 := this) hC (ci := 7) (T := TX7) (N := 36) (C := RX7) 27 k33 rfl rfl (by decide) rfl q716 dX7_samples_111 ?_
          refine x_iload_n hC 3 rfl dX7_samples_114 ?_
          refine x_dup2 hC (by first | rfl | exact rv_cat) (by first | rfl | exact rv_cat) dX7_samples_115 ?_
          obtain ⟨m19, hm19, h⟩ := h
          rw [show rv ρ (hR σ17 this 27) = Value.ref (ρ m19) from by rw [hm19]; rfl]
          obtain ⟨k34, h⟩ := h
          obtain ⟨v27, h⟩ := h
          refine x_iald (a := m19) hC k34 v27 dX7_samples_116 ?_
          refine x_iconst (v := 1) hC dX7_samples_117 (by decide) ?_
          refine x_iadd hC dX7_samples_118 ?_
          refine x_iast (a := m19) hC k34 v27 dX7_samples_119 ?_
          refine xJ.nmH (fun σ18 e10 => ?_)
          have h := h σ18 e10
          have r10 : hR σ18 = hR σ17 ∧ hL σ18 = hL σ17 := by rw [e10]; exact ⟨rfl, rfl⟩
          refine x_goto (tgt := 193) hC dX7_samples_120 (by decide) ?_
          exact x_vret hC hr dX7_samples_193 (by decide) (by decide) ⟨rfl, rfl, h⟩
      · have h := h.2 c5
        exact x_vret hC hr dX7_samples_61 (by decide) (by decide) ⟨rfl, rfl, h⟩
  · have h := h.2 c1
    refine x_iload_n hC 0 rfl dX7_samples_22 ?_
    refine x_aload_n hC 1 rfl dX7_samples_23 ?_
    refine x_getR (n0 := this) hC (ci := 7) (T := TX7) (N := 36) (C := RX7) 25 k1 rfl rfl (by decide) rfl q714 dX7_samples_24 ?_
    rw [show rv ρ (hR σ this 25) = Value.ref (ρ m3) from by rw [hm3]; rfl]
    refine x_iload_n hC 2 rfl dX7_samples_27 ?_
    refine x_iald (a := m3) hC k4 v3 dX7_samples_28 ?_
    refine x_isub hC dX7_samples_29 ?_
    refine x_goto (tgt := 41) hC dX7_samples_30 (by decide) ?_
    refine x_istore_n (L' := [(3, .int (x1 - (hI σ m3 (Int32.toNatClampNeg p1)))), (2, .int x1), (0, .ref (ρ this)), (1, .int p1)]) hC dX7_samples_41 (by decide) (by first | rfl | simp (decide := true) [rv_cat, cat_ref, cat_int]) ?_
    refine x_aload_n hC 2 rfl dX7_samples_42 ?_
    refine x_getR (n0 := this) hC (ci := 7) (T := TX7) (N := 36) (C := RX7) 26 k1 rfl rfl (by decide) rfl q715 dX7_samples_43 ?_
    refine x_iload_n hC 3 rfl dX7_samples_46 ?_
    obtain ⟨m20, hm20, h⟩ := h
    rw [show rv ρ (hR σ this 26) = Value.ref (ρ m20) from by rw [hm20]; rfl]
    obtain ⟨k35, h⟩ := h
    obtain ⟨v28, h⟩ := h
    refine x_iald (a := m20) hC k35 v28 dX7_samples_47 ?_
    refine x_if_le (tgt := 62) hC dX7_samples_48 (by decide) (fun c8 => ?_) (fun c8 => ?_)
    · have h := h.1 c8
      refine x_aload_n hC 2 rfl dX7_samples_62 ?_
      refine x_getR (n0 := this) hC (ci := 7) (T := TX7) (N := 36) (C := RX7) 26 k1 rfl rfl (by decide) rfl q715 dX7_samples_63 ?_
      rw [show rv ρ (hR σ this 26) = Value.ref (ρ m20) from by rw [hm20]; rfl]
      refine x_iload_n hC 3 rfl dX7_samples_66 ?_
      refine x_dup2 hC (by first | rfl | exact rv_cat) (by first | rfl | exact rv_cat) dX7_samples_67 ?_
      refine x_iald (a := m20) hC k35 v28 dX7_samples_68 ?_
      refine x_iconst (v := 1) hC dX7_samples_69 (by decide) ?_
      refine x_iadd hC dX7_samples_70 ?_
      refine x_iast (a := m20) hC k35 v28 dX7_samples_71 ?_
      refine xJ.nmH (fun σ19 e11 => ?_)
      have h := h σ19 e11
      have r11 : hR σ19 = hR σ ∧ hL σ19 = hL σ := by rw [e11]; exact ⟨rfl, rfl⟩
      refine x_aload_n hC 2 rfl dX7_samples_72 ?_
      have k36 : hK σ19 this = 8 := by rw [e11]; exact k1
      refine x_getR (n0 := this) hC (ci := 7) (T := TX7) (N := 36) (C := RX7) 25 k36 rfl rfl (by decide) rfl q714 dX7_samples_73 ?_
      rw [r11.1]
      rw [show rv ρ (hR σ this 25) = Value.ref (ρ m3) from by rw [hm3]; rfl]
      refine x_iload_n hC 3 rfl dX7_samples_76 ?_
      refine x_iload_n hC 1 rfl dX7_samples_77 ?_
      have k37 : hK σ19 m3 = 9 := by rw [e11]; exact k4
      refine x_iast (a := m3) hC k37 (by rw [r11.2]; exact v3) dX7_samples_78 ?_
      refine xJ.nmH (fun σ20 e12 => ?_)
      have h := h σ20 e12
      have r12 : hR σ20 = hR σ ∧ hL σ20 = hL σ := by rw [e12]; exact ⟨r11.1, r11.2⟩
      refine x_aload_n hC 2 rfl dX7_samples_79 ?_
      have k38 : hK σ20 this = 8 := by rw [e12]; exact k36
      refine x_getR (n0 := this) hC (ci := 7) (T := TX7) (N := 36) (C := RX7) 27 k38 rfl rfl (by decide) rfl q716 dX7_samples_80 ?_
      rw [r12.1]
      refine x_iload_n hC 3 rfl dX7_samples_83 ?_
      obtain ⟨m21, hm21, h⟩ := h
      rw [show rv ρ (hR σ this 27) = Value.ref (ρ m21) from by rw [hm21]; rfl]
      obtain ⟨k39, h⟩ := h
      obtain ⟨v29, h⟩ := h
      refine x_iald (a := m21) hC k39 (by rw [r12.2]; exact v29) dX7_samples_84 ?_
      refine x_aload_n hC 2 rfl dX7_samples_85 ?_
      refine x_getR (n0 := this) hC (ci := 7) (T := TX7) (N := 36) (C := RX7) 20 k38 rfl rfl (by decide) rfl q709 dX7_samples_86 ?_
      rw [r12.1]
      refine x_iload_n hC 3 rfl dX7_samples_89 ?_
      obtain ⟨m22, hm22, h⟩ := h
      rw [show rv ρ (hR σ this 20) = Value.ref (ρ m22) from by rw [hm22]; rfl]
      obtain ⟨k40, h⟩ := h
      obtain ⟨v30, h⟩ := h
      refine x_iald (a := m22) hC k40 (by rw [r12.2]; exact v30) dX7_samples_90 ?_
      refine x_icmp_ge (tgt := 123) hC dX7_samples_91 (by decide) (fun c9 => ?_) (fun c9 => ?_)
      · have h := h.1 c9
        refine x_aload_n hC 2 rfl dX7_samples_123 ?_
        refine x_getR (n0 := this) hC (ci := 7) (T := TX7) (N := 36) (C := RX7) 21 k38 rfl rfl (by decide) rfl q710 dX7_samples_124 ?_
        rw [r12.1]
        refine x_iload_n hC 3 rfl dX7_samples_127 ?_
        obtain ⟨m23, hm23, h⟩ := h
        rw [show rv ρ (hR σ this 21) = Value.ref (ρ m23) from by rw [hm23]; rfl]
        obtain ⟨k41, h⟩ := h
        obtain ⟨v31, h⟩ := h
        refine x_zald (a := m23) hC k41 (by rw [r12.2]; exact v31) dX7_samples_128 ?_
        refine x_if_eq (tgt := 175) hC dX7_samples_129 (by decide) (fun c10 => ?_) (fun c10 => ?_)
        · have h := h.1 c10
          refine x_aload_n hC 2 rfl dX7_samples_175 ?_
          refine x_iconst (v := 4) hC dX7_samples_176 (by decide) ?_
          refine x_iload_n hC 3 rfl dX7_samples_177 ?_
          refine x_imul hC dX7_samples_178 ?_
          refine x_aload_n hC 2 rfl dX7_samples_179 ?_
          refine x_getR (n0 := this) hC (ci := 7) (T := TX7) (N := 36) (C := RX7) 27 k38 rfl rfl (by decide) rfl q716 dX7_samples_180 ?_
          rw [r12.1]
          rw [show rv ρ (hR σ this 27) = Value.ref (ρ m21) from by rw [hm21]; rfl]
          refine x_iload_n hC 3 rfl dX7_samples_183 ?_
          refine x_iald (a := m21) hC k39 (by rw [r12.2]; exact v29) dX7_samples_184 ?_
          refine x_iadd hC dX7_samples_185 ?_
          refine x_iconst (v := 1) hC dX7_samples_186 (by decide) ?_
          refine x_isub hC dX7_samples_187 ?_
          refine x_iload_n hC 1 rfl dX7_samples_188 ?_
          refine x_iconst (v := 1) hC dX7_samples_189 (by decide) ?_
          refine x_callV (n0 := this) (as := [.int (((4 * p1) + (hI σ20 m21 (Int32.toNatClampNeg p1))) - 1), .int x1, .int 1]) (rest := []) hC (ci := 7) (r := (RX7, TX7, 36)) k38 rfl (fun l hl => m7_puts l hl G ρ this (((4 * p1) + (hI σ20 m21 (Int32.toNatClampNeg p1))) - 1) x1 1 σ20 _ h) q832 q834 s16 q3 q835 ⟨rfl, hd7_puts⟩ (by decide) ⟨(by decide), (by decide)⟩ (by first | exact Nat.le_of_ble_eq_true rfl | (simp [rv_cat]; done) | (simp (decide := true) [rv_cat, cat_ref, cat_int]; done)) rfl dX7_samples_190 (fun E σ9 hx => False.elim hx) (fun v32 σ21 ρ9 hp9 hag9 => ?_)
          obtain ⟨e9, e8, h⟩ := hp9
          rw [e8, e9]
          refine xJ.nrm (k' := 0) (n' := 0) (pc' := 193) (st' := []) rfl rfl rfl rfl ?_
          exact x_vret hC hr dX7_samples_193 (by decide) (by decide) ⟨rfl, rfl, h⟩
        · have h := h.2 c10
          refine x_aload_n hC 2 rfl dX7_samples_132 ?_
          refine x_iload_n hC 3 rfl dX7_samples_133 ?_
          refine x_callV (n0 := this) (as := [.int p1]) (rest := []) hC (ci := 7) (r := (RX7, TX7, 36)) k38 rfl (fun l hl => m7_takesFirst l hl G ρ this p1 σ20 _ h) q836 q838 s17 q3 q839 ⟨rfl, hd7_takesFirst⟩ (by decide) ⟨(by decide), (by decide)⟩ (by first | exact Nat.le_of_ble_eq_true rfl | (simp [rv_cat]; done) | (simp (decide := true) [rv_cat, cat_ref, cat_int]; done)) rfl dX7_samples_134 (fun E σ9 hx => False.elim hx) (fun v33 σ22 ρ10 hp10 hag10 => ?_)
          obtain ⟨e9, e8, h⟩ := hp10
          rw [e8, e9]
          refine xJ.nrm (k' := 0) (n' := 0) (pc' := 137) (st' := []) rfl rfl rfl rfl ?_
          refine x_aload_n hC 2 rfl dX7_samples_137 ?_
          refine x_iconst (v := 4) hC dX7_samples_138 (by decide) ?_
          refine x_iload_n hC 3 rfl dX7_samples_139 ?_
          refine x_imul hC dX7_samples_140 ?_
          refine x_aload_n hC 2 rfl dX7_samples_141 ?_
          have k42 : hK σ22 this = 8 := (hag10 this (by rw [k38]; decide)).1.trans k38
          refine x_getR (n0 := this) hC (ci := 7) (T := TX7) (N := 36) (C := RX7) 27 k42 rfl rfl (by decide) rfl q716 dX7_samples_142 ?_
          refine x_iload_n hC 3 rfl dX7_samples_145 ?_
          obtain ⟨m24, hm24, h⟩ := h
          rw [show rv ρ (hR σ22 this 27) = Value.ref (ρ m24) from by rw [hm24]; rfl]
          obtain ⟨k43, h⟩ := h
          obtain ⟨v34, h⟩ := h
          refine x_iald (a := m24) hC k43 v34 dX7_samples_146 ?_
          refine x_iadd hC dX7_samples_147 ?_
          refine x_iload_n hC 1 rfl dX7_samples_148 ?_
          refine x_iconst (v := 0) hC dX7_samples_149 (by decide) ?_
          refine x_callV (n0 := this) (as := [.int ((4 * p1) + (hI σ22 m24 (Int32.toNatClampNeg p1))), .int x1, .int 0]) (rest := []) hC (ci := 7) (r := (RX7, TX7, 36)) k42 rfl (fun l hl => m7_puts l hl G ρ this ((4 * p1) + (hI σ22 m24 (Int32.toNatClampNeg p1))) x1 0 σ22 _ h) q832 q834 s16 q3 q835 ⟨rfl, hd7_puts⟩ (by decide) ⟨(by decide), (by decide)⟩ (by first | exact Nat.le_of_ble_eq_true rfl | (simp [rv_cat]; done) | (simp (decide := true) [rv_cat, cat_ref, cat_int]; done)) rfl dX7_samples_150 (fun E σ9 hx => False.elim hx) (fun v35 σ23 ρ11 hp11 hag11 => ?_)
          obtain ⟨e9, e8, h⟩ := hp11
          rw [e8, e9]
          refine xJ.nrm (k' := 0) (n' := 0) (pc' := 153) (st' := []) rfl rfl rfl rfl ?_
          refine x_aload_n hC 2 rfl dX7_samples_153 ?_
          have k44 : hK σ23 this = 8 := (hag11 this (by rw [k42]; decide)).1.trans k42
          refine x_getR (n0 := this) hC (ci := 7) (T := TX7) (N := 36) (C := RX7) 27 k44 rfl rfl (by decide) rfl q716 dX7_samples_154 ?_
          refine x_iload_n hC 3 rfl dX7_samples_157 ?_
          refine x_dup2 hC (by first | rfl | exact rv_cat) (by first | rfl | exact rv_cat) dX7_samples_158 ?_
          obtain ⟨m25, hm25, h⟩ := h
          rw [show rv ρ (hR σ23 this 27) = Value.ref (ρ m25) from by rw [hm25]; rfl]
          obtain ⟨k45, h⟩ := h
          obtain ⟨v36, h⟩ := h
          refine x_iald (a := m25) hC k45 v36 dX7_samples_159 ?_
          refine x_iconst (v := 1) hC dX7_samples_160 (by decide) ?_
          refine x_iadd hC dX7_samples_161 ?_
          refine x_iast (a := m25) hC k45 v36 dX7_samples_162 ?_
          refine xJ.nmH (fun σ24 e13 => ?_)
          have h := h σ24 e13
          have r13 : hR σ24 = hR σ23 ∧ hL σ24 = hL σ23 := by rw [e13]; exact ⟨rfl, rfl⟩
          refine x_aload_n hC 2 rfl dX7_samples_163 ?_
          have k46 : hK σ24 this = 8 := by rw [e13]; exact k44
          refine x_getR (n0 := this) hC (ci := 7) (T := TX7) (N := 36) (C := RX7) 29 k46 rfl rfl (by decide) rfl q718 dX7_samples_164 ?_
          rw [r13.1]
          refine x_iconst (v := 4) hC dX7_samples_167 (by decide) ?_
          refine x_iload_n hC 3 rfl dX7_samples_168 ?_
          refine x_imul hC dX7_samples_169 ?_
          refine x_iconst (v := 1) hC dX7_samples_170 (by decide) ?_
          obtain ⟨m26, hm26, h⟩ := h
          rw [show rv ρ (hR σ23 this 29) = Value.ref (ρ m26) from by rw [hm26]; rfl]
          obtain ⟨k47, h⟩ := h
          obtain ⟨v37, h⟩ := h
          refine x_zast (a := m26) hC zb1 k47 (by rw [r13.2]; exact v37) dX7_samples_171 ?_
          refine xJ.nmH (fun σ25 e14 => ?_)
          have h := h σ25 e14
          have r14 : hR σ25 = hR σ23 ∧ hL σ25 = hL σ23 := by rw [e14]; exact ⟨r13.1, r13.2⟩
          refine x_goto (tgt := 193) hC dX7_samples_172 (by decide) ?_
          exact x_vret hC hr dX7_samples_193 (by decide) (by decide) ⟨rfl, rfl, h⟩
      · have h := h.2 c9
        refine x_aload_n hC 2 rfl dX7_samples_94 ?_
        refine x_iconst (v := 4) hC dX7_samples_95 (by decide) ?_
        refine x_iload_n hC 3 rfl dX7_samples_96 ?_
        refine x_imul hC dX7_samples_97 ?_
        refine x_aload_n hC 2 rfl dX7_samples_98 ?_
        refine x_getR (n0 := this) hC (ci := 7) (T := TX7) (N := 36) (C := RX7) 27 k38 rfl rfl (by decide) rfl q716 dX7_samples_99 ?_
        rw [r12.1]
        rw [show rv ρ (hR σ this 27) = Value.ref (ρ m21) from by rw [hm21]; rfl]
        refine x_iload_n hC 3 rfl dX7_samples_102 ?_
        refine x_iald (a := m21) hC k39 (by rw [r12.2]; exact v29) dX7_samples_103 ?_
        refine x_iadd hC dX7_samples_104 ?_
        refine x_iload_n hC 1 rfl dX7_samples_105 ?_
        refine x_iconst (v := 0) hC dX7_samples_106 (by decide) ?_
        refine x_callV (n0 := this) (as := [.int ((4 * p1) + (hI σ20 m21 (Int32.toNatClampNeg p1))), .int x1, .int 0]) (rest := []) hC (ci := 7) (r := (RX7, TX7, 36)) k38 rfl (fun l hl => m7_puts l hl G ρ this ((4 * p1) + (hI σ20 m21 (Int32.toNatClampNeg p1))) x1 0 σ20 _ h) q832 q834 s16 q3 q835 ⟨rfl, hd7_puts⟩ (by decide) ⟨(by decide), (by decide)⟩ (by first | exact Nat.le_of_ble_eq_true rfl | (simp [rv_cat]; done) | (simp (decide := true) [rv_cat, cat_ref, cat_int]; done)) rfl dX7_samples_107 (fun E σ9 hx => False.elim hx) (fun v38 σ26 ρ12 hp12 hag12 => ?_)
        obtain ⟨e9, e8, h⟩ := hp12
        rw [e8, e9]
        refine xJ.nrm (k' := 0) (n' := 0) (pc' := 110) (st' := []) rfl rfl rfl rfl ?_
        refine x_aload_n hC 2 rfl dX7_samples_110 ?_
        have k48 : hK σ26 this = 8 := (hag12 this (by rw [k38]; decide)).1.trans k38
        refine x_getR (n0 := this) hC (ci := 7) (T := TX7) (N := 36) (C := RX7) 27 k48 rfl rfl (by decide) rfl q716 dX7_samples_111 ?_
        refine x_iload_n hC 3 rfl dX7_samples_114 ?_
        refine x_dup2 hC (by first | rfl | exact rv_cat) (by first | rfl | exact rv_cat) dX7_samples_115 ?_
        obtain ⟨m27, hm27, h⟩ := h
        rw [show rv ρ (hR σ26 this 27) = Value.ref (ρ m27) from by rw [hm27]; rfl]
        obtain ⟨k49, h⟩ := h
        obtain ⟨v39, h⟩ := h
        refine x_iald (a := m27) hC k49 v39 dX7_samples_116 ?_
        refine x_iconst (v := 1) hC dX7_samples_117 (by decide) ?_
        refine x_iadd hC dX7_samples_118 ?_
        refine x_iast (a := m27) hC k49 v39 dX7_samples_119 ?_
        refine xJ.nmH (fun σ27 e15 => ?_)
        have h := h σ27 e15
        have r15 : hR σ27 = hR σ26 ∧ hL σ27 = hL σ26 := by rw [e15]; exact ⟨rfl, rfl⟩
        refine x_goto (tgt := 193) hC dX7_samples_120 (by decide) ?_
        exact x_vret hC hr dX7_samples_193 (by decide) (by decide) ⟨rfl, rfl, h⟩
    · have h := h.2 c8
      refine x_iload_n hC 0 rfl dX7_samples_51 ?_
      refine x_aload_n hC 2 rfl dX7_samples_52 ?_
      refine x_getR (n0 := this) hC (ci := 7) (T := TX7) (N := 36) (C := RX7) 22 k1 rfl rfl (by decide) rfl q711 dX7_samples_53 ?_
      refine x_iload_n hC 3 rfl dX7_samples_56 ?_
      obtain ⟨m28, hm28, h⟩ := h
      rw [show rv ρ (hR σ this 22) = Value.ref (ρ m28) from by rw [hm28]; rfl]
      obtain ⟨k50, h⟩ := h
      obtain ⟨v40, h⟩ := h
      refine x_iald (a := m28) hC k50 v40 dX7_samples_57 ?_
      refine x_icmp_gt (tgt := 62) hC dX7_samples_58 (by decide) (fun c11 => ?_) (fun c11 => ?_)
      · have h := h.1 c11
        refine x_aload_n hC 2 rfl dX7_samples_62 ?_
        refine x_getR (n0 := this) hC (ci := 7) (T := TX7) (N := 36) (C := RX7) 26 k1 rfl rfl (by decide) rfl q715 dX7_samples_63 ?_
        rw [show rv ρ (hR σ this 26) = Value.ref (ρ m20) from by rw [hm20]; rfl]
        refine x_iload_n hC 3 rfl dX7_samples_66 ?_
        refine x_dup2 hC (by first | rfl | exact rv_cat) (by first | rfl | exact rv_cat) dX7_samples_67 ?_
        refine x_iald (a := m20) hC k35 v28 dX7_samples_68 ?_
        refine x_iconst (v := 1) hC dX7_samples_69 (by decide) ?_
        refine x_iadd hC dX7_samples_70 ?_
        refine x_iast (a := m20) hC k35 v28 dX7_samples_71 ?_
        refine xJ.nmH (fun σ28 e16 => ?_)
        have h := h σ28 e16
        have r16 : hR σ28 = hR σ ∧ hL σ28 = hL σ := by rw [e16]; exact ⟨rfl, rfl⟩
        refine x_aload_n hC 2 rfl dX7_samples_72 ?_
        have k51 : hK σ28 this = 8 := by rw [e16]; exact k1
        refine x_getR (n0 := this) hC (ci := 7) (T := TX7) (N := 36) (C := RX7) 25 k51 rfl rfl (by decide) rfl q714 dX7_samples_73 ?_
        rw [r16.1]
        rw [show rv ρ (hR σ this 25) = Value.ref (ρ m3) from by rw [hm3]; rfl]
        refine x_iload_n hC 3 rfl dX7_samples_76 ?_
        refine x_iload_n hC 1 rfl dX7_samples_77 ?_
        have k52 : hK σ28 m3 = 9 := by rw [e16]; exact k4
        refine x_iast (a := m3) hC k52 (by rw [r16.2]; exact v3) dX7_samples_78 ?_
        refine xJ.nmH (fun σ29 e17 => ?_)
        have h := h σ29 e17
        have r17 : hR σ29 = hR σ ∧ hL σ29 = hL σ := by rw [e17]; exact ⟨r16.1, r16.2⟩
        refine x_aload_n hC 2 rfl dX7_samples_79 ?_
        have k53 : hK σ29 this = 8 := by rw [e17]; exact k51
        refine x_getR (n0 := this) hC (ci := 7) (T := TX7) (N := 36) (C := RX7) 27 k53 rfl rfl (by decide) rfl q716 dX7_samples_80 ?_
        rw [r17.1]
        refine x_iload_n hC 3 rfl dX7_samples_83 ?_
        obtain ⟨m29, hm29, h⟩ := h
        rw [show rv ρ (hR σ this 27) = Value.ref (ρ m29) from by rw [hm29]; rfl]
        obtain ⟨k54, h⟩ := h
        obtain ⟨v41, h⟩ := h
        refine x_iald (a := m29) hC k54 (by rw [r17.2]; exact v41) dX7_samples_84 ?_
        refine x_aload_n hC 2 rfl dX7_samples_85 ?_
        refine x_getR (n0 := this) hC (ci := 7) (T := TX7) (N := 36) (C := RX7) 20 k53 rfl rfl (by decide) rfl q709 dX7_samples_86 ?_
        rw [r17.1]
        refine x_iload_n hC 3 rfl dX7_samples_89 ?_
        obtain ⟨m30, hm30, h⟩ := h
        rw [show rv ρ (hR σ this 20) = Value.ref (ρ m30) from by rw [hm30]; rfl]
        obtain ⟨k55, h⟩ := h
        obtain ⟨v42, h⟩ := h
        refine x_iald (a := m30) hC k55 (by rw [r17.2]; exact v42) dX7_samples_90 ?_
        refine x_icmp_ge (tgt := 123) hC dX7_samples_91 (by decide) (fun c12 => ?_) (fun c12 => ?_)
        · have h := h.1 c12
          refine x_aload_n hC 2 rfl dX7_samples_123 ?_
          refine x_getR (n0 := this) hC (ci := 7) (T := TX7) (N := 36) (C := RX7) 21 k53 rfl rfl (by decide) rfl q710 dX7_samples_124 ?_
          rw [r17.1]
          refine x_iload_n hC 3 rfl dX7_samples_127 ?_
          obtain ⟨m31, hm31, h⟩ := h
          rw [show rv ρ (hR σ this 21) = Value.ref (ρ m31) from by rw [hm31]; rfl]
          obtain ⟨k56, h⟩ := h
          obtain ⟨v43, h⟩ := h
          refine x_zald (a := m31) hC k56 (by rw [r17.2]; exact v43) dX7_samples_128 ?_
          refine x_if_eq (tgt := 175) hC dX7_samples_129 (by decide) (fun c13 => ?_) (fun c13 => ?_)
          · have h := h.1 c13
            refine x_aload_n hC 2 rfl dX7_samples_175 ?_
            refine x_iconst (v := 4) hC dX7_samples_176 (by decide) ?_
            refine x_iload_n hC 3 rfl dX7_samples_177 ?_
            refine x_imul hC dX7_samples_178 ?_
            refine x_aload_n hC 2 rfl dX7_samples_179 ?_
            refine x_getR (n0 := this) hC (ci := 7) (T := TX7) (N := 36) (C := RX7) 27 k53 rfl rfl (by decide) rfl q716 dX7_samples_180 ?_
            rw [r17.1]
            rw [show rv ρ (hR σ this 27) = Value.ref (ρ m29) from by rw [hm29]; rfl]
            refine x_iload_n hC 3 rfl dX7_samples_183 ?_
            refine x_iald (a := m29) hC k54 (by rw [r17.2]; exact v41) dX7_samples_184 ?_
            refine x_iadd hC dX7_samples_185 ?_
            refine x_iconst (v := 1) hC dX7_samples_186 (by decide) ?_
            refine x_isub hC dX7_samples_187 ?_
            refine x_iload_n hC 1 rfl dX7_samples_188 ?_
            refine x_iconst (v := 1) hC dX7_samples_189 (by decide) ?_
            refine x_callV (n0 := this) (as := [.int (((4 * p1) + (hI σ29 m29 (Int32.toNatClampNeg p1))) - 1), .int x1, .int 1]) (rest := []) hC (ci := 7) (r := (RX7, TX7, 36)) k53 rfl (fun l hl => m7_puts l hl G ρ this (((4 * p1) + (hI σ29 m29 (Int32.toNatClampNeg p1))) - 1) x1 1 σ29 _ h) q832 q834 s16 q3 q835 ⟨rfl, hd7_puts⟩ (by decide) ⟨(by decide), (by decide)⟩ (by first | exact Nat.le_of_ble_eq_true rfl | (simp [rv_cat]; done) | (simp (decide := true) [rv_cat, cat_ref, cat_int]; done)) rfl dX7_samples_190 (fun E σ9 hx => False.elim hx) (fun v44 σ30 ρ13 hp13 hag13 => ?_)
            obtain ⟨e9, e8, h⟩ := hp13
            rw [e8, e9]
            refine xJ.nrm (k' := 0) (n' := 0) (pc' := 193) (st' := []) rfl rfl rfl rfl ?_
            exact x_vret hC hr dX7_samples_193 (by decide) (by decide) ⟨rfl, rfl, h⟩
          · have h := h.2 c13
            refine x_aload_n hC 2 rfl dX7_samples_132 ?_
            refine x_iload_n hC 3 rfl dX7_samples_133 ?_
            refine x_callV (n0 := this) (as := [.int p1]) (rest := []) hC (ci := 7) (r := (RX7, TX7, 36)) k53 rfl (fun l hl => m7_takesFirst l hl G ρ this p1 σ29 _ h) q836 q838 s17 q3 q839 ⟨rfl, hd7_takesFirst⟩ (by decide) ⟨(by decide), (by decide)⟩ (by first | exact Nat.le_of_ble_eq_true rfl | (simp [rv_cat]; done) | (simp (decide := true) [rv_cat, cat_ref, cat_int]; done)) rfl dX7_samples_134 (fun E σ9 hx => False.elim hx) (fun v45 σ31 ρ14 hp14 hag14 => ?_)
            obtain ⟨e9, e8, h⟩ := hp14
            rw [e8, e9]
            refine xJ.nrm (k' := 0) (n' := 0) (pc' := 137) (st' := []) rfl rfl rfl rfl ?_
            refine x_aload_n hC 2 rfl dX7_samples_137 ?_
            refine x_iconst (v := 4) hC dX7_samples_138 (by decide) ?_
            refine x_iload_n hC 3 rfl dX7_samples_139 ?_
            refine x_imul hC dX7_samples_140 ?_
            refine x_aload_n hC 2 rfl dX7_samples_141 ?_
            have k57 : hK σ31 this = 8 := (hag14 this (by rw [k53]; decide)).1.trans k53
            refine x_getR (n0 := this) hC (ci := 7) (T := TX7) (N := 36) (C := RX7) 27 k57 rfl rfl (by decide) rfl q716 dX7_samples_142 ?_
            refine x_iload_n hC 3 rfl dX7_samples_145 ?_
            obtain ⟨m32, hm32, h⟩ := h
            rw [show rv ρ (hR σ31 this 27) = Value.ref (ρ m32) from by rw [hm32]; rfl]
            obtain ⟨k58, h⟩ := h
            obtain ⟨v46, h⟩ := h
            refine x_iald (a := m32) hC k58 v46 dX7_samples_146 ?_
            refine x_iadd hC dX7_samples_147 ?_
            refine x_iload_n hC 1 rfl dX7_samples_148 ?_
            refine x_iconst (v := 0) hC dX7_samples_149 (by decide) ?_
            refine x_callV (n0 := this) (as := [.int ((4 * p1) + (hI σ31 m32 (Int32.toNatClampNeg p1))), .int x1, .int 0]) (rest := []) hC (ci := 7) (r := (RX7, TX7, 36)) k57 rfl (fun l hl => m7_puts l hl G ρ this ((4 * p1) + (hI σ31 m32 (Int32.toNatClampNeg p1))) x1 0 σ31 _ h) q832 q834 s16 q3 q835 ⟨rfl, hd7_puts⟩ (by decide) ⟨(by decide), (by decide)⟩ (by first | exact Nat.le_of_ble_eq_true rfl | (simp [rv_cat]; done) | (simp (decide := true) [rv_cat, cat_ref, cat_int]; done)) rfl dX7_samples_150 (fun E σ9 hx => False.elim hx) (fun v47 σ32 ρ15 hp15 hag15 => ?_)
            obtain ⟨e9, e8, h⟩ := hp15
            rw [e8, e9]
            refine xJ.nrm (k' := 0) (n' := 0) (pc' := 153) (st' := []) rfl rfl rfl rfl ?_
            refine x_aload_n hC 2 rfl dX7_samples_153 ?_
            have k59 : hK σ32 this = 8 := (hag15 this (by rw [k57]; decide)).1.trans k57
            refine x_getR (n0 := this) hC (ci := 7) (T := TX7) (N := 36) (C := RX7) 27 k59 rfl rfl (by decide) rfl q716 dX7_samples_154 ?_
            refine x_iload_n hC 3 rfl dX7_samples_157 ?_
            refine x_dup2 hC (by first | rfl | exact rv_cat) (by first | rfl | exact rv_cat) dX7_samples_158 ?_
            obtain ⟨m33, hm33, h⟩ := h
            rw [show rv ρ (hR σ32 this 27) = Value.ref (ρ m33) from by rw [hm33]; rfl]
            obtain ⟨k60, h⟩ := h
            obtain ⟨v48, h⟩ := h
            refine x_iald (a := m33) hC k60 v48 dX7_samples_159 ?_
            refine x_iconst (v := 1) hC dX7_samples_160 (by decide) ?_
            refine x_iadd hC dX7_samples_161 ?_
            refine x_iast (a := m33) hC k60 v48 dX7_samples_162 ?_
            refine xJ.nmH (fun σ33 e18 => ?_)
            have h := h σ33 e18
            have r18 : hR σ33 = hR σ32 ∧ hL σ33 = hL σ32 := by rw [e18]; exact ⟨rfl, rfl⟩
            refine x_aload_n hC 2 rfl dX7_samples_163 ?_
            have k61 : hK σ33 this = 8 := by rw [e18]; exact k59
            refine x_getR (n0 := this) hC (ci := 7) (T := TX7) (N := 36) (C := RX7) 29 k61 rfl rfl (by decide) rfl q718 dX7_samples_164 ?_
            rw [r18.1]
            refine x_iconst (v := 4) hC dX7_samples_167 (by decide) ?_
            refine x_iload_n hC 3 rfl dX7_samples_168 ?_
            refine x_imul hC dX7_samples_169 ?_
            refine x_iconst (v := 1) hC dX7_samples_170 (by decide) ?_
            obtain ⟨m34, hm34, h⟩ := h
            rw [show rv ρ (hR σ32 this 29) = Value.ref (ρ m34) from by rw [hm34]; rfl]
            obtain ⟨k62, h⟩ := h
            obtain ⟨v49, h⟩ := h
            refine x_zast (a := m34) hC zb1 k62 (by rw [r18.2]; exact v49) dX7_samples_171 ?_
            refine xJ.nmH (fun σ34 e19 => ?_)
            have h := h σ34 e19
            have r19 : hR σ34 = hR σ32 ∧ hL σ34 = hL σ32 := by rw [e19]; exact ⟨r18.1, r18.2⟩
            refine x_goto (tgt := 193) hC dX7_samples_172 (by decide) ?_
            exact x_vret hC hr dX7_samples_193 (by decide) (by decide) ⟨rfl, rfl, h⟩
        · have h := h.2 c12
          refine x_aload_n hC 2 rfl dX7_samples_94 ?_
          refine x_iconst (v := 4) hC dX7_samples_95 (by decide) ?_
          refine x_iload_n hC 3 rfl dX7_samples_96 ?_
          refine x_imul hC dX7_samples_97 ?_
          refine x_aload_n hC 2 rfl dX7_samples_98 ?_
          refine x_getR (n0 := this) hC (ci := 7) (T := TX7) (N := 36) (C := RX7) 27 k53 rfl rfl (by decide) rfl q716 dX7_samples_99 ?_
          rw [r17.1]
          rw [show rv ρ (hR σ this 27) = Value.ref (ρ m29) from by rw [hm29]; rfl]
          refine x_iload_n hC 3 rfl dX7_samples_102 ?_
          refine x_iald (a := m29) hC k54 (by rw [r17.2]; exact v41) dX7_samples_103 ?_
          refine x_iadd hC dX7_samples_104 ?_
          refine x_iload_n hC 1 rfl dX7_samples_105 ?_
          refine x_iconst (v := 0) hC dX7_samples_106 (by decide) ?_
          refine x_callV (n0 := this) (as := [.int ((4 * p1) + (hI σ29 m29 (Int32.toNatClampNeg p1))), .int x1, .int 0]) (rest := []) hC (ci := 7) (r := (RX7, TX7, 36)) k53 rfl (fun l hl => m7_puts l hl G ρ this ((4 * p1) + (hI σ29 m29 (Int32.toNatClampNeg p1))) x1 0 σ29 _ h) q832 q834 s16 q3 q835 ⟨rfl, hd7_puts⟩ (by decide) ⟨(by decide), (by decide)⟩ (by first | exact Nat.le_of_ble_eq_true rfl | (simp [rv_cat]; done) | (simp (decide := true) [rv_cat, cat_ref, cat_int]; done)) rfl dX7_samples_107 (fun E σ9 hx => False.elim hx) (fun v50 σ35 ρ16 hp16 hag16 => ?_)
          obtain ⟨e9, e8, h⟩ := hp16
          rw [e8, e9]
          refine xJ.nrm (k' := 0) (n' := 0) (pc' := 110) (st' := []) rfl rfl rfl rfl ?_
          refine x_aload_n hC 2 rfl dX7_samples_110 ?_
          have k63 : hK σ35 this = 8 := (hag16 this (by rw [k53]; decide)).1.trans k53
          refine x_getR (n0 := this) hC (ci := 7) (T := TX7) (N := 36) (C := RX7) 27 k63 rfl rfl (by decide) rfl q716 dX7_samples_111 ?_
          refine x_iload_n hC 3 rfl dX7_samples_114 ?_
          refine x_dup2 hC (by first | rfl | exact rv_cat) (by first | rfl | exact rv_cat) dX7_samples_115 ?_
          obtain ⟨m35, hm35, h⟩ := h
          rw [show rv ρ (hR σ35 this 27) = Value.ref (ρ m35) from by rw [hm35]; rfl]
          obtain ⟨k64, h⟩ := h
          obtain ⟨v51, h⟩ := h
          refine x_iald (a := m35) hC k64 v51 dX7_samples_116 ?_
          refine x_iconst (v := 1) hC dX7_samples_117 (by decide) ?_
          refine x_iadd hC dX7_samples_118 ?_
          refine x_iast (a := m35) hC k64 v51 dX7_samples_119 ?_
          refine xJ.nmH (fun σ36 e20 => ?_)
          have h := h σ36 e20
          have r20 : hR σ36 = hR σ35 ∧ hL σ36 = hL σ35 := by rw [e20]; exact ⟨rfl, rfl⟩
          refine x_goto (tgt := 193) hC dX7_samples_120 (by decide) ?_
          exact x_vret hC hr dX7_samples_193 (by decide) (by decide) ⟨rfl, rfl, h⟩
      · have h := h.2 c11
        exact x_vret hC hr dX7_samples_61 (by decide) (by decide) ⟨rfl, rfl, h⟩
