/-! PlantServerLaw.add -/
theorem dL_add_0 : decode cL_add 0 = .ok (.aload_n 0, 1) := by decide +kernel
theorem dL_add_1 : decode cL_add 1 = .ok (.iload_n 1, 1) := by decide +kernel
theorem dL_add_2 : decode cL_add 2 = .ok (.iload_n 2, 1) := by decide +kernel
theorem dL_add_3 : decode cL_add 3 = .ok (.iload_n 3, 1) := by decide +kernel
theorem dL_add_4 : decode cL_add 4 = .ok (.iload 4, 2) := by decide +kernel
theorem dL_add_6 : decode cL_add 6 = .ok (.iload 5, 2) := by decide +kernel
theorem dL_add_8 : decode cL_add 8 = .ok (.iload 6, 2) := by decide +kernel
theorem dL_add_10 : decode cL_add 10 = .ok (.invokevirtual 28, 3) := by decide +kernel
theorem dL_add_13 : decode cL_add 13 = .ok (.istore 7, 2) := by decide +kernel
theorem dL_add_15 : decode cL_add 15 = .ok (.goto 21, 3) := by decide +kernel
theorem dL_add_18 : decode cL_add 18 = .ok (.astore 8, 2) := by decide +kernel
theorem dL_add_20 : decode cL_add 20 = .ok (.sipush (-7100), 3) := by decide +kernel
theorem dL_add_23 : decode cL_add 23 = .ok (.ireturn, 1) := by decide +kernel
theorem dL_add_24 : decode cL_add 24 = .ok (.astore 8, 2) := by decide +kernel
theorem dL_add_26 : decode cL_add 26 = .ok (.sipush (-7200), 3) := by decide +kernel
theorem dL_add_29 : decode cL_add 29 = .ok (.ireturn, 1) := by decide +kernel
theorem dL_add_30 : decode cL_add 30 = .ok (.astore 8, 2) := by decide +kernel
theorem dL_add_32 : decode cL_add 32 = .ok (.sipush (-7300), 3) := by decide +kernel
theorem dL_add_35 : decode cL_add 35 = .ok (.ireturn, 1) := by decide +kernel
theorem dL_add_36 : decode cL_add 36 = .ok (.iload 7, 2) := by decide +kernel
theorem dL_add_38 : decode cL_add 38 = .ok (.ireturn, 1) := by decide +kernel
abbrev rmL_add : Room := { frames := 8, cells := 10, slots := 57, locals := 141 }
theorem hdL_add : yL_add.cls ≠ "java/lang/invoke/MethodHandle" ∧ yL_add.cls ≠ "java/lang/invoke/VarHandle" ∧ (parseMethodDescriptor yL_add.desc).map (fun d => d.parameters.length) = some 7 := by decide +kernel
set_option maxHeartbeats 4000000 in
set_option maxRecDepth 20000 in
theorem mL_add (l : Launch) (hl : l.stackTraces = false) (G : xG) (ρ : Nm → Nat) (a1 : Nm) (p2 : Int32) (p3 : Int32) (p4 : Int32) (p5 : Int32) (p6 : Int32) (p7 : Int32) (σ : PH) (Q : Int32 → PH → Prop) (h : wL_add a1 p2 p3 p4 p5 p6 p7 σ Q) : xMet l yL_add (.codeWith yL_add cL_add 9 (some .int) [(0, 15, 18, 14), (0, 15, 24, 16), (0, 15, 30, 22)]) rmL_add G ρ σ [.ref (ρ a1), .int p2, .int p3, .int p4, .int p5, .int p6, .int p7] (eIA Q) xNo := by
  refine xMet.ofW hl (by decide +kernel) (Nat.le_of_ble_eq_true rfl) (fun X hC hr hn htab h0 => ?_)
  have hC : xC G X "PlantServerLaw" cL_add 9 rmL_add := hC
  unfold wL_add at h
  refine xJ.loc (L' := [(0, .ref (ρ a1)), (1, .int p2), (2, .int p3), (3, .int p4), (4, .int p5), (5, .int p6), (6, .int p7)]) rfl ?_
  refine x_aload_n hC 0 rfl dL_add_0 ?_
  refine x_iload_n hC 1 rfl dL_add_1 ?_
  refine x_iload_n hC 2 rfl dL_add_2 ?_
  refine x_iload_n hC 3 rfl dL_add_3 ?_
  refine x_iload hC 4 rfl dL_add_4 ?_
  refine x_iload hC 5 rfl dL_add_6 ?_
  refine x_iload hC 6 rfl dL_add_8 ?_
  obtain ⟨k1, h⟩ := h
  refine xJ.sub (L' := []) [] rfl ?_
  refine x_callV (n0 := a1) (as := [.int p2, .int p3, .int p4, .int p5, .int p6, .int p7]) (rest := []) hC (ci := 6) (r := (RX6, TX6, 9)) k1 rfl (fun l hl => m6_add l hl G ρ a1 p2 p3 p4 p5 p6 p7 σ _ _ h) q298 q299 q300 q1 q301 ⟨rfl, hd6_add⟩ (by decide) ⟨(by decide), (by decide)⟩ (by first | exact Nat.le_of_ble_eq_true rfl | (simp [rv_cat]; done) | (simp (decide := true) [rv_cat, cat_ref, cat_int]; done)) rfl dL_add_10 (fun E σ2 hx => ?_) (fun v1 σ1 ρ1 hp1 hag1 => ?_)
  · have hE9 := hx.2.2.2
    rcases hE9 with he | he | he
    · have h := hx.1 he
      subst he
      refine x_catch hC [] [(0, 15, 24, 16), (0, 15, 30, 22)] (0, 15, 18, 14) htab (by intro z hz; simp at hz) (by decide) (by decide) q269 xcast_xIO (fun qx1 => ?_)
      refine xJ.nrm (k' := 10) (n' := 57) (pc' := 18) (st' := [.ref qx1]) rfl rfl rfl rfl ?_
      refine x_astore (L' := [(8, .ref qx1)]) hC dL_add_18 (by decide) (by first | rfl | simp (decide := true) [rv_cat, cat_ref, cat_int]) ?_
      refine x_sipush (v := (-7100)) hC dL_add_20 (by decide) ?_
      exact x_iret hC hr dL_add_23 (by decide) (by decide) ⟨_, rfl, h⟩
    · have h := hx.2.1 he
      subst he
      refine x_catch hC [(0, 15, 18, 14)] [(0, 15, 30, 22)] (0, 15, 24, 16) htab (xpass1 (E := xIA) q269 (by decide) (by decide +kernel)) (by decide) (by decide) q90 xcast_xIA (fun qx2 => ?_)
      refine xJ.nrm (k' := 10) (n' := 57) (pc' := 24) (st' := [.ref qx2]) rfl rfl rfl rfl ?_
      refine x_astore (L' := [(8, .ref qx2)]) hC dL_add_24 (by decide) (by first | rfl | simp (decide := true) [rv_cat, cat_ref, cat_int]) ?_
      refine x_sipush (v := (-7200)) hC dL_add_26 (by decide) ?_
      exact x_iret hC hr dL_add_29 (by decide) (by decide) ⟨_, rfl, h⟩
    · have h := hx.2.2.1 he
      subst he
      refine x_catch hC [(0, 15, 18, 14), (0, 15, 24, 16)] [] (0, 15, 30, 22) htab (xpass2 (E := xIS) q269 (by decide) (by decide +kernel) q90 (by decide)) (by decide) (by decide) q91 xcast_xIS (fun qx3 => ?_)
      refine xJ.nrm (k' := 10) (n' := 57) (pc' := 30) (st' := [.ref qx3]) rfl rfl rfl rfl ?_
      refine x_astore (L' := [(8, .ref qx3)]) hC dL_add_30 (by decide) (by first | rfl | simp (decide := true) [rv_cat, cat_ref, cat_int]) ?_
      refine x_sipush (v := (-7300)) hC dL_add_32 (by decide) ?_
      exact x_iret hC hr dL_add_35 (by decide) (by decide) ⟨_, rfl, h⟩
  · obtain ⟨r1, e8, h⟩ := hp1
    rw [e8]
    refine xJ.nrm (k' := 10) (n' := 57) (pc' := 13) (st' := [.int r1]) rfl rfl rfl rfl ?_
    refine x_istore (L' := [(7, .int r1)]) hC dL_add_13 (by decide) (by first | rfl | simp (decide := true) [rv_cat, cat_ref, cat_int]) ?_
    refine x_goto (tgt := 36) hC dL_add_15 (by decide) ?_
    refine x_iload hC 0 rfl dL_add_36 ?_
    exact x_iret hC hr dL_add_38 (by decide) (by decide) ⟨_, rfl, h⟩
/-! PlantServerLaw.sample -/
theorem dL_sample_0 : decode cL_sample 0 = .ok (.aload_n 1, 1) := by decide +kernel
theorem dL_sample_1 : decode cL_sample 1 = .ok (.aload_n 2, 1) := by decide +kernel
theorem dL_sample_2 : decode cL_sample 2 = .ok (.iload_n 0, 1) := by decide +kernel
theorem dL_sample_3 : decode cL_sample 3 = .ok (.iaload, 1) := by decide +kernel
theorem dL_sample_4 : decode cL_sample 4 = .ok (.iconst 1, 1) := by decide +kernel
theorem dL_sample_5 : decode cL_sample 5 = .ok (.ishr, 1) := by decide +kernel
theorem dL_sample_6 : decode cL_sample 6 = .ok (.bipush 15, 2) := by decide +kernel
theorem dL_sample_8 : decode cL_sample 8 = .ok (.iand, 1) := by decide +kernel
theorem dL_sample_9 : decode cL_sample 9 = .ok (.iaload, 1) := by decide +kernel
theorem dL_sample_10 : decode cL_sample 10 = .ok (.istore 7, 2) := by decide +kernel
theorem dL_sample_12 : decode cL_sample 12 = .ok (.aload_n 2, 1) := by decide +kernel
theorem dL_sample_13 : decode cL_sample 13 = .ok (.iload_n 0, 1) := by decide +kernel
theorem dL_sample_14 : decode cL_sample 14 = .ok (.iaload, 1) := by decide +kernel
theorem dL_sample_15 : decode cL_sample 15 = .ok (.bipush 15, 2) := by decide +kernel
theorem dL_sample_17 : decode cL_sample 17 = .ok (.ishr, 1) := by decide +kernel
theorem dL_sample_18 : decode cL_sample 18 = .ok (.istore 8, 2) := by decide +kernel
theorem dL_sample_20 : decode cL_sample 20 = .ok (.aload 4, 2) := by decide +kernel
theorem dL_sample_22 : decode cL_sample 22 = .ok (.iload_n 0, 1) := by decide +kernel
theorem dL_sample_23 : decode cL_sample 23 = .ok (.iaload, 1) := by decide +kernel
theorem dL_sample_24 : decode cL_sample 24 = .ok (.ifCond .le 26, 3) := by decide +kernel
theorem dL_sample_27 : decode cL_sample 27 = .ok (.iload 7, 2) := by decide +kernel
theorem dL_sample_29 : decode cL_sample 29 = .ok (.aload_n 3, 1) := by decide +kernel
theorem dL_sample_30 : decode cL_sample 30 = .ok (.iload_n 0, 1) := by decide +kernel
theorem dL_sample_31 : decode cL_sample 31 = .ok (.iaload, 1) := by decide +kernel
theorem dL_sample_32 : decode cL_sample 32 = .ok (.iload 8, 2) := by decide +kernel
theorem dL_sample_34 : decode cL_sample 34 = .ok (.iadd, 1) := by decide +kernel
theorem dL_sample_35 : decode cL_sample 35 = .ok (.if_icmp .gt 15, 3) := by decide +kernel
theorem dL_sample_38 : decode cL_sample 38 = .ok (.iload 7, 2) := by decide +kernel
theorem dL_sample_40 : decode cL_sample 40 = .ok (.aload_n 3, 1) := by decide +kernel
theorem dL_sample_41 : decode cL_sample 41 = .ok (.iload_n 0, 1) := by decide +kernel
theorem dL_sample_42 : decode cL_sample 42 = .ok (.iaload, 1) := by decide +kernel
theorem dL_sample_43 : decode cL_sample 43 = .ok (.iload 8, 2) := by decide +kernel
theorem dL_sample_45 : decode cL_sample 45 = .ok (.isub, 1) := by decide +kernel
theorem dL_sample_46 : decode cL_sample 46 = .ok (.if_icmp .lt 4, 3) := by decide +kernel
theorem dL_sample_49 : decode cL_sample 49 = .ok (.return_, 1) := by decide +kernel
theorem dL_sample_50 : decode cL_sample 50 = .ok (.aload 4, 2) := by decide +kernel
theorem dL_sample_52 : decode cL_sample 52 = .ok (.iload_n 0, 1) := by decide +kernel
theorem dL_sample_53 : decode cL_sample 53 = .ok (.dup2, 1) := by decide +kernel
theorem dL_sample_54 : decode cL_sample 54 = .ok (.iaload, 1) := by decide +kernel
theorem dL_sample_55 : decode cL_sample 55 = .ok (.iconst 1, 1) := by decide +kernel
theorem dL_sample_56 : decode cL_sample 56 = .ok (.iadd, 1) := by decide +kernel
theorem dL_sample_57 : decode cL_sample 57 = .ok (.iastore, 1) := by decide +kernel
theorem dL_sample_58 : decode cL_sample 58 = .ok (.aload_n 3, 1) := by decide +kernel
theorem dL_sample_59 : decode cL_sample 59 = .ok (.iload_n 0, 1) := by decide +kernel
theorem dL_sample_60 : decode cL_sample 60 = .ok (.iload 7, 2) := by decide +kernel
theorem dL_sample_62 : decode cL_sample 62 = .ok (.iastore, 1) := by decide +kernel
theorem dL_sample_63 : decode cL_sample 63 = .ok (.aload_n 2, 1) := by decide +kernel
theorem dL_sample_64 : decode cL_sample 64 = .ok (.iload_n 0, 1) := by decide +kernel
theorem dL_sample_65 : decode cL_sample 65 = .ok (.iaload, 1) := by decide +kernel
theorem dL_sample_66 : decode cL_sample 66 = .ok (.bipush 10, 2) := by decide +kernel
theorem dL_sample_68 : decode cL_sample 68 = .ok (.ishr, 1) := by decide +kernel
theorem dL_sample_69 : decode cL_sample 69 = .ok (.bipush 7, 2) := by decide +kernel
theorem dL_sample_71 : decode cL_sample 71 = .ok (.iand, 1) := by decide +kernel
theorem dL_sample_72 : decode cL_sample 72 = .ok (.istore 9, 2) := by decide +kernel
theorem dL_sample_74 : decode cL_sample 74 = .ok (.aload 5, 2) := by decide +kernel
theorem dL_sample_76 : decode cL_sample 76 = .ok (.iload_n 0, 1) := by decide +kernel
theorem dL_sample_77 : decode cL_sample 77 = .ok (.iaload, 1) := by decide +kernel
theorem dL_sample_78 : decode cL_sample 78 = .ok (.iload 9, 2) := by decide +kernel
theorem dL_sample_80 : decode cL_sample 80 = .ok (.if_icmp .ge 27, 3) := by decide +kernel
theorem dL_sample_83 : decode cL_sample 83 = .ok (.aload 6, 2) := by decide +kernel
theorem dL_sample_85 : decode cL_sample 85 = .ok (.iconst 4, 1) := by decide +kernel
theorem dL_sample_86 : decode cL_sample 86 = .ok (.iload_n 0, 1) := by decide +kernel
theorem dL_sample_87 : decode cL_sample 87 = .ok (.imul, 1) := by decide +kernel
theorem dL_sample_88 : decode cL_sample 88 = .ok (.aload 5, 2) := by decide +kernel
theorem dL_sample_90 : decode cL_sample 90 = .ok (.iload_n 0, 1) := by decide +kernel
theorem dL_sample_91 : decode cL_sample 91 = .ok (.iaload, 1) := by decide +kernel
theorem dL_sample_92 : decode cL_sample 92 = .ok (.iadd, 1) := by decide +kernel
theorem dL_sample_93 : decode cL_sample 93 = .ok (.iconst 2, 1) := by decide +kernel
theorem dL_sample_94 : decode cL_sample 94 = .ok (.iload 7, 2) := by decide +kernel
theorem dL_sample_96 : decode cL_sample 96 = .ok (.imul, 1) := by decide +kernel
theorem dL_sample_97 : decode cL_sample 97 = .ok (.iastore, 1) := by decide +kernel
theorem dL_sample_98 : decode cL_sample 98 = .ok (.aload 5, 2) := by decide +kernel
theorem dL_sample_100 : decode cL_sample 100 = .ok (.iload_n 0, 1) := by decide +kernel
theorem dL_sample_101 : decode cL_sample 101 = .ok (.dup2, 1) := by decide +kernel
theorem dL_sample_102 : decode cL_sample 102 = .ok (.iaload, 1) := by decide +kernel
theorem dL_sample_103 : decode cL_sample 103 = .ok (.iconst 1, 1) := by decide +kernel
theorem dL_sample_104 : decode cL_sample 104 = .ok (.iadd, 1) := by decide +kernel
theorem dL_sample_105 : decode cL_sample 105 = .ok (.iastore, 1) := by decide +kernel
theorem dL_sample_106 : decode cL_sample 106 = .ok (.return_, 1) := by decide +kernel
theorem dL_sample_107 : decode cL_sample 107 = .ok (.aload_n 2, 1) := by decide +kernel
theorem dL_sample_108 : decode cL_sample 108 = .ok (.iload_n 0, 1) := by decide +kernel
theorem dL_sample_109 : decode cL_sample 109 = .ok (.iaload, 1) := by decide +kernel
theorem dL_sample_110 : decode cL_sample 110 = .ok (.bipush 13, 2) := by decide +kernel
theorem dL_sample_112 : decode cL_sample 112 = .ok (.ishr, 1) := by decide +kernel
theorem dL_sample_113 : decode cL_sample 113 = .ok (.iconst 1, 1) := by decide +kernel
theorem dL_sample_114 : decode cL_sample 114 = .ok (.iand, 1) := by decide +kernel
theorem dL_sample_115 : decode cL_sample 115 = .ok (.ifCond .ne 21, 3) := by decide +kernel
theorem dL_sample_118 : decode cL_sample 118 = .ok (.aload 6, 2) := by decide +kernel
theorem dL_sample_120 : decode cL_sample 120 = .ok (.iconst 4, 1) := by decide +kernel
theorem dL_sample_121 : decode cL_sample 121 = .ok (.iload_n 0, 1) := by decide +kernel
theorem dL_sample_122 : decode cL_sample 122 = .ok (.imul, 1) := by decide +kernel
theorem dL_sample_123 : decode cL_sample 123 = .ok (.iload 9, 2) := by decide +kernel
theorem dL_sample_125 : decode cL_sample 125 = .ok (.iadd, 1) := by decide +kernel
theorem dL_sample_126 : decode cL_sample 126 = .ok (.iconst 1, 1) := by decide +kernel
theorem dL_sample_127 : decode cL_sample 127 = .ok (.isub, 1) := by decide +kernel
theorem dL_sample_128 : decode cL_sample 128 = .ok (.iconst 2, 1) := by decide +kernel
theorem dL_sample_129 : decode cL_sample 129 = .ok (.iload 7, 2) := by decide +kernel
theorem dL_sample_131 : decode cL_sample 131 = .ok (.imul, 1) := by decide +kernel
theorem dL_sample_132 : decode cL_sample 132 = .ok (.iconst 1, 1) := by decide +kernel
theorem dL_sample_133 : decode cL_sample 133 = .ok (.iadd, 1) := by decide +kernel
theorem dL_sample_134 : decode cL_sample 134 = .ok (.iastore, 1) := by decide +kernel
theorem dL_sample_135 : decode cL_sample 135 = .ok (.return_, 1) := by decide +kernel
theorem dL_sample_136 : decode cL_sample 136 = .ok (.iconst 1, 1) := by decide +kernel
theorem dL_sample_137 : decode cL_sample 137 = .ok (.istore 10, 2) := by decide +kernel
theorem dL_sample_139 : decode cL_sample 139 = .ok (.iload 10, 2) := by decide +kernel
theorem dL_sample_141 : decode cL_sample 141 = .ok (.iload 9, 2) := by decide +kernel
theorem dL_sample_143 : decode cL_sample 143 = .ok (.if_icmp .ge 29, 3) := by decide +kernel
theorem dL_sample_146 : decode cL_sample 146 = .ok (.aload 6, 2) := by decide +kernel
theorem dL_sample_148 : decode cL_sample 148 = .ok (.iconst 4, 1) := by decide +kernel
theorem dL_sample_149 : decode cL_sample 149 = .ok (.iload_n 0, 1) := by decide +kernel
theorem dL_sample_150 : decode cL_sample 150 = .ok (.imul, 1) := by decide +kernel
theorem dL_sample_151 : decode cL_sample 151 = .ok (.iload 10, 2) := by decide +kernel
theorem dL_sample_153 : decode cL_sample 153 = .ok (.iadd, 1) := by decide +kernel
theorem dL_sample_154 : decode cL_sample 154 = .ok (.iconst 1, 1) := by decide +kernel
theorem dL_sample_155 : decode cL_sample 155 = .ok (.isub, 1) := by decide +kernel
theorem dL_sample_156 : decode cL_sample 156 = .ok (.aload 6, 2) := by decide +kernel
theorem dL_sample_158 : decode cL_sample 158 = .ok (.iconst 4, 1) := by decide +kernel
theorem dL_sample_159 : decode cL_sample 159 = .ok (.iload_n 0, 1) := by decide +kernel
theorem dL_sample_160 : decode cL_sample 160 = .ok (.imul, 1) := by decide +kernel
theorem dL_sample_161 : decode cL_sample 161 = .ok (.iload 10, 2) := by decide +kernel
theorem dL_sample_163 : decode cL_sample 163 = .ok (.iadd, 1) := by decide +kernel
theorem dL_sample_164 : decode cL_sample 164 = .ok (.iaload, 1) := by decide +kernel
theorem dL_sample_165 : decode cL_sample 165 = .ok (.iastore, 1) := by decide +kernel
theorem dL_sample_166 : decode cL_sample 166 = .ok (.iinc 10 1, 3) := by decide +kernel
theorem dL_sample_169 : decode cL_sample 169 = .ok (.goto (-30), 3) := by decide +kernel
theorem dL_sample_172 : decode cL_sample 172 = .ok (.aload 6, 2) := by decide +kernel
theorem dL_sample_174 : decode cL_sample 174 = .ok (.iconst 4, 1) := by decide +kernel
theorem dL_sample_175 : decode cL_sample 175 = .ok (.iload_n 0, 1) := by decide +kernel
theorem dL_sample_176 : decode cL_sample 176 = .ok (.imul, 1) := by decide +kernel
theorem dL_sample_177 : decode cL_sample 177 = .ok (.iload 9, 2) := by decide +kernel
theorem dL_sample_179 : decode cL_sample 179 = .ok (.iadd, 1) := by decide +kernel
theorem dL_sample_180 : decode cL_sample 180 = .ok (.iconst 1, 1) := by decide +kernel
theorem dL_sample_181 : decode cL_sample 181 = .ok (.isub, 1) := by decide +kernel
theorem dL_sample_182 : decode cL_sample 182 = .ok (.iconst 2, 1) := by decide +kernel
theorem dL_sample_183 : decode cL_sample 183 = .ok (.iload 7, 2) := by decide +kernel
theorem dL_sample_185 : decode cL_sample 185 = .ok (.imul, 1) := by decide +kernel
theorem dL_sample_186 : decode cL_sample 186 = .ok (.iastore, 1) := by decide +kernel
theorem dL_sample_187 : decode cL_sample 187 = .ok (.aload 6, 2) := by decide +kernel
theorem dL_sample_189 : decode cL_sample 189 = .ok (.iconst 4, 1) := by decide +kernel
theorem dL_sample_190 : decode cL_sample 190 = .ok (.iload_n 0, 1) := by decide +kernel
theorem dL_sample_191 : decode cL_sample 191 = .ok (.imul, 1) := by decide +kernel
theorem dL_sample_192 : decode cL_sample 192 = .ok (.dup2, 1) := by decide +kernel
theorem dL_sample_193 : decode cL_sample 193 = .ok (.iaload, 1) := by decide +kernel
theorem dL_sample_194 : decode cL_sample 194 = .ok (.iconst 1, 1) := by decide +kernel
theorem dL_sample_195 : decode cL_sample 195 = .ok (.ior, 1) := by decide +kernel
theorem dL_sample_196 : decode cL_sample 196 = .ok (.iastore, 1) := by decide +kernel
theorem dL_sample_197 : decode cL_sample 197 = .ok (.return_, 1) := by decide +kernel
abbrev rmL_sample : Room := { frames := 0, cells := 0, slots := 0, locals := 0 }
theorem hdL_sample : yL_sample.cls ≠ "java/lang/invoke/MethodHandle" ∧ yL_sample.cls ≠ "java/lang/invoke/VarHandle" ∧ (parseMethodDescriptor yL_sample.desc).map (fun d => d.parameters.length) = some 7 := by decide +kernel
set_option maxHeartbeats 4000000 in
set_option maxRecDepth 20000 in
theorem mlL_sample_139 {G : xG} {X : xX} (hC : xC G X "PlantServerLaw" cL_sample 11 rmL_sample) (hr : xRt X none) (htab : xTab X []) (p1 : Int32) (a7 : Nm) (x1 : Int32) (x3 : Int32) {ρ : Nm → Nat} (h0 : xR0 X ρ) (k n : Nat) (hk1 : k ≤ 0) (hk2 : n ≤ 0) (K : Int32 → PH → Prop) (Q : PH → Prop) (Xp : String → PH → Prop) : ∀ (f139 : Nat) (x139_10 : Int32) (τ139 : PH), lL_sample_139 p1 a7 x1 x3 K Q f139 x139_10 τ139 → (∀ (x139_10 : Int32) (τ139 : PH), K x139_10 τ139 → xJ G X (xT X (eV ρ Q) Xp G rmL_sample) 11 ρ τ139 k n 172 [(0, .int p1), (6, .ref (ρ a7)), (7, .int x1), (9, .int x3), (10, .int x139_10)] []) → xJ G X (xT X (eV ρ Q) Xp G rmL_sample) 11 ρ τ139 k n 139 [(0, .int p1), (6, .ref (ρ a7)), (7, .int x1), (9, .int x3), (10, .int x139_10)] [] := by
  intro f139
  induction f139 with
  | zero => intro x139_10 τ139 h hKK; unfold lL_sample_139 at h; exact h.elim
  | succ f139 ih =>
    intro x139_10 τ139 h hKK
    unfold lL_sample_139 at h
    refine x_iload hC 4 rfl dL_sample_139 ?_
    refine x_iload hC 3 rfl dL_sample_141 ?_
    refine x_icmp_ge (tgt := 172) hC dL_sample_143 (by decide) (fun c6 => ?_) (fun c6 => ?_)
    · have h := h.1 c6
      exact hKK _ _ h
    · have h := h.2 c6
      refine x_aload hC 1 rfl dL_sample_146 ?_
      refine x_iconst (v := 4) hC dL_sample_148 (by decide) ?_
      refine x_iload_n hC 0 rfl dL_sample_149 ?_
      refine x_imul hC dL_sample_150 ?_
      refine x_iload hC 4 rfl dL_sample_151 ?_
      refine x_iadd hC dL_sample_153 ?_
      refine x_iconst (v := 1) hC dL_sample_154 (by decide) ?_
      refine x_isub hC dL_sample_155 ?_
      refine x_aload hC 1 rfl dL_sample_156 ?_
      refine x_iconst (v := 4) hC dL_sample_158 (by decide) ?_
      refine x_iload_n hC 0 rfl dL_sample_159 ?_
      refine x_imul hC dL_sample_160 ?_
      refine x_iload hC 4 rfl dL_sample_161 ?_
      refine x_iadd hC dL_sample_163 ?_
      obtain ⟨k9, h⟩ := h
      obtain ⟨v7, h⟩ := h
      refine x_iald (a := a7) hC k9 v7 dL_sample_164 ?_
      obtain ⟨v8, h⟩ := h
      refine x_iast (a := a7) hC k9 v8 dL_sample_165 ?_
      refine xJ.nmH (fun σ3 e3 => ?_)
      have h := h σ3 e3
      have r3 : hR σ3 = hR τ139 ∧ hL σ3 = hL τ139 := by rw [e3]; exact ⟨rfl, rfl⟩
      refine x_iinc (v' := x139_10 + 1) (L' := [(10, .int (x139_10 + 1)), (0, .int p1), (6, .ref (ρ a7)), (7, .int x1), (9, .int x3)]) hC 4 rfl dL_sample_166 rfl (by decide) (by first | rfl | simp (decide := true) [rv_cat, cat_ref, cat_int]) ?_
      refine x_goto (tgt := 139) hC dL_sample_169 (by decide) ?_
      refine xJ.sub (L' := [(0, .int p1), (6, .ref (ρ a7)), (7, .int x1), (9, .int x3), (10, .int (x139_10 + 1))]) [1, 2, 3, 4, 0] rfl ?_
      exact ih _ _ h hKK
set_option maxHeartbeats 4000000 in
set_option maxRecDepth 20000 in
theorem mL_sample (l : Launch) (hl : l.stackTraces = false) (G : xG) (ρ : Nm → Nat) (p1 : Int32) (a2 : Nm) (a3 : Nm) (a4 : Nm) (a5 : Nm) (a6 : Nm) (a7 : Nm) (σ : PH) (Q : PH → Prop) (h : wL_sample p1 a2 a3 a4 a5 a6 a7 σ Q) : xMet l yL_sample (.code yL_sample cL_sample 11 none) rmL_sample G ρ σ [.int p1, .ref (ρ a2), .ref (ρ a3), .ref (ρ a4), .ref (ρ a5), .ref (ρ a6), .ref (ρ a7)] (eV ρ Q) xNo := by
  refine xMet.of hl (by decide +kernel) (Nat.le_of_ble_eq_true rfl) (fun X hC hr hn htab h0 => ?_)
  have hC : xC G X "PlantServerLaw" cL_sample 11 rmL_sample := hC
  unfold wL_sample at h
  refine xJ.loc (L' := [(0, .int p1), (1, .ref (ρ a2)), (2, .ref (ρ a3)), (3, .ref (ρ a4)), (4, .ref (ρ a5)), (5, .ref (ρ a6)), (6, .ref (ρ a7))]) rfl ?_
  refine x_aload_n hC 1 rfl dL_sample_0 ?_
  refine x_aload_n hC 2 rfl dL_sample_1 ?_
  refine x_iload_n hC 0 rfl dL_sample_2 ?_
  obtain ⟨k1, h⟩ := h
  obtain ⟨v1, h⟩ := h
  refine x_iald (a := a3) hC k1 v1 dL_sample_3 ?_
  refine x_iconst (v := 1) hC dL_sample_4 (by decide) ?_
  refine x_ishr hC dL_sample_5 ?_
  refine x_bipush (v := 15) hC dL_sample_6 (by decide) ?_
  refine x_iand hC dL_sample_8 ?_
  obtain ⟨k2, h⟩ := h
  obtain ⟨v2, h⟩ := h
  refine x_iald (a := a2) hC k2 v2 dL_sample_9 ?_
  refine xJ.nmT (fun x1 ex1 => ?_)
  have h := h x1 ex1
  refine x_istore (L' := [(7, .int x1), (0, .int p1), (1, .ref (ρ a2)), (2, .ref (ρ a3)), (3, .ref (ρ a4)), (4, .ref (ρ a5)), (5, .ref (ρ a6)), (6, .ref (ρ a7))]) hC dL_sample_10 (by decide) (by first | rfl | simp (decide := true) [rv_cat, cat_ref, cat_int]) ?_
  refine x_aload_n hC 3 rfl dL_sample_12 ?_
  refine x_iload_n hC 1 rfl dL_sample_13 ?_
  refine x_iald (a := a3) hC k1 v1 dL_sample_14 ?_
  refine x_bipush (v := 15) hC dL_sample_15 (by decide) ?_
  refine x_ishr hC dL_sample_17 ?_
  refine xJ.nmT (fun x2 ex2 => ?_)
  have h := h x2 ex2
  refine x_istore (L' := [(8, .int x2), (7, .int x1), (0, .int p1), (1, .ref (ρ a2)), (2, .ref (ρ a3)), (3, .ref (ρ a4)), (4, .ref (ρ a5)), (5, .ref (ρ a6)), (6, .ref (ρ a7))]) hC dL_sample_18 (by decide) (by first | rfl | simp (decide := true) [rv_cat, cat_ref, cat_int]) ?_
  refine x_aload hC 6 rfl dL_sample_20 ?_
  refine x_iload_n hC 2 rfl dL_sample_22 ?_
  obtain ⟨k3, h⟩ := h
  obtain ⟨v3, h⟩ := h
  refine x_iald (a := a5) hC k3 v3 dL_sample_23 ?_
  refine xJ.jP (pcJ := 50) (stJ := []) h (fun h => ?_) (fun K1 hk1 h => ?_)
  · refine x_aload hC 6 rfl dL_sample_50 ?_
    refine x_iload_n hC 2 rfl dL_sample_52 ?_
    refine x_dup2 hC (by first | rfl | exact rv_cat) (by first | rfl | exact rv_cat) dL_sample_53 ?_
    refine x_iald (a := a5) hC k3 v3 dL_sample_54 ?_
    refine x_iconst (v := 1) hC dL_sample_55 (by decide) ?_
    refine x_iadd hC dL_sample_56 ?_
    refine x_iast (a := a5) hC k3 v3 dL_sample_57 ?_
    refine xJ.nmH (fun σ1 e1 => ?_)
    have h := h σ1 e1
    have r1 : hR σ1 = hR σ ∧ hL σ1 = hL σ := by rw [e1]; exact ⟨rfl, rfl⟩
    refine x_aload_n hC 5 rfl dL_sample_58 ?_
    refine x_iload_n hC 2 rfl dL_sample_59 ?_
    refine x_iload hC 1 rfl dL_sample_60 ?_
    obtain ⟨k5, h⟩ := h
    obtain ⟨v5, h⟩ := h
    refine x_iast (a := a4) hC k5 (by rw [r1.2]; exact v5) dL_sample_62 ?_
    refine xJ.nmH (fun σ2 e2 => ?_)
    have h := h σ2 e2
    have r2 : hR σ2 = hR σ ∧ hL σ2 = hL σ := by rw [e2]; exact ⟨r1.1, r1.2⟩
    refine x_aload_n hC 4 rfl dL_sample_63 ?_
    refine x_iload_n hC 2 rfl dL_sample_64 ?_
    have k6 : hK σ1 a3 = 9 := by rw [e1]; exact k1
    have k7 : hK σ2 a3 = 9 := by rw [e2]; exact k6
    refine x_iald (a := a3) hC k7 (by rw [r2.2]; exact v1) dL_sample_65 ?_
    refine x_bipush (v := 10) hC dL_sample_66 (by decide) ?_
    refine x_ishr hC dL_sample_68 ?_
    refine x_bipush (v := 7) hC dL_sample_69 (by decide) ?_
    refine x_iand hC dL_sample_71 ?_
    refine xJ.nmT (fun x3 ex3 => ?_)
    have h := h x3 ex3
    refine x_istore (L' := [(9, .int x3), (8, .int x2), (7, .int x1), (0, .int p1), (1, .ref (ρ a2)), (2, .ref (ρ a3)), (3, .ref (ρ a4)), (4, .ref (ρ a5)), (5, .ref (ρ a6)), (6, .ref (ρ a7))]) hC dL_sample_72 (by decide) (by first | rfl | simp (decide := true) [rv_cat, cat_ref, cat_int]) ?_
    refine x_aload hC 8 rfl dL_sample_74 ?_
    refine x_iload_n hC 3 rfl dL_sample_76 ?_
    obtain ⟨k8, h⟩ := h
    obtain ⟨v6, h⟩ := h
    refine x_iald (a := a6) hC k8 (by rw [r2.2]; exact v6) dL_sample_77 ?_
    refine x_iload hC 0 rfl dL_sample_78 ?_
    refine x_icmp_ge (tgt := 107) hC dL_sample_80 (by decide) (fun c4 => ?_) (fun c4 => ?_)
    · have h := h.1 c4
      refine x_aload_n hC 5 rfl dL_sample_107 ?_
      refine x_iload_n hC 3 rfl dL_sample_108 ?_
      refine x_iald (a := a3) hC k7 (by rw [r2.2]; exact v1) dL_sample_109 ?_
      refine x_bipush (v := 13) hC dL_sample_110 (by decide) ?_
      refine x_ishr hC dL_sample_112 ?_
      refine x_iconst (v := 1) hC dL_sample_113 (by decide) ?_
      refine x_iand hC dL_sample_114 ?_
      refine x_if_ne (tgt := 136) hC dL_sample_115 (by decide) (fun c5 => ?_) (fun c5 => ?_)
      · have h := h.1 c5
        refine x_iconst (v := 1) hC dL_sample_136 (by decide) ?_
        refine x_istore (L' := [(10, .int 1), (9, .int x3), (8, .int x2), (7, .int x1), (0, .int p1), (1, .ref (ρ a2)), (2, .ref (ρ a3)), (3, .ref (ρ a4)), (4, .ref (ρ a5)), (5, .ref (ρ a6)), (6, .ref (ρ a7))]) hC dL_sample_137 (by decide) (by first | rfl | simp (decide := true) [rv_cat, cat_ref, cat_int]) ?_
        refine xJ.sub (L' := [(0, .int p1), (6, .ref (ρ a7)), (7, .int x1), (9, .int x3), (10, .int 1)]) [4, 10, 3, 1, 0] rfl ?_
        obtain ⟨f139, h⟩ := h
        refine mlL_sample_139 hC hr htab p1 a7 x1 x3 h0 (0) (0) (by decide) (by decide) _ Q _ f139 _ _ h (fun y1 τ1 h => ?_)
        refine x_aload hC 1 rfl dL_sample_172 ?_
        refine x_iconst (v := 4) hC dL_sample_174 (by decide) ?_
        refine x_iload_n hC 0 rfl dL_sample_175 ?_
        refine x_imul hC dL_sample_176 ?_
        refine x_iload hC 3 rfl dL_sample_177 ?_
        refine x_iadd hC dL_sample_179 ?_
        refine x_iconst (v := 1) hC dL_sample_180 (by decide) ?_
        refine x_isub hC dL_sample_181 ?_
        refine x_iconst (v := 2) hC dL_sample_182 (by decide) ?_
        refine x_iload hC 2 rfl dL_sample_183 ?_
        refine x_imul hC dL_sample_185 ?_
        obtain ⟨k10, h⟩ := h
        obtain ⟨v9, h⟩ := h
        refine x_iast (a := a7) hC k10 v9 dL_sample_186 ?_
        refine xJ.nmH (fun σ4 e4 => ?_)
        have h := h σ4 e4
        have r4 : hR σ4 = hR τ1 ∧ hL σ4 = hL τ1 := by rw [e4]; exact ⟨rfl, rfl⟩
        refine x_aload hC 1 rfl dL_sample_187 ?_
        refine x_iconst (v := 4) hC dL_sample_189 (by decide) ?_
        refine x_iload_n hC 0 rfl dL_sample_190 ?_
        refine x_imul hC dL_sample_191 ?_
        refine x_dup2 hC (by first | rfl | exact rv_cat) (by first | rfl | exact rv_cat) dL_sample_192 ?_
        have k11 : hK σ4 a7 = 9 := by rw [e4]; exact k10
        obtain ⟨v10, h⟩ := h
        refine x_iald (a := a7) hC k11 (by rw [r4.2]; exact v10) dL_sample_193 ?_
        refine x_iconst (v := 1) hC dL_sample_194 (by decide) ?_
        refine x_ior hC dL_sample_195 ?_
        refine x_iast (a := a7) hC k11 (by rw [r4.2]; exact v10) dL_sample_196 ?_
        refine xJ.nmH (fun σ5 e5 => ?_)
        have h := h σ5 e5
        have r5 : hR σ5 = hR τ1 ∧ hL σ5 = hL τ1 := by rw [e5]; exact ⟨r4.1, r4.2⟩
        exact x_vret hC hr dL_sample_197 (by decide) (by decide) ⟨rfl, rfl, h⟩
      · have h := h.2 c5
        refine x_aload hC 9 rfl dL_sample_118 ?_
        refine x_iconst (v := 4) hC dL_sample_120 (by decide) ?_
        refine x_iload_n hC 3 rfl dL_sample_121 ?_
        refine x_imul hC dL_sample_122 ?_
        refine x_iload hC 0 rfl dL_sample_123 ?_
        refine x_iadd hC dL_sample_125 ?_
        refine x_iconst (v := 1) hC dL_sample_126 (by decide) ?_
        refine x_isub hC dL_sample_127 ?_
        refine x_iconst (v := 2) hC dL_sample_128 (by decide) ?_
        refine x_iload hC 2 rfl dL_sample_129 ?_
        refine x_imul hC dL_sample_131 ?_
        refine x_iconst (v := 1) hC dL_sample_132 (by decide) ?_
        refine x_iadd hC dL_sample_133 ?_
        obtain ⟨k12, h⟩ := h
        obtain ⟨v11, h⟩ := h
        refine x_iast (a := a7) hC k12 (by rw [r2.2]; exact v11) dL_sample_134 ?_
        refine xJ.nmH (fun σ6 e6 => ?_)
        have h := h σ6 e6
        have r6 : hR σ6 = hR σ ∧ hL σ6 = hL σ := by rw [e6]; exact ⟨r2.1, r2.2⟩
        exact x_vret hC hr dL_sample_135 (by decide) (by decide) ⟨rfl, rfl, h⟩
    · have h := h.2 c4
      refine x_aload hC 9 rfl dL_sample_83 ?_
      refine x_iconst (v := 4) hC dL_sample_85 (by decide) ?_
      refine x_iload_n hC 3 rfl dL_sample_86 ?_
      refine x_imul hC dL_sample_87 ?_
      refine x_aload hC 8 rfl dL_sample_88 ?_
      refine x_iload_n hC 3 rfl dL_sample_90 ?_
      refine x_iald (a := a6) hC k8 (by rw [r2.2]; exact v6) dL_sample_91 ?_
      refine x_iadd hC dL_sample_92 ?_
      refine x_iconst (v := 2) hC dL_sample_93 (by decide) ?_
      refine x_iload hC 2 rfl dL_sample_94 ?_
      refine x_imul hC dL_sample_96 ?_
      obtain ⟨k13, h⟩ := h
      obtain ⟨v12, h⟩ := h
      refine x_iast (a := a7) hC k13 (by rw [r2.2]; exact v12) dL_sample_97 ?_
      refine xJ.nmH (fun σ7 e7 => ?_)
      have h := h σ7 e7
      have r7 : hR σ7 = hR σ ∧ hL σ7 = hL σ := by rw [e7]; exact ⟨r2.1, r2.2⟩
      refine x_aload hC 8 rfl dL_sample_98 ?_
      refine x_iload_n hC 3 rfl dL_sample_100 ?_
      refine x_dup2 hC (by first | rfl | exact rv_cat) (by first | rfl | exact rv_cat) dL_sample_101 ?_
      have k14 : hK σ7 a6 = 9 := by rw [e7]; exact k8
      refine x_iald (a := a6) hC k14 (by rw [r7.2]; exact v6) dL_sample_102 ?_
      refine x_iconst (v := 1) hC dL_sample_103 (by decide) ?_
      refine x_iadd hC dL_sample_104 ?_
      refine x_iast (a := a6) hC k14 (by rw [r7.2]; exact v6) dL_sample_105 ?_
      refine xJ.nmH (fun σ8 e8 => ?_)
      have h := h σ8 e8
      have r8 : hR σ8 = hR σ ∧ hL σ8 = hL σ := by rw [e8]; exact ⟨r7.1, r7.2⟩
      exact x_vret hC hr dL_sample_106 (by decide) (by decide) ⟨rfl, rfl, h⟩
  · refine x_if_le (tgt := 50) hC dL_sample_24 (by decide) (fun c1 => ?_) (fun c1 => ?_)
    · have h := h.1 c1
      exact hk1 h
    · have h := h.2 c1
      refine x_iload hC 1 rfl dL_sample_27 ?_
      refine x_aload_n hC 5 rfl dL_sample_29 ?_
      refine x_iload_n hC 2 rfl dL_sample_30 ?_
      obtain ⟨k4, h⟩ := h
      obtain ⟨v4, h⟩ := h
      refine x_iald (a := a4) hC k4 v4 dL_sample_31 ?_
      refine x_iload hC 0 rfl dL_sample_32 ?_
      refine x_iadd hC dL_sample_34 ?_
      refine x_icmp_gt (tgt := 50) hC dL_sample_35 (by decide) (fun c2 => ?_) (fun c2 => ?_)
      · have h := h.1 c2
        exact hk1 h
      · have h := h.2 c2
        refine x_iload hC 1 rfl dL_sample_38 ?_
        refine x_aload_n hC 5 rfl dL_sample_40 ?_
        refine x_iload_n hC 2 rfl dL_sample_41 ?_
        refine x_iald (a := a4) hC k4 v4 dL_sample_42 ?_
        refine x_iload hC 0 rfl dL_sample_43 ?_
        refine x_isub hC dL_sample_45 ?_
        refine x_icmp_lt (tgt := 50) hC dL_sample_46 (by decide) (fun c3 => ?_) (fun c3 => ?_)
        · have h := h.1 c3
          exact hk1 h
        · have h := h.2 c3
          exact x_vret hC hr dL_sample_49 (by decide) (by decide) ⟨rfl, rfl, h⟩
/-! PlantServer.setReporting -/
theorem dX6_setReporting_0 : decode cX6_setReporting 0 = .ok (.aload_n 0, 1) := by decide +kernel
theorem dX6_setReporting_1 : decode cX6_setReporting 1 = .ok (.iload_n 1, 1) := by decide +kernel
theorem dX6_setReporting_2 : decode cX6_setReporting 2 = .ok (.invokevirtual 102, 3) := by decide +kernel
theorem dX6_setReporting_5 : decode cX6_setReporting 5 = .ok (.astore_n 3, 1) := by decide +kernel
theorem dX6_setReporting_6 : decode cX6_setReporting 6 = .ok (.aload_n 3, 1) := by decide +kernel
theorem dX6_setReporting_7 : decode cX6_setReporting 7 = .ok (.getfield 106, 3) := by decide +kernel
theorem dX6_setReporting_10 : decode cX6_setReporting 10 = .ok (.iload_n 2, 1) := by decide +kernel
theorem dX6_setReporting_11 : decode cX6_setReporting 11 = .ok (.if_icmp .eq 7, 3) := by decide +kernel
theorem dX6_setReporting_14 : decode cX6_setReporting 14 = .ok (.iconst 1, 1) := by decide +kernel
theorem dX6_setReporting_15 : decode cX6_setReporting 15 = .ok (.goto 4, 3) := by decide +kernel
theorem dX6_setReporting_18 : decode cX6_setReporting 18 = .ok (.iconst 0, 1) := by decide +kernel
theorem dX6_setReporting_19 : decode cX6_setReporting 19 = .ok (.istore 4, 2) := by decide +kernel
theorem dX6_setReporting_21 : decode cX6_setReporting 21 = .ok (.aload_n 3, 1) := by decide +kernel
theorem dX6_setReporting_22 : decode cX6_setReporting 22 = .ok (.iload_n 2, 1) := by decide +kernel
theorem dX6_setReporting_23 : decode cX6_setReporting 23 = .ok (.putfield 106, 3) := by decide +kernel
theorem dX6_setReporting_26 : decode cX6_setReporting 26 = .ok (.iload 4, 2) := by decide +kernel
theorem dX6_setReporting_28 : decode cX6_setReporting 28 = .ok (.ireturn, 1) := by decide +kernel
abbrev rm6_setReporting : Room := { frames := 7, cells := 1, slots := 6, locals := 112 }
theorem hd6_setReporting : yX6_setReporting.cls ≠ "java/lang/invoke/MethodHandle" ∧ yX6_setReporting.cls ≠ "java/lang/invoke/VarHandle" ∧ (parseMethodDescriptor yX6_setReporting.desc).map (fun d => d.parameters.length) = some 2 := by decide +kernel
set_option maxHeartbeats 4000000 in
set_option maxRecDepth 20000 in
theorem m6_setReporting (l : Launch) (hl : l.stackTraces = false) (G : xG) (ρ : Nm → Nat) (this : Nm) (p1 : Int32) (p2 : Int32) (σ : PH) (Q : Int32 → PH → Prop) (Xp : String → PH → Prop) (h : w6_setReporting this p1 p2 σ Q Xp) : xMet l yX6_setReporting (.code yX6_setReporting cX6_setReporting 5 (some .boolean)) rm6_setReporting G ρ σ [.ref (ρ this), .int p1, .int p2] (eI ρ Q) Xp := by
  refine xMet.of hl (by decide +kernel) (Nat.le_of_ble_eq_true rfl) (fun X hC hr hn htab h0 => ?_)
  have hC : xC G X "PlantServer" cX6_setReporting 5 rm6_setReporting := hC
  unfold w6_setReporting at h
  refine xJ.loc (L' := [(0, .ref (ρ this)), (1, .int p1), (2, .int p2)]) rfl ?_
  refine x_aload_n hC 0 rfl dX6_setReporting_0 ?_
  refine x_iload_n hC 1 rfl dX6_setReporting_1 ?_
  obtain ⟨k1, h⟩ := h
  refine x_callV (n0 := this) (as := [.int p1]) (rest := []) hC (ci := 6) (r := (RX6, TX6, 9)) k1 rfl (fun l hl => m6_liveItem l hl G ρ this p1 σ _ Xp h) q425 q427 s5 q1 q428 ⟨rfl, hd6_liveItem⟩ (by decide) ⟨(by decide), (by decide)⟩ (by first | exact Nat.le_of_ble_eq_true rfl | (simp [rv_cat]; done) | (simp (decide := true) [rv_cat, cat_ref, cat_int]; done)) rfl dX6_setReporting_2 (fun E σ9 hx => x_out hC h0 htab (by decide) (by decide) hx) (fun v1 σ1 ρ1 hp1 hag1 => ?_)
  obtain ⟨e9, r1, e8, h⟩ := hp1
  rw [e8, e9]
  refine xJ.nrm (k' := 1) (n' := 6) (pc' := 5) (st' := [rv ρ r1]) rfl rfl rfl rfl ?_
  refine x_astore_nQ (o := r1) (L' := [(3, rv ρ r1), (0, .ref (ρ this)), (1, .int p1), (2, .int p2)]) hC dX6_setReporting_5 (by decide) (by first | rfl | simp (decide := true) [rv_cat, cat_ref, cat_int]) ?_
  refine x_aload_nQ (o := r1) hC 0 rfl dX6_setReporting_6 ?_
  obtain ⟨m1, hm1, h⟩ := h
  rw [show rv ρ r1 = Value.ref (ρ m1) from by rw [hm1]; rfl]
  obtain ⟨k2, h⟩ := h
  refine x_getI (n0 := m1) hC (ci := 1) (T := TX1) (N := 12) (C := RX1) 6 k2 rfl rfl (by decide) rfl q359 dX6_setReporting_7 ?_
  refine x_iload_n hC 3 rfl dX6_setReporting_10 ?_
  refine x_icmp_eq (tgt := 18) hC dX6_setReporting_11 (by decide) (fun c1 => ?_) (fun c1 => ?_)
  · have h := h.1 c1
    refine x_iconst (v := 0) hC dX6_setReporting_18 (by decide) ?_
    refine x_istore (L' := [(4, .int 0), (3, .ref (ρ m1)), (0, .ref (ρ this)), (1, .int p1), (2, .int p2)]) hC dX6_setReporting_19 (by decide) (by first | rfl | simp (decide := true) [rv_cat, cat_ref, cat_int]) ?_
    refine x_aload_n hC 1 rfl dX6_setReporting_21 ?_
    refine x_iload_n hC 4 rfl dX6_setReporting_22 ?_
    obtain ⟨zh1, h⟩ := h
    refine x_putZ (n0 := m1) hC (ci := 1) (T := TX1) (N := 12) (C := RX1) 6 k2 rfl rfl (by decide) rfl q359 rfl (tyX1_ok 6 (by decide)) zh1 dX6_setReporting_23 ?_
    refine xJ.nmH (fun σ2 e1 => ?_)
    have h := h σ2 e1
    have r2 : hR σ2 = hR σ1 ∧ hL σ2 = hL σ1 := by rw [e1]; exact ⟨rfl, rfl⟩
    refine x_iload hC 0 rfl dX6_setReporting_26 ?_
    exact x_zret hC hr zb0 dX6_setReporting_28 (by decide) (by decide) ⟨rfl, _, rfl, h⟩
  · have h := h.2 c1
    refine x_iconst (v := 1) hC dX6_setReporting_14 (by decide) ?_
    refine x_goto (tgt := 19) hC dX6_setReporting_15 (by decide) ?_
    refine x_istore (L' := [(4, .int 1), (3, .ref (ρ m1)), (0, .ref (ρ this)), (1, .int p1), (2, .int p2)]) hC dX6_setReporting_19 (by decide) (by first | rfl | simp (decide := true) [rv_cat, cat_ref, cat_int]) ?_
    refine x_aload_n hC 1 rfl dX6_setReporting_21 ?_
    refine x_iload_n hC 4 rfl dX6_setReporting_22 ?_
    obtain ⟨zh2, h⟩ := h
    refine x_putZ (n0 := m1) hC (ci := 1) (T := TX1) (N := 12) (C := RX1) 6 k2 rfl rfl (by decide) rfl q359 rfl (tyX1_ok 6 (by decide)) zh2 dX6_setReporting_23 ?_
    refine xJ.nmH (fun σ3 e2 => ?_)
    have h := h σ3 e2
    have r3 : hR σ3 = hR σ1 ∧ hL σ3 = hL σ1 := by rw [e2]; exact ⟨rfl, rfl⟩
    refine x_iload hC 0 rfl dX6_setReporting_26 ?_
    exact x_zret hC hr zb1 dX6_setReporting_28 (by decide) (by decide) ⟨rfl, _, rfl, h⟩
/-! PlantServerLaw.setReporting -/
theorem dL_setReporting_0 : decode cL_setReporting 0 = .ok (.aload_n 0, 1) := by decide +kernel
theorem dL_setReporting_1 : decode cL_setReporting 1 = .ok (.iload_n 1, 1) := by decide +kernel
theorem dL_setReporting_2 : decode cL_setReporting 2 = .ok (.iload_n 2, 1) := by decide +kernel
theorem dL_setReporting_3 : decode cL_setReporting 3 = .ok (.invokevirtual 32, 3) := by decide +kernel
theorem dL_setReporting_6 : decode cL_setReporting 6 = .ok (.istore_n 3, 1) := by decide +kernel
theorem dL_setReporting_7 : decode cL_setReporting 7 = .ok (.goto 9, 3) := by decide +kernel
theorem dL_setReporting_10 : decode cL_setReporting 10 = .ok (.astore 4, 2) := by decide +kernel
theorem dL_setReporting_12 : decode cL_setReporting 12 = .ok (.sipush (-7100), 3) := by decide +kernel
theorem dL_setReporting_15 : decode cL_setReporting 15 = .ok (.ireturn, 1) := by decide +kernel
theorem dL_setReporting_16 : decode cL_setReporting 16 = .ok (.iload_n 3, 1) := by decide +kernel
theorem dL_setReporting_17 : decode cL_setReporting 17 = .ok (.ifCond .eq 7, 3) := by decide +kernel
theorem dL_setReporting_20 : decode cL_setReporting 20 = .ok (.iconst 1, 1) := by decide +kernel
theorem dL_setReporting_21 : decode cL_setReporting 21 = .ok (.goto 4, 3) := by decide +kernel
theorem dL_setReporting_24 : decode cL_setReporting 24 = .ok (.iconst 0, 1) := by decide +kernel
theorem dL_setReporting_25 : decode cL_setReporting 25 = .ok (.ireturn, 1) := by decide +kernel
abbrev rmL_setReporting : Room := { frames := 8, cells := 1, slots := 6, locals := 136 }
theorem hdL_setReporting : yL_setReporting.cls ≠ "java/lang/invoke/MethodHandle" ∧ yL_setReporting.cls ≠ "java/lang/invoke/VarHandle" ∧ (parseMethodDescriptor yL_setReporting.desc).map (fun d => d.parameters.length) = some 3 := by decide +kernel
set_option maxHeartbeats 4000000 in
set_option maxRecDepth 20000 in
theorem mL_setReporting (l : Launch) (hl : l.stackTraces = false) (G : xG) (ρ : Nm → Nat) (a1 : Nm) (p2 : Int32) (p3 : Int32) (σ : PH) (Q : Int32 → PH → Prop) (h : wL_setReporting a1 p2 p3 σ Q) : xMet l yL_setReporting (.codeWith yL_setReporting cL_setReporting 5 (some .int) [(0, 7, 10, 14)]) rmL_setReporting G ρ σ [.ref (ρ a1), .int p2, .int p3] (eI ρ Q) xNo := by
  refine xMet.ofW hl (by decide +kernel) (Nat.le_of_ble_eq_true rfl) (fun X hC hr hn htab h0 => ?_)
  have hC : xC G X "PlantServerLaw" cL_setReporting 5 rmL_setReporting := hC
  unfold wL_setReporting at h
  refine xJ.loc (L' := [(0, .ref (ρ a1)), (1, .int p2), (2, .int p3)]) rfl ?_
  refine x_aload_n hC 0 rfl dL_setReporting_0 ?_
  refine x_iload_n hC 1 rfl dL_setReporting_1 ?_
  refine x_iload_n hC 2 rfl dL_setReporting_2 ?_
  obtain ⟨k1, h⟩ := h
  refine x_callV (n0 := a1) (as := [.int p2, .int p3]) (rest := []) hC (ci := 6) (r := (RX6, TX6, 9)) k1 rfl (fun l hl => m6_setReporting l hl G ρ a1 p2 p3 σ _ _ h) q441 q442 q443 q1 q444 ⟨rfl, hd6_setReporting⟩ (by decide) ⟨(by decide), (by decide)⟩ (by first | exact Nat.le_of_ble_eq_true rfl | (simp [rv_cat]; done) | (simp (decide := true) [rv_cat, cat_ref, cat_int]; done)) rfl dL_setReporting_3 (fun E σ2 hx => ?_) (fun v1 σ1 ρ1 hp1 hag1 => ?_)
  · have hE9 := hx.2
    have he := hE9
    have h := hx.1 he
    subst he
    refine x_catch hC [] [] (0, 7, 10, 14) htab (by intro z hz; simp at hz) (by decide) (by decide) q269 xcast_xIO (fun qx1 => ?_)
    refine xJ.nrm (k' := 1) (n' := 6) (pc' := 10) (st' := [.ref qx1]) rfl rfl rfl rfl ?_
    refine x_astore (L' := [(4, .ref qx1), (0, .ref (ρ a1)), (1, .int p2), (2, .int p3)]) hC dL_setReporting_10 (by decide) (by first | rfl | simp (decide := true) [rv_cat, cat_ref, cat_int]) ?_
    refine x_sipush (v := (-7100)) hC dL_setReporting_12 (by decide) ?_
    exact x_iret hC hr dL_setReporting_15 (by decide) (by decide) ⟨rfl, _, rfl, h⟩
  · obtain ⟨e9, r1, e8, h⟩ := hp1
    rw [e8, e9]
    refine xJ.nrm (k' := 1) (n' := 6) (pc' := 6) (st' := [.int r1]) rfl rfl rfl rfl ?_
    refine x_istore_n (L' := [(3, .int r1), (0, .ref (ρ a1)), (1, .int p2), (2, .int p3)]) hC dL_setReporting_6 (by decide) (by first | rfl | simp (decide := true) [rv_cat, cat_ref, cat_int]) ?_
    refine x_goto (tgt := 16) hC dL_setReporting_7 (by decide) ?_
    refine x_iload_n hC 0 rfl dL_setReporting_16 ?_
    refine x_if_eq (tgt := 24) hC dL_setReporting_17 (by decide) (fun c1 => ?_) (fun c1 => ?_)
    · have h := h.1 c1
      refine x_iconst (v := 0) hC dL_setReporting_24 (by decide) ?_
      exact x_iret hC hr dL_setReporting_25 (by decide) (by decide) ⟨rfl, _, rfl, h⟩
    · have h := h.2 c1
      refine x_iconst (v := 1) hC dL_setReporting_20 (by decide) ?_
      refine x_goto (tgt := 25) hC dL_setReporting_21 (by decide) ?_
      exact x_iret hC hr dL_setReporting_25 (by decide) (by decide) ⟨rfl, _, rfl, h⟩
/-! PlantServer$Item.setTrigger -/
theorem dX1_setTrigger_0 : decode cX1_setTrigger 0 = .ok (.iconst 1, 1) := by decide +kernel
theorem dX1_setTrigger_1 : decode cX1_setTrigger 1 = .ok (.iload_n 1, 1) := by decide +kernel
theorem dX1_setTrigger_2 : decode cX1_setTrigger 2 = .ok (.ishl, 1) := by decide +kernel
theorem dX1_setTrigger_3 : decode cX1_setTrigger 3 = .ok (.istore_n 3, 1) := by decide +kernel
theorem dX1_setTrigger_4 : decode cX1_setTrigger 4 = .ok (.aload_n 0, 1) := by decide +kernel
theorem dX1_setTrigger_5 : decode cX1_setTrigger 5 = .ok (.getfield 13, 3) := by decide +kernel
theorem dX1_setTrigger_8 : decode cX1_setTrigger 8 = .ok (.iload_n 3, 1) := by decide +kernel
theorem dX1_setTrigger_9 : decode cX1_setTrigger 9 = .ok (.iand, 1) := by decide +kernel
theorem dX1_setTrigger_10 : decode cX1_setTrigger 10 = .ok (.ifCond .eq 7, 3) := by decide +kernel
theorem dX1_setTrigger_13 : decode cX1_setTrigger 13 = .ok (.iconst 1, 1) := by decide +kernel
theorem dX1_setTrigger_14 : decode cX1_setTrigger 14 = .ok (.goto 4, 3) := by decide +kernel
theorem dX1_setTrigger_17 : decode cX1_setTrigger 17 = .ok (.iconst 0, 1) := by decide +kernel
theorem dX1_setTrigger_18 : decode cX1_setTrigger 18 = .ok (.istore 4, 2) := by decide +kernel
theorem dX1_setTrigger_20 : decode cX1_setTrigger 20 = .ok (.iload 4, 2) := by decide +kernel
theorem dX1_setTrigger_22 : decode cX1_setTrigger 22 = .ok (.iload_n 2, 1) := by decide +kernel
theorem dX1_setTrigger_23 : decode cX1_setTrigger 23 = .ok (.if_icmp .ne 5, 3) := by decide +kernel
theorem dX1_setTrigger_26 : decode cX1_setTrigger 26 = .ok (.iconst 0, 1) := by decide +kernel
theorem dX1_setTrigger_27 : decode cX1_setTrigger 27 = .ok (.ireturn, 1) := by decide +kernel
theorem dX1_setTrigger_28 : decode cX1_setTrigger 28 = .ok (.aload_n 0, 1) := by decide +kernel
theorem dX1_setTrigger_29 : decode cX1_setTrigger 29 = .ok (.dup, 1) := by decide +kernel
theorem dX1_setTrigger_30 : decode cX1_setTrigger 30 = .ok (.getfield 13, 3) := by decide +kernel
theorem dX1_setTrigger_33 : decode cX1_setTrigger 33 = .ok (.iload_n 3, 1) := by decide +kernel
theorem dX1_setTrigger_34 : decode cX1_setTrigger 34 = .ok (.ixor, 1) := by decide +kernel
theorem dX1_setTrigger_35 : decode cX1_setTrigger 35 = .ok (.putfield 13, 3) := by decide +kernel
theorem dX1_setTrigger_38 : decode cX1_setTrigger 38 = .ok (.iconst 1, 1) := by decide +kernel
theorem dX1_setTrigger_39 : decode cX1_setTrigger 39 = .ok (.ireturn, 1) := by decide +kernel
abbrev rm1_setTrigger : Room := { frames := 0, cells := 0, slots := 0, locals := 0 }
theorem hd1_setTrigger : yX1_setTrigger.cls ≠ "java/lang/invoke/MethodHandle" ∧ yX1_setTrigger.cls ≠ "java/lang/invoke/VarHandle" ∧ (parseMethodDescriptor yX1_setTrigger.desc).map (fun d => d.parameters.length) = some 2 := by decide +kernel
set_option maxHeartbeats 4000000 in
set_option maxRecDepth 20000 in
theorem m1_setTrigger (l : Launch) (hl : l.stackTraces = false) (G : xG) (ρ : Nm → Nat) (this : Nm) (p1 : Int32) (p2 : Int32) (σ : PH) (Q : Int32 → PH → Prop) (h : w1_setTrigger this p1 p2 σ Q) : xMet l yX1_setTrigger (.code yX1_setTrigger cX1_setTrigger 5 (some .boolean)) rm1_setTrigger G ρ σ [.ref (ρ this), .int p1, .int p2] (eI ρ Q) xNo := by
  refine xMet.of hl (by decide +kernel) (Nat.le_of_ble_eq_true rfl) (fun X hC hr hn htab h0 => ?_)
  have hC : xC G X "PlantServer$Item" cX1_setTrigger 5 rm1_setTrigger := hC
  unfold w1_setTrigger at h
  refine xJ.loc (L' := [(0, .ref (ρ this)), (1, .int p1), (2, .int p2)]) rfl ?_
  refine x_iconst (v := 1) hC dX1_setTrigger_0 (by decide) ?_
  refine x_iload_n hC 1 rfl dX1_setTrigger_1 ?_
  refine x_ishl hC dX1_setTrigger_2 ?_
  refine x_istore_n (L' := [(3, .int (1 <<< (p1 &&& 31))), (0, .ref (ρ this)), (1, .int p1), (2, .int p2)]) hC dX1_setTrigger_3 (by decide) (by first | rfl | simp (decide := true) [rv_cat, cat_ref, cat_int]) ?_
  refine x_aload_n hC 1 rfl dX1_setTrigger_4 ?_
  obtain ⟨k1, h⟩ := h
  refine x_getI (n0 := this) hC (ci := 1) (T := TX1) (N := 12) (C := RX1) 7 k1 rfl rfl (by decide) rfl q360 dX1_setTrigger_5 ?_
  refine x_iload_n hC 0 rfl dX1_setTrigger_8 ?_
  refine x_iand hC dX1_setTrigger_9 ?_
  refine x_if_eq (tgt := 17) hC dX1_setTrigger_10 (by decide) (fun c1 => ?_) (fun c1 => ?_)
  · have h := h.1 c1
    refine x_iconst (v := 0) hC dX1_setTrigger_17 (by decide) ?_
    refine x_istore (L' := [(4, .int 0), (3, .int (1 <<< (p1 &&& 31))), (0, .ref (ρ this)), (1, .int p1), (2, .int p2)]) hC dX1_setTrigger_18 (by decide) (by first | rfl | simp (decide := true) [rv_cat, cat_ref, cat_int]) ?_
    refine x_iload hC 0 rfl dX1_setTrigger_20 ?_
    refine x_iload_n hC 4 rfl dX1_setTrigger_22 ?_
    refine x_icmp_ne (tgt := 28) hC dX1_setTrigger_23 (by decide) (fun c2 => ?_) (fun c2 => ?_)
    · have h := h.1 c2
      refine x_aload_n hC 2 rfl dX1_setTrigger_28 ?_
      refine x_dup hC (by first | rfl | exact rv_cat) dX1_setTrigger_29 ?_
      refine x_getI (n0 := this) hC (ci := 1) (T := TX1) (N := 12) (C := RX1) 7 k1 rfl rfl (by decide) rfl q360 dX1_setTrigger_30 ?_
      refine x_iload_n hC 1 rfl dX1_setTrigger_33 ?_
      refine x_ixor hC dX1_setTrigger_34 ?_
      refine x_putI (n0 := this) hC (ci := 1) (T := TX1) (N := 12) (C := RX1) 7 k1 rfl rfl (by decide) rfl q360 rfl (tyX1_ok 7 (by decide)) dX1_setTrigger_35 ?_
      refine xJ.nmH (fun σ1 e1 => ?_)
      have h := h σ1 e1
      have r1 : hR σ1 = hR σ ∧ hL σ1 = hL σ := by rw [e1]; exact ⟨rfl, rfl⟩
      refine x_iconst (v := 1) hC dX1_setTrigger_38 (by decide) ?_
      exact x_zret hC hr zb1 dX1_setTrigger_39 (by decide) (by decide) ⟨rfl, _, rfl, h⟩
    · have h := h.2 c2
      refine x_iconst (v := 0) hC dX1_setTrigger_26 (by decide) ?_
      exact x_zret hC hr zb0 dX1_setTrigger_27 (by decide) (by decide) ⟨rfl, _, rfl, h⟩
  · have h := h.2 c1
    refine x_iconst (v := 1) hC dX1_setTrigger_13 (by decide) ?_
    refine x_goto (tgt := 18) hC dX1_setTrigger_14 (by decide) ?_
    refine x_istore (L' := [(4, .int 1), (3, .int (1 <<< (p1 &&& 31))), (0, .ref (ρ this)), (1, .int p1), (2, .int p2)]) hC dX1_setTrigger_18 (by decide) (by first | rfl | simp (decide := true) [rv_cat, cat_ref, cat_int]) ?_
    refine x_iload hC 0 rfl dX1_setTrigger_20 ?_
    refine x_iload_n hC 4 rfl dX1_setTrigger_22 ?_
    refine x_icmp_ne (tgt := 28) hC dX1_setTrigger_23 (by decide) (fun c3 => ?_) (fun c3 => ?_)
    · have h := h.1 c3
      refine x_aload_n hC 2 rfl dX1_setTrigger_28 ?_
      refine x_dup hC (by first | rfl | exact rv_cat) dX1_setTrigger_29 ?_
      refine x_getI (n0 := this) hC (ci := 1) (T := TX1) (N := 12) (C := RX1) 7 k1 rfl rfl (by decide) rfl q360 dX1_setTrigger_30 ?_
      refine x_iload_n hC 1 rfl dX1_setTrigger_33 ?_
      refine x_ixor hC dX1_setTrigger_34 ?_
      refine x_putI (n0 := this) hC (ci := 1) (T := TX1) (N := 12) (C := RX1) 7 k1 rfl rfl (by decide) rfl q360 rfl (tyX1_ok 7 (by decide)) dX1_setTrigger_35 ?_
      refine xJ.nmH (fun σ2 e2 => ?_)
      have h := h σ2 e2
      have r2 : hR σ2 = hR σ ∧ hL σ2 = hL σ := by rw [e2]; exact ⟨rfl, rfl⟩
      refine x_iconst (v := 1) hC dX1_setTrigger_38 (by decide) ?_
      exact x_zret hC hr zb1 dX1_setTrigger_39 (by decide) (by decide) ⟨rfl, _, rfl, h⟩
    · have h := h.2 c3
      refine x_iconst (v := 0) hC dX1_setTrigger_26 (by decide) ?_
      exact x_zret hC hr zb0 dX1_setTrigger_27 (by decide) (by decide) ⟨rfl, _, rfl, h⟩
/-! PlantServer.link -/
theorem dX6_link_0 : decode cX6_link 0 = .ok (.aload_n 0, 1) := by decide +kernel
theorem dX6_link_1 : decode cX6_link 1 = .ok (.iload_n 1, 1) := by decide +kernel
theorem dX6_link_2 : decode cX6_link 2 = .ok (.invokevirtual 102, 3) := by decide +kernel
theorem dX6_link_5 : decode cX6_link 5 = .ok (.astore 4, 2) := by decide +kernel
theorem dX6_link_7 : decode cX6_link 7 = .ok (.aload_n 0, 1) := by decide +kernel
theorem dX6_link_8 : decode cX6_link 8 = .ok (.iload_n 2, 1) := by decide +kernel
theorem dX6_link_9 : decode cX6_link 9 = .ok (.invokevirtual 102, 3) := by decide +kernel
theorem dX6_link_12 : decode cX6_link 12 = .ok (.astore 5, 2) := by decide +kernel
theorem dX6_link_14 : decode cX6_link 14 = .ok (.aload 4, 2) := by decide +kernel
theorem dX6_link_16 : decode cX6_link 16 = .ok (.aload 5, 2) := by decide +kernel
theorem dX6_link_18 : decode cX6_link 18 = .ok (.if_acmp .ne 13, 3) := by decide +kernel
theorem dX6_link_21 : decode cX6_link 21 = .ok (.new 109, 3) := by decide +kernel
theorem dX6_link_24 : decode cX6_link 24 = .ok (.dup, 1) := by decide +kernel
theorem dX6_link_25 : decode cX6_link 25 = .ok (.ldc 111, 2) := by decide +kernel
theorem dX6_link_27 : decode cX6_link 27 = .ok (.invokespecial 113, 3) := by decide +kernel
theorem dX6_link_30 : decode cX6_link 30 = .ok (.athrow, 1) := by decide +kernel
theorem dX6_link_31 : decode cX6_link 31 = .ok (.aload 4, 2) := by decide +kernel
theorem dX6_link_33 : decode cX6_link 33 = .ok (.getfield 114, 3) := by decide +kernel
theorem dX6_link_36 : decode cX6_link 36 = .ok (.aload 5, 2) := by decide +kernel
theorem dX6_link_38 : decode cX6_link 38 = .ok (.getfield 114, 3) := by decide +kernel
theorem dX6_link_41 : decode cX6_link 41 = .ok (.if_acmp .eq 13, 3) := by decide +kernel
theorem dX6_link_44 : decode cX6_link 44 = .ok (.new 109, 3) := by decide +kernel
theorem dX6_link_47 : decode cX6_link 47 = .ok (.dup, 1) := by decide +kernel
theorem dX6_link_48 : decode cX6_link 48 = .ok (.ldc 118, 2) := by decide +kernel
theorem dX6_link_50 : decode cX6_link 50 = .ok (.invokespecial 113, 3) := by decide +kernel
theorem dX6_link_53 : decode cX6_link 53 = .ok (.athrow, 1) := by decide +kernel
theorem dX6_link_54 : decode cX6_link 54 = .ok (.aload 4, 2) := by decide +kernel
theorem dX6_link_56 : decode cX6_link 56 = .ok (.aload 5, 2) := by decide +kernel
theorem dX6_link_58 : decode cX6_link 58 = .ok (.getfield 120, 3) := by decide +kernel
theorem dX6_link_61 : decode cX6_link 61 = .ok (.iload_n 3, 1) := by decide +kernel
theorem dX6_link_62 : decode cX6_link 62 = .ok (.invokevirtual 123, 3) := by decide +kernel
theorem dX6_link_65 : decode cX6_link 65 = .ok (.ireturn, 1) := by decide +kernel
abbrev rm6_link : Room := { frames := 7, cells := 3, slots := 18, locals := 112 }
theorem hd6_link : yX6_link.cls ≠ "java/lang/invoke/MethodHandle" ∧ yX6_link.cls ≠ "java/lang/invoke/VarHandle" ∧ (parseMethodDescriptor yX6_link.desc).map (fun d => d.parameters.length) = some 3 := by decide +kernel
set_option maxHeartbeats 4000000 in
set_option maxRecDepth 20000 in
theorem m6_link (l : Launch) (hl : l.stackTraces = false) (G : xG) (ρ : Nm → Nat) (this : Nm) (p1 : Int32) (p2 : Int32) (p3 : Int32) (σ : PH) (Q : Int32 → PH → Prop) (Xp : String → PH → Prop) (h : w6_link this p1 p2 p3 σ Q Xp) : xMet l yX6_link (.code yX6_link cX6_link 6 (some .boolean)) rm6_link G ρ σ [.ref (ρ this), .int p1, .int p2, .int p3] (eI ρ Q) Xp := by
  refine xMet.of hl (by decide +kernel) (Nat.le_of_ble_eq_true rfl) (fun X hC hr hn htab h0 => ?_)
  have hC : xC G X "PlantServer" cX6_link 6 rm6_link := hC
  unfold w6_link at h
  refine xJ.loc (L' := [(0, .ref (ρ this)), (1, .int p1), (2, .int p2), (3, .int p3)]) rfl ?_
  refine x_aload_n hC 0 rfl dX6_link_0 ?_
  refine x_iload_n hC 1 rfl dX6_link_1 ?_
  obtain ⟨k1, h⟩ := h
  refine x_callV (n0 := this) (as := [.int p1]) (rest := []) hC (ci := 6) (r := (RX6, TX6, 9)) k1 rfl (fun l hl => m6_liveItem l hl G ρ this p1 σ _ Xp h) q425 q427 s5 q1 q428 ⟨rfl, hd6_liveItem⟩ (by decide) ⟨(by decide), (by decide)⟩ (by first | exact Nat.le_of_ble_eq_true rfl | (simp [rv_cat]; done) | (simp (decide := true) [rv_cat, cat_ref, cat_int]; done)) rfl dX6_link_2 (fun E σ9 hx => x_out hC h0 htab (by decide) (by decide) hx) (fun v1 σ1 ρ1 hp1 hag1 => ?_)
  obtain ⟨e9, r1, e8, h⟩ := hp1
  rw [e8, e9]
  refine xJ.nrm (k' := 1) (n' := 6) (pc' := 5) (st' := [rv ρ r1]) rfl rfl rfl rfl ?_
  refine x_astoreQ (o := r1) (L' := [(4, rv ρ r1), (0, .ref (ρ this)), (1, .int p1), (2, .int p2), (3, .int p3)]) hC dX6_link_5 (by decide) (by first | rfl | simp (decide := true) [rv_cat, cat_ref, cat_int]) ?_
  refine x_aload_n hC 1 rfl dX6_link_7 ?_
  refine x_iload_n hC 3 rfl dX6_link_8 ?_
  have k2 : hK σ1 this = 7 := (hag1 this (by rw [k1]; decide)).1.trans k1
  refine x_callV (n0 := this) (as := [.int p2]) (rest := []) hC (ci := 6) (r := (RX6, TX6, 9)) k2 rfl (fun l hl => m6_liveItem l hl G ρ this p2 σ1 _ Xp h) q425 q427 s5 q1 q428 ⟨rfl, hd6_liveItem⟩ (by decide) ⟨(by decide), (by decide)⟩ (by first | exact Nat.le_of_ble_eq_true rfl | (simp [rv_cat]; done) | (simp (decide := true) [rv_cat, cat_ref, cat_int]; done)) rfl dX6_link_9 (fun E σ9 hx => x_out hC h0 htab (by decide) (by decide) hx) (fun v2 σ2 ρ2 hp2 hag2 => ?_)
  obtain ⟨e9, r2, e8, h⟩ := hp2
  rw [e8, e9]
  refine xJ.nrm (k' := 2) (n' := 12) (pc' := 12) (st' := [rv ρ r2]) rfl rfl rfl rfl ?_
  refine x_astoreQ (o := r2) (L' := [(5, rv ρ r2), (4, rv ρ r1), (0, .ref (ρ this)), (1, .int p1), (2, .int p2), (3, .int p3)]) hC dX6_link_12 (by decide) (by first | rfl | simp (decide := true) [rv_cat, cat_ref, cat_int]) ?_
  refine x_aloadQ (o := r1) hC 1 rfl dX6_link_14 ?_
  refine x_aloadQ (o := r2) hC 0 rfl dX6_link_16 ?_
  obtain ⟨m1, hm1, h⟩ := h
  rw [show rv ρ r2 = Value.ref (ρ m1) from by rw [hm1]; rfl]
  obtain ⟨m2, hm2, h⟩ := h
  rw [show rv ρ r1 = Value.ref (ρ m2) from by rw [hm2]; rfl]
  obtain ⟨z1, h⟩ := h
  obtain ⟨z2, h⟩ := h
  refine x_acmp_ne (a := m2) (b := m1) (tgt := 31) hC z1 z2 dX6_link_18 (by decide) (fun c1 => ?_) (fun c1 => ?_)
  · have h := h.2 c1
    refine x_aload hC 1 rfl dX6_link_31 ?_
    obtain ⟨k3, h⟩ := h
    refine x_getR (n0 := m2) hC (ci := 1) (T := TX1) (N := 12) (C := RX1) 1 k3 rfl rfl (by decide) rfl q346 dX6_link_33 ?_
    refine x_aload hC 0 rfl dX6_link_36 ?_
    obtain ⟨k4, h⟩ := h
    refine x_getR (n0 := m1) hC (ci := 1) (T := TX1) (N := 12) (C := RX1) 1 k4 rfl rfl (by decide) rfl q346 dX6_link_38 ?_
    obtain ⟨m3, hm3, h⟩ := h
    rw [show rv ρ (hR σ2 m1 1) = Value.ref (ρ m3) from by rw [hm3]; rfl]
    obtain ⟨m4, hm4, h⟩ := h
    rw [show rv ρ (hR σ2 m2 1) = Value.ref (ρ m4) from by rw [hm4]; rfl]
    obtain ⟨z3, h⟩ := h
    obtain ⟨z4, h⟩ := h
    refine x_acmp_eq (a := m4) (b := m3) (tgt := 54) hC z3 z4 dX6_link_41 (by decide) (fun c2 => ?_) (fun c2 => ?_)
    · have h := h.1 c2
      refine x_aload hC 1 rfl dX6_link_54 ?_
      refine x_aload hC 0 rfl dX6_link_56 ?_
      refine x_getI (n0 := m1) hC (ci := 1) (T := TX1) (N := 12) (C := RX1) 0 k4 rfl rfl (by decide) rfl q344 dX6_link_58 ?_
      refine x_iload_n hC 5 rfl dX6_link_61 ?_
      refine x_callV (n0 := m2) (as := [.int (hI σ2 m1 0), .int p3]) (rest := []) hC (ci := 1) (r := (RX1, TX1, 12)) k3 rfl (fun l hl => m1_setTrigger l hl G ρ m2 (hI σ2 m1 0) p3 σ2 _ h) q454 q455 q456 q13 q457 ⟨rfl, hd1_setTrigger⟩ (by decide) ⟨(by decide), (by decide)⟩ (by first | exact Nat.le_of_ble_eq_true rfl | (simp [rv_cat]; done) | (simp (decide := true) [rv_cat, cat_ref, cat_int]; done)) rfl dX6_link_62 (fun E σ9 hx => False.elim hx) (fun v3 σ3 ρ3 hp3 hag3 => ?_)
      obtain ⟨e9, r3, e8, h⟩ := hp3
      rw [e8, e9]
      refine xJ.nrm (k' := 2) (n' := 12) (pc' := 65) (st' := [.int r3]) rfl rfl rfl rfl ?_
      obtain ⟨zh1, h⟩ := h
      exact x_zret hC hr zh1 dX6_link_65 (by decide) (by decide) ⟨rfl, _, rfl, h⟩
    · have h := h.2 c2
      exact x_throw (E := xIA) (text := "the items are of unlike subscriptions") (is := 118) hC h0 htab (by decide +kernel) (by decide +kernel) q99 q6 xhat_xIA xgood_xIA dX6_link_44 dX6_link_47 dX6_link_48 dX6_link_50 dX6_link_53 (by decide) (by first | exact Nat.le_of_ble_eq_true rfl | (simp [rv_cat]; done) | (simp (decide := true) [rv_cat, cat_ref, cat_int]; done)) (by decide) (by decide) h
  · have h := h.1 c1
    exact x_throw (E := xIA) (text := "an item does not trigger itself") (is := 111) hC h0 htab (by decide +kernel) (by decide +kernel) q99 q6 xhat_xIA xgood_xIA dX6_link_21 dX6_link_24 dX6_link_25 dX6_link_27 dX6_link_30 (by decide) (by first | exact Nat.le_of_ble_eq_true rfl | (simp [rv_cat]; done) | (simp (decide := true) [rv_cat, cat_ref, cat_int]; done)) (by decide) (by decide) h
/-! PlantServerLaw.link -/
theorem dL_link_0 : decode cL_link 0 = .ok (.aload_n 0, 1) := by decide +kernel
theorem dL_link_1 : decode cL_link 1 = .ok (.iload_n 1, 1) := by decide +kernel
theorem dL_link_2 : decode cL_link 2 = .ok (.iload_n 2, 1) := by decide +kernel
theorem dL_link_3 : decode cL_link 3 = .ok (.iload_n 3, 1) := by decide +kernel
theorem dL_link_4 : decode cL_link 4 = .ok (.invokevirtual 36, 3) := by decide +kernel
theorem dL_link_7 : decode cL_link 7 = .ok (.istore 4, 2) := by decide +kernel
theorem dL_link_9 : decode cL_link 9 = .ok (.goto 15, 3) := by decide +kernel
theorem dL_link_12 : decode cL_link 12 = .ok (.astore 5, 2) := by decide +kernel
theorem dL_link_14 : decode cL_link 14 = .ok (.sipush (-7100), 3) := by decide +kernel
theorem dL_link_17 : decode cL_link 17 = .ok (.ireturn, 1) := by decide +kernel
theorem dL_link_18 : decode cL_link 18 = .ok (.astore 5, 2) := by decide +kernel
theorem dL_link_20 : decode cL_link 20 = .ok (.sipush (-7200), 3) := by decide +kernel
theorem dL_link_23 : decode cL_link 23 = .ok (.ireturn, 1) := by decide +kernel
theorem dL_link_24 : decode cL_link 24 = .ok (.iload 4, 2) := by decide +kernel
theorem dL_link_26 : decode cL_link 26 = .ok (.ifCond .eq 7, 3) := by decide +kernel
theorem dL_link_29 : decode cL_link 29 = .ok (.iconst 1, 1) := by decide +kernel
theorem dL_link_30 : decode cL_link 30 = .ok (.goto 4, 3) := by decide +kernel
theorem dL_link_33 : decode cL_link 33 = .ok (.iconst 0, 1) := by decide +kernel
theorem dL_link_34 : decode cL_link 34 = .ok (.ireturn, 1) := by decide +kernel
abbrev rmL_link : Room := { frames := 8, cells := 3, slots := 18, locals := 137 }
theorem hdL_link : yL_link.cls ≠ "java/lang/invoke/MethodHandle" ∧ yL_link.cls ≠ "java/lang/invoke/VarHandle" ∧ (parseMethodDescriptor yL_link.desc).map (fun d => d.parameters.length) = some 4 := by decide +kernel
set_option maxHeartbeats 4000000 in
set_option maxRecDepth 20000 in
theorem mL_link (l : Launch) (hl : l.stackTraces = false) (G : xG) (ρ : Nm → Nat) (a1 : Nm) (p2 : Int32) (p3 : Int32) (p4 : Int32) (σ : PH) (Q : Int32 → PH → Prop) (h : wL_link a1 p2 p3 p4 σ Q) : xMet l yL_link (.codeWith yL_link cL_link 6 (some .int) [(0, 9, 12, 14), (0, 9, 18, 16)]) rmL_link G ρ σ [.ref (ρ a1), .int p2, .int p3, .int p4] (eI ρ Q) xNo := by
  refine xMet.ofW hl (by decide +kernel) (Nat.le_of_ble_eq_true rfl) (fun X hC hr hn htab h0 => ?_)
  have hC : xC G X "PlantServerLaw" cL_link 6 rmL_link := hC
  unfold wL_link at h
  refine xJ.loc (L' := [(0, .ref (ρ a1)), (1, .int p2), (2, .int p3), (3, .int p4)]) rfl ?_
  refine x_aload_n hC 0 rfl dL_link_0 ?_
  refine x_iload_n hC 1 rfl dL_link_1 ?_
  refine x_iload_n hC 2 rfl dL_link_2 ?_
  refine x_iload_n hC 3 rfl dL_link_3 ?_
  obtain ⟨k1, h⟩ := h
  refine x_callV (n0 := a1) (as := [.int p2, .int p3, .int p4]) (rest := []) hC (ci := 6) (r := (RX6, TX6, 9)) k1 rfl (fun l hl => m6_link l hl G ρ a1 p2 p3 p4 σ _ _ h) q448 q449 q450 q1 q451 ⟨rfl, hd6_link⟩ (by decide) ⟨(by decide), (by decide)⟩ (by first | exact Nat.le_of_ble_eq_true rfl | (simp [rv_cat]; done) | (simp (decide := true) [rv_cat, cat_ref, cat_int]; done)) rfl dL_link_4 (fun E σ2 hx => ?_) (fun v1 σ1 ρ1 hp1 hag1 => ?_)
  · have hE9 := hx.2.2
    rcases hE9 with he | he
    · have h := hx.1 he
      subst he
      refine x_catch hC [] [(0, 9, 18, 16)] (0, 9, 12, 14) htab (by intro z hz; simp at hz) (by decide) (by decide) q269 xcast_xIO (fun qx1 => ?_)
      refine xJ.nrm (k' := 3) (n' := 18) (pc' := 12) (st' := [.ref qx1]) rfl rfl rfl rfl ?_
      refine x_astore (L' := [(5, .ref qx1), (0, .ref (ρ a1)), (1, .int p2), (2, .int p3), (3, .int p4)]) hC dL_link_12 (by decide) (by first | rfl | simp (decide := true) [rv_cat, cat_ref, cat_int]) ?_
      refine x_sipush (v := (-7100)) hC dL_link_14 (by decide) ?_
      exact x_iret hC hr dL_link_17 (by decide) (by decide) ⟨rfl, _, rfl, h⟩
    · have h := hx.2.1 he
      subst he
      refine x_catch hC [(0, 9, 12, 14)] [] (0, 9, 18, 16) htab (xpass1 (E := xIA) q269 (by decide) (by decide +kernel)) (by decide) (by decide) q90 xcast_xIA (fun qx2 => ?_)
      refine xJ.nrm (k' := 3) (n' := 18) (pc' := 18) (st' := [.ref qx2]) rfl rfl rfl rfl ?_
      refine x_astore (L' := [(5, .ref qx2), (0, .ref (ρ a1)), (1, .int p2), (2, .int p3), (3, .int p4)]) hC dL_link_18 (by decide) (by first | rfl | simp (decide := true) [rv_cat, cat_ref, cat_int]) ?_
      refine x_sipush (v := (-7200)) hC dL_link_20 (by decide) ?_
      exact x_iret hC hr dL_link_23 (by decide) (by decide) ⟨rfl, _, rfl, h⟩
  · obtain ⟨e9, r1, e8, h⟩ := hp1
    rw [e8, e9]
    refine xJ.nrm (k' := 3) (n' := 18) (pc' := 7) (st' := [.int r1]) rfl rfl rfl rfl ?_
    refine x_istore (L' := [(4, .int r1), (0, .ref (ρ a1)), (1, .int p2), (2, .int p3), (3, .int p4)]) hC dL_link_7 (by decide) (by first | rfl | simp (decide := true) [rv_cat, cat_ref, cat_int]) ?_
    refine x_goto (tgt := 24) hC dL_link_9 (by decide) ?_
    refine x_iload hC 0 rfl dL_link_24 ?_
    refine x_if_eq (tgt := 33) hC dL_link_26 (by decide) (fun c1 => ?_) (fun c1 => ?_)
    · have h := h.1 c1
      refine x_iconst (v := 0) hC dL_link_33 (by decide) ?_
      exact x_iret hC hr dL_link_34 (by decide) (by decide) ⟨rfl, _, rfl, h⟩
    · have h := h.2 c1
      refine x_iconst (v := 1) hC dL_link_29 (by decide) ?_
      refine x_goto (tgt := 34) hC dL_link_30 (by decide) ?_
      exact x_iret hC hr dL_link_34 (by decide) (by decide) ⟨rfl, _, rfl, h⟩
