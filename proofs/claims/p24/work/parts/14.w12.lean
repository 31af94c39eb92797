/-! PlantServerLaw.tick -/
theorem dL_tick_0 : decode cL_tick 0 = .ok (.aload 11, 2) := by decide +kernel
theorem dL_tick_2 : decode cL_tick 2 = .ok (.iconst 0, 1) := by decide +kernel
theorem dL_tick_3 : decode cL_tick 3 = .ok (.dup2, 1) := by decide +kernel
theorem dL_tick_4 : decode cL_tick 4 = .ok (.iaload, 1) := by decide +kernel
theorem dL_tick_5 : decode cL_tick 5 = .ok (.iconst 1, 1) := by decide +kernel
theorem dL_tick_6 : decode cL_tick 6 = .ok (.iadd, 1) := by decide +kernel
theorem dL_tick_7 : decode cL_tick 7 = .ok (.iastore, 1) := by decide +kernel
theorem dL_tick_8 : decode cL_tick 8 = .ok (.iconst 0, 1) := by decide +kernel
theorem dL_tick_9 : decode cL_tick 9 = .ok (.istore 12, 2) := by decide +kernel
theorem dL_tick_11 : decode cL_tick 11 = .ok (.iload 12, 2) := by decide +kernel
theorem dL_tick_13 : decode cL_tick 13 = .ok (.aload 11, 2) := by decide +kernel
theorem dL_tick_15 : decode cL_tick 15 = .ok (.iconst 2, 1) := by decide +kernel
theorem dL_tick_16 : decode cL_tick 16 = .ok (.iaload, 1) := by decide +kernel
theorem dL_tick_17 : decode cL_tick 17 = .ok (.if_icmp .ge 61, 3) := by decide +kernel
theorem dL_tick_20 : decode cL_tick 20 = .ok (.aload_n 1, 1) := by decide +kernel
theorem dL_tick_21 : decode cL_tick 21 = .ok (.bipush 11, 2) := by decide +kernel
theorem dL_tick_23 : decode cL_tick 23 = .ok (.aload_n 2, 1) := by decide +kernel
theorem dL_tick_24 : decode cL_tick 24 = .ok (.iload 12, 2) := by decide +kernel
theorem dL_tick_26 : decode cL_tick 26 = .ok (.iaload, 1) := by decide +kernel
theorem dL_tick_27 : decode cL_tick 27 = .ok (.iconst 1, 1) := by decide +kernel
theorem dL_tick_28 : decode cL_tick 28 = .ok (.iand, 1) := by decide +kernel
theorem dL_tick_29 : decode cL_tick 29 = .ok (.imul, 1) := by decide +kernel
theorem dL_tick_30 : decode cL_tick 30 = .ok (.iaload, 1) := by decide +kernel
theorem dL_tick_31 : decode cL_tick 31 = .ok (.iconst 1, 1) := by decide +kernel
theorem dL_tick_32 : decode cL_tick 32 = .ok (.if_icmp .ne 40, 3) := by decide +kernel
theorem dL_tick_35 : decode cL_tick 35 = .ok (.aload 11, 2) := by decide +kernel
theorem dL_tick_37 : decode cL_tick 37 = .ok (.iconst 0, 1) := by decide +kernel
theorem dL_tick_38 : decode cL_tick 38 = .ok (.iaload, 1) := by decide +kernel
theorem dL_tick_39 : decode cL_tick 39 = .ok (.aload_n 3, 1) := by decide +kernel
theorem dL_tick_40 : decode cL_tick 40 = .ok (.iload 12, 2) := by decide +kernel
theorem dL_tick_42 : decode cL_tick 42 = .ok (.iaload, 1) := by decide +kernel
theorem dL_tick_43 : decode cL_tick 43 = .ok (.isub, 1) := by decide +kernel
theorem dL_tick_44 : decode cL_tick 44 = .ok (.aload_n 2, 1) := by decide +kernel
theorem dL_tick_45 : decode cL_tick 45 = .ok (.iload 12, 2) := by decide +kernel
theorem dL_tick_47 : decode cL_tick 47 = .ok (.iaload, 1) := by decide +kernel
theorem dL_tick_48 : decode cL_tick 48 = .ok (.iconst 5, 1) := by decide +kernel
theorem dL_tick_49 : decode cL_tick 49 = .ok (.ishr, 1) := by decide +kernel
theorem dL_tick_50 : decode cL_tick 50 = .ok (.bipush 31, 2) := by decide +kernel
theorem dL_tick_52 : decode cL_tick 52 = .ok (.iand, 1) := by decide +kernel
theorem dL_tick_53 : decode cL_tick 53 = .ok (.irem, 1) := by decide +kernel
theorem dL_tick_54 : decode cL_tick 54 = .ok (.ifCond .ne 18, 3) := by decide +kernel
theorem dL_tick_57 : decode cL_tick 57 = .ok (.iload 12, 2) := by decide +kernel
theorem dL_tick_59 : decode cL_tick 59 = .ok (.aload_n 0, 1) := by decide +kernel
theorem dL_tick_60 : decode cL_tick 60 = .ok (.aload_n 2, 1) := by decide +kernel
theorem dL_tick_61 : decode cL_tick 61 = .ok (.aload 4, 2) := by decide +kernel
theorem dL_tick_63 : decode cL_tick 63 = .ok (.aload 5, 2) := by decide +kernel
theorem dL_tick_65 : decode cL_tick 65 = .ok (.aload 6, 2) := by decide +kernel
theorem dL_tick_67 : decode cL_tick 67 = .ok (.aload 8, 2) := by decide +kernel
theorem dL_tick_69 : decode cL_tick 69 = .ok (.invokestatic 85, 3) := by decide +kernel
theorem dL_tick_72 : decode cL_tick 72 = .ok (.iinc 12 1, 3) := by decide +kernel
theorem dL_tick_75 : decode cL_tick 75 = .ok (.goto (-64), 3) := by decide +kernel
theorem dL_tick_78 : decode cL_tick 78 = .ok (.aload 11, 2) := by decide +kernel
theorem dL_tick_80 : decode cL_tick 80 = .ok (.iconst 1, 1) := by decide +kernel
theorem dL_tick_81 : decode cL_tick 81 = .ok (.iaload, 1) := by decide +kernel
theorem dL_tick_82 : decode cL_tick 82 = .ok (.iconst 2, 1) := by decide +kernel
theorem dL_tick_83 : decode cL_tick 83 = .ok (.if_icmp .ne 18, 3) := by decide +kernel
theorem dL_tick_86 : decode cL_tick 86 = .ok (.aload_n 1, 1) := by decide +kernel
theorem dL_tick_87 : decode cL_tick 87 = .ok (.bipush 16, 2) := by decide +kernel
theorem dL_tick_89 : decode cL_tick 89 = .ok (.iaload, 1) := by decide +kernel
theorem dL_tick_90 : decode cL_tick 90 = .ok (.aload_n 1, 1) := by decide +kernel
theorem dL_tick_91 : decode cL_tick 91 = .ok (.iconst 5, 1) := by decide +kernel
theorem dL_tick_92 : decode cL_tick 92 = .ok (.iaload, 1) := by decide +kernel
theorem dL_tick_93 : decode cL_tick 93 = .ok (.if_icmp .le 8, 3) := by decide +kernel
theorem dL_tick_96 : decode cL_tick 96 = .ok (.bipush 11, 2) := by decide +kernel
theorem dL_tick_98 : decode cL_tick 98 = .ok (.goto 4, 3) := by decide +kernel
theorem dL_tick_101 : decode cL_tick 101 = .ok (.iconst 0, 1) := by decide +kernel
theorem dL_tick_102 : decode cL_tick 102 = .ok (.istore 12, 2) := by decide +kernel
theorem dL_tick_104 : decode cL_tick 104 = .ok (.iconst 0, 1) := by decide +kernel
theorem dL_tick_105 : decode cL_tick 105 = .ok (.istore 13, 2) := by decide +kernel
theorem dL_tick_107 : decode cL_tick 107 = .ok (.iconst 0, 1) := by decide +kernel
theorem dL_tick_108 : decode cL_tick 108 = .ok (.istore 14, 2) := by decide +kernel
theorem dL_tick_110 : decode cL_tick 110 = .ok (.iload 14, 2) := by decide +kernel
theorem dL_tick_112 : decode cL_tick 112 = .ok (.aload 11, 2) := by decide +kernel
theorem dL_tick_114 : decode cL_tick 114 = .ok (.iconst 1, 1) := by decide +kernel
theorem dL_tick_115 : decode cL_tick 115 = .ok (.iaload, 1) := by decide +kernel
theorem dL_tick_116 : decode cL_tick 116 = .ok (.if_icmp .ge 79, 3) := by decide +kernel
theorem dL_tick_119 : decode cL_tick 119 = .ok (.iload 14, 2) := by decide +kernel
theorem dL_tick_121 : decode cL_tick 121 = .ok (.ifCond .ne 8, 3) := by decide +kernel
theorem dL_tick_124 : decode cL_tick 124 = .ok (.iload 12, 2) := by decide +kernel
theorem dL_tick_126 : decode cL_tick 126 = .ok (.goto 8, 3) := by decide +kernel
theorem dL_tick_129 : decode cL_tick 129 = .ok (.bipush 11, 2) := by decide +kernel
theorem dL_tick_131 : decode cL_tick 131 = .ok (.iload 12, 2) := by decide +kernel
theorem dL_tick_133 : decode cL_tick 133 = .ok (.isub, 1) := by decide +kernel
theorem dL_tick_134 : decode cL_tick 134 = .ok (.istore 15, 2) := by decide +kernel
theorem dL_tick_136 : decode cL_tick 136 = .ok (.aload_n 1, 1) := by decide +kernel
theorem dL_tick_137 : decode cL_tick 137 = .ok (.iload 15, 2) := by decide +kernel
theorem dL_tick_139 : decode cL_tick 139 = .ok (.iaload, 1) := by decide +kernel
theorem dL_tick_140 : decode cL_tick 140 = .ok (.iconst 1, 1) := by decide +kernel
theorem dL_tick_141 : decode cL_tick 141 = .ok (.if_icmp .ne 48, 3) := by decide +kernel
theorem dL_tick_144 : decode cL_tick 144 = .ok (.aload 11, 2) := by decide +kernel
theorem dL_tick_146 : decode cL_tick 146 = .ok (.iconst 0, 1) := by decide +kernel
theorem dL_tick_147 : decode cL_tick 147 = .ok (.iaload, 1) := by decide +kernel
theorem dL_tick_148 : decode cL_tick 148 = .ok (.aload_n 1, 1) := by decide +kernel
theorem dL_tick_149 : decode cL_tick 149 = .ok (.iload 15, 2) := by decide +kernel
theorem dL_tick_151 : decode cL_tick 151 = .ok (.iconst 1, 1) := by decide +kernel
theorem dL_tick_152 : decode cL_tick 152 = .ok (.iadd, 1) := by decide +kernel
theorem dL_tick_153 : decode cL_tick 153 = .ok (.iaload, 1) := by decide +kernel
theorem dL_tick_154 : decode cL_tick 154 = .ok (.isub, 1) := by decide +kernel
theorem dL_tick_155 : decode cL_tick 155 = .ok (.aload_n 1, 1) := by decide +kernel
theorem dL_tick_156 : decode cL_tick 156 = .ok (.iload 15, 2) := by decide +kernel
theorem dL_tick_158 : decode cL_tick 158 = .ok (.iconst 2, 1) := by decide +kernel
theorem dL_tick_159 : decode cL_tick 159 = .ok (.iadd, 1) := by decide +kernel
theorem dL_tick_160 : decode cL_tick 160 = .ok (.iaload, 1) := by decide +kernel
theorem dL_tick_161 : decode cL_tick 161 = .ok (.irem, 1) := by decide +kernel
theorem dL_tick_162 : decode cL_tick 162 = .ok (.ifCond .ne 27, 3) := by decide +kernel
theorem dL_tick_165 : decode cL_tick 165 = .ok (.iload 13, 2) := by decide +kernel
theorem dL_tick_167 : decode cL_tick 167 = .ok (.iload 15, 2) := by decide +kernel
theorem dL_tick_169 : decode cL_tick 169 = .ok (.aload_n 1, 1) := by decide +kernel
theorem dL_tick_170 : decode cL_tick 170 = .ok (.aload_n 2, 1) := by decide +kernel
theorem dL_tick_171 : decode cL_tick 171 = .ok (.aload 6, 2) := by decide +kernel
theorem dL_tick_173 : decode cL_tick 173 = .ok (.aload 7, 2) := by decide +kernel
theorem dL_tick_175 : decode cL_tick 175 = .ok (.aload 8, 2) := by decide +kernel
theorem dL_tick_177 : decode cL_tick 177 = .ok (.aload 9, 2) := by decide +kernel
theorem dL_tick_179 : decode cL_tick 179 = .ok (.aload 10, 2) := by decide +kernel
theorem dL_tick_181 : decode cL_tick 181 = .ok (.aload 11, 2) := by decide +kernel
theorem dL_tick_183 : decode cL_tick 183 = .ok (.invokestatic 89, 3) := by decide +kernel
theorem dL_tick_186 : decode cL_tick 186 = .ok (.iadd, 1) := by decide +kernel
theorem dL_tick_187 : decode cL_tick 187 = .ok (.istore 13, 2) := by decide +kernel
theorem dL_tick_189 : decode cL_tick 189 = .ok (.iinc 14 1, 3) := by decide +kernel
theorem dL_tick_192 : decode cL_tick 192 = .ok (.goto (-82), 3) := by decide +kernel
theorem dL_tick_195 : decode cL_tick 195 = .ok (.iload 13, 2) := by decide +kernel
theorem dL_tick_197 : decode cL_tick 197 = .ok (.ireturn, 1) := by decide +kernel
abbrev rmL_tick : Room := { frames := 1, cells := 0, slots := 0, locals := 35 }
theorem hdL_tick : yL_tick.cls ≠ "java/lang/invoke/MethodHandle" ∧ yL_tick.cls ≠ "java/lang/invoke/VarHandle" ∧ (parseMethodDescriptor yL_tick.desc).map (fun d => d.parameters.length) = some 12 := by decide +kernel
set_option maxHeartbeats 4000000 in
set_option maxRecDepth 20000 in
theorem mlL_tick_11 {G : xG} {X : xX} (hC : xC G X "PlantServerLaw" cL_tick 16 rmL_tick) (hr : xRt X (some .int)) (htab : xTab X []) (a1 : Nm) (a2 : Nm) (a3 : Nm) (a4 : Nm) (a5 : Nm) (a6 : Nm) (a7 : Nm) (a8 : Nm) (a9 : Nm) (a10 : Nm) (a11 : Nm) (a12 : Nm) {ρ : Nm → Nat} (h0 : xR0 X ρ) (k n : Nat) (hk1 : k ≤ 0) (hk2 : n ≤ 0) (K : Int32 → PH → Prop) (Q : Int32 → PH → Prop) (Xp : String → PH → Prop) : ∀ (f11 : Nat) (x11_12 : Int32) (τ11 : PH), lL_tick_11 a1 a2 a3 a4 a5 a6 a7 a8 a9 a10 a11 a12 K Q f11 x11_12 τ11 → (∀ (x11_12 : Int32) (τ11 : PH), K x11_12 τ11 → xJ G X (xT X (eI ρ Q) Xp G rmL_tick) 16 ρ τ11 k n 78 [(0, .ref (ρ a1)), (1, .ref (ρ a2)), (2, .ref (ρ a3)), (3, .ref (ρ a4)), (4, .ref (ρ a5)), (5, .ref (ρ a6)), (6, .ref (ρ a7)), (7, .ref (ρ a8)), (8, .ref (ρ a9)), (9, .ref (ρ a10)), (10, .ref (ρ a11)), (11, .ref (ρ a12)), (12, .int x11_12)] []) → xJ G X (xT X (eI ρ Q) Xp G rmL_tick) 16 ρ τ11 k n 11 [(0, .ref (ρ a1)), (1, .ref (ρ a2)), (2, .ref (ρ a3)), (3, .ref (ρ a4)), (4, .ref (ρ a5)), (5, .ref (ρ a6)), (6, .ref (ρ a7)), (7, .ref (ρ a8)), (8, .ref (ρ a9)), (9, .ref (ρ a10)), (10, .ref (ρ a11)), (11, .ref (ρ a12)), (12, .int x11_12)] [] := by
  intro f11
  induction f11 with
  | zero => intro x11_12 τ11 h hKK; unfold lL_tick_11 at h; exact h.elim
  | succ f11 ih =>
    intro x11_12 τ11 h hKK
    unfold lL_tick_11 at h
    refine x_iload hC 12 rfl dL_tick_11 ?_
    refine x_aload hC 11 rfl dL_tick_13 ?_
    refine x_iconst (v := 2) hC dL_tick_15 (by decide) ?_
    obtain ⟨k2, h⟩ := h
    obtain ⟨v2, h⟩ := h
    refine x_iald (a := a12) hC k2 v2 dL_tick_16 ?_
    refine x_icmp_ge (tgt := 78) hC dL_tick_17 (by decide) (fun c1 => ?_) (fun c1 => ?_)
    · have h := h.1 c1
      exact hKK _ _ h
    · have h := h.2 c1
      refine x_aload_n hC 1 rfl dL_tick_20 ?_
      refine x_bipush (v := 11) hC dL_tick_21 (by decide) ?_
      refine x_aload_n hC 2 rfl dL_tick_23 ?_
      refine x_iload hC 12 rfl dL_tick_24 ?_
      obtain ⟨k3, h⟩ := h
      obtain ⟨v3, h⟩ := h
      refine x_iald (a := a3) hC k3 v3 dL_tick_26 ?_
      refine x_iconst (v := 1) hC dL_tick_27 (by decide) ?_
      refine x_iand hC dL_tick_28 ?_
      refine x_imul hC dL_tick_29 ?_
      obtain ⟨k4, h⟩ := h
      obtain ⟨v4, h⟩ := h
      refine x_iald (a := a2) hC k4 v4 dL_tick_30 ?_
      refine x_iconst (v := 1) hC dL_tick_31 (by decide) ?_
      refine x_icmp_ne (tgt := 72) hC dL_tick_32 (by decide) (fun c2 => ?_) (fun c2 => ?_)
      · have h := h.1 c2
        refine x_iinc (v' := x11_12 + 1) (L' := [(12, .int (x11_12 + 1)), (0, .ref (ρ a1)), (1, .ref (ρ a2)), (2, .ref (ρ a3)), (3, .ref (ρ a4)), (4, .ref (ρ a5)), (5, .ref (ρ a6)), (6, .ref (ρ a7)), (7, .ref (ρ a8)), (8, .ref (ρ a9)), (9, .ref (ρ a10)), (10, .ref (ρ a11)), (11, .ref (ρ a12))]) hC 12 rfl dL_tick_72 rfl (by decide) (by first | rfl | simp (decide := true) [rv_cat, cat_ref, cat_int]) ?_
        refine x_goto (tgt := 11) hC dL_tick_75 (by decide) ?_
        refine xJ.sub (L' := [(0, .ref (ρ a1)), (1, .ref (ρ a2)), (2, .ref (ρ a3)), (3, .ref (ρ a4)), (4, .ref (ρ a5)), (5, .ref (ρ a6)), (6, .ref (ρ a7)), (7, .ref (ρ a8)), (8, .ref (ρ a9)), (9, .ref (ρ a10)), (10, .ref (ρ a11)), (11, .ref (ρ a12)), (12, .int (x11_12 + 1))]) [1, 2, 3, 4, 5, 6, 7, 8, 9, 10, 11, 12, 0] rfl ?_
        exact ih _ _ h hKK
      · have h := h.2 c2
        refine x_aload hC 11 rfl dL_tick_35 ?_
        refine x_iconst (v := 0) hC dL_tick_37 (by decide) ?_
        obtain ⟨v5, h⟩ := h
        refine x_iald (a := a12) hC k2 v5 dL_tick_38 ?_
        refine x_aload_n hC 3 rfl dL_tick_39 ?_
        refine x_iload hC 12 rfl dL_tick_40 ?_
        obtain ⟨k5, h⟩ := h
        obtain ⟨v6, h⟩ := h
        refine x_iald (a := a4) hC k5 v6 dL_tick_42 ?_
        refine x_isub hC dL_tick_43 ?_
        refine x_aload_n hC 2 rfl dL_tick_44 ?_
        refine x_iload hC 12 rfl dL_tick_45 ?_
        refine x_iald (a := a3) hC k3 v3 dL_tick_47 ?_
        refine x_iconst (v := 5) hC dL_tick_48 (by decide) ?_
        refine x_ishr hC dL_tick_49 ?_
        refine x_bipush (v := 31) hC dL_tick_50 (by decide) ?_
        refine x_iand hC dL_tick_52 ?_
        obtain ⟨nz1, h⟩ := h
        refine x_irem hC nz1 dL_tick_53 ?_
        refine x_if_ne (tgt := 72) hC dL_tick_54 (by decide) (fun c3 => ?_) (fun c3 => ?_)
        · have h := h.1 c3
          refine x_iinc (v' := x11_12 + 1) (L' := [(12, .int (x11_12 + 1)), (0, .ref (ρ a1)), (1, .ref (ρ a2)), (2, .ref (ρ a3)), (3, .ref (ρ a4)), (4, .ref (ρ a5)), (5, .ref (ρ a6)), (6, .ref (ρ a7)), (7, .ref (ρ a8)), (8, .ref (ρ a9)), (9, .ref (ρ a10)), (10, .ref (ρ a11)), (11, .ref (ρ a12))]) hC 12 rfl dL_tick_72 rfl (by decide) (by first | rfl | simp (decide := true) [rv_cat, cat_ref, cat_int]) ?_
          refine x_goto (tgt := 11) hC dL_tick_75 (by decide) ?_
          refine xJ.sub (L' := [(0, .ref (ρ a1)), (1, .ref (ρ a2)), (2, .ref (ρ a3)), (3, .ref (ρ a4)), (4, .ref (ρ a5)), (5, .ref (ρ a6)), (6, .ref (ρ a7)), (7, .ref (ρ a8)), (8, .ref (ρ a9)), (9, .ref (ρ a10)), (10, .ref (ρ a11)), (11, .ref (ρ a12)), (12, .int (x11_12 + 1))]) [1, 2, 3, 4, 5, 6, 7, 8, 9, 10, 11, 12, 0] rfl ?_
          exact ih _ _ h hKK
        · have h := h.2 c3
          refine x_iload hC 12 rfl dL_tick_57 ?_
          refine x_aload_n hC 0 rfl dL_tick_59 ?_
          refine x_aload_n hC 2 rfl dL_tick_60 ?_
          refine x_aload hC 4 rfl dL_tick_61 ?_
          refine x_aload hC 5 rfl dL_tick_63 ?_
          refine x_aload hC 6 rfl dL_tick_65 ?_
          refine x_aload hC 8 rfl dL_tick_67 ?_
          refine x_callS (as := [.int x11_12, .ref (ρ a1), .ref (ρ a3), .ref (ρ a5), .ref (ρ a6), .ref (ρ a7), .ref (ρ a9)]) (rest := []) hC (fun l hl => mL_sample l hl G ρ x11_12 a1 a3 a5 a6 a7 a9 τ11 _ h) q432 q433 q0 q434 hdL_sample (by decide) ⟨(show _ + 0 ≤ 0 by omega), (show _ + 0 ≤ 0 by omega)⟩ (by first | exact Nat.le_of_ble_eq_true rfl | (simp [rv_cat]; done) | (simp (decide := true) [rv_cat, cat_ref, cat_int]; done)) rfl dL_tick_69 (fun E σ9 hx => False.elim hx) (fun v7 σ2 ρ1 hp1 hag1 => ?_)
          obtain ⟨e9, e8, h⟩ := hp1
          rw [e8, e9]
          refine xJ.nrm (k' := k + 0) (n' := n + 0) (pc' := 72) (st' := []) rfl rfl rfl rfl ?_
          refine x_iinc (v' := x11_12 + 1) (L' := [(12, .int (x11_12 + 1)), (0, .ref (ρ a1)), (1, .ref (ρ a2)), (2, .ref (ρ a3)), (3, .ref (ρ a4)), (4, .ref (ρ a5)), (5, .ref (ρ a6)), (6, .ref (ρ a7)), (7, .ref (ρ a8)), (8, .ref (ρ a9)), (9, .ref (ρ a10)), (10, .ref (ρ a11)), (11, .ref (ρ a12))]) hC 12 rfl dL_tick_72 rfl (by decide) (by first | rfl | simp (decide := true) [rv_cat, cat_ref, cat_int]) ?_
          refine x_goto (tgt := 11) hC dL_tick_75 (by decide) ?_
          refine xJ.sub (L' := [(0, .ref (ρ a1)), (1, .ref (ρ a2)), (2, .ref (ρ a3)), (3, .ref (ρ a4)), (4, .ref (ρ a5)), (5, .ref (ρ a6)), (6, .ref (ρ a7)), (7, .ref (ρ a8)), (8, .ref (ρ a9)), (9, .ref (ρ a10)), (10, .ref (ρ a11)), (11, .ref (ρ a12)), (12, .int (x11_12 + 1))]) [1, 2, 3, 4, 5, 6, 7, 8, 9, 10, 11, 12, 0] rfl ?_
          exact ih _ _ h hKK
set_option maxHeartbeats 4000000 in
set_option maxRecDepth 20000 in
theorem mlL_tick_110 {G : xG} {X : xX} (hC : xC G X "PlantServerLaw" cL_tick 16 rmL_tick) (hr : xRt X (some .int)) (htab : xTab X []) (a2 : Nm) (a3 : Nm) (a7 : Nm) (a8 : Nm) (a9 : Nm) (a10 : Nm) (a11 : Nm) (a12 : Nm) (x1 : Int32) {ρ : Nm → Nat} (h0 : xR0 X ρ) (k n : Nat) (hk1 : k ≤ 0) (hk2 : n ≤ 0) (K : Int32 → Int32 → PH → Prop) (Q : Int32 → PH → Prop) (Xp : String → PH → Prop) : ∀ (f110 : Nat) (x110_13 : Int32) (x110_14 : Int32) (τ110 : PH), lL_tick_110 a2 a3 a7 a8 a9 a10 a11 a12 x1 K Q f110 x110_13 x110_14 τ110 → (∀ (x110_13 : Int32) (x110_14 : Int32) (τ110 : PH), K x110_13 x110_14 τ110 → xJ G X (xT X (eI ρ Q) Xp G rmL_tick) 16 ρ τ110 k n 195 [(1, .ref (ρ a2)), (2, .ref (ρ a3)), (6, .ref (ρ a7)), (7, .ref (ρ a8)), (8, .ref (ρ a9)), (9, .ref (ρ a10)), (10, .ref (ρ a11)), (11, .ref (ρ a12)), (12, .int x1), (13, .int x110_13), (14, .int x110_14)] []) → xJ G X (xT X (eI ρ Q) Xp G rmL_tick) 16 ρ τ110 k n 110 [(1, .ref (ρ a2)), (2, .ref (ρ a3)), (6, .ref (ρ a7)), (7, .ref (ρ a8)), (8, .ref (ρ a9)), (9, .ref (ρ a10)), (10, .ref (ρ a11)), (11, .ref (ρ a12)), (12, .int x1), (13, .int x110_13), (14, .int x110_14)] [] := by
  intro f110
  induction f110 with
  | zero => intro x110_13 x110_14 τ110 h hKK; unfold lL_tick_110 at h; exact h.elim
  | succ f110 ih =>
    intro x110_13 x110_14 τ110 h hKK
    unfold lL_tick_110 at h
    refine x_iload hC 10 rfl dL_tick_110 ?_
    refine x_aload hC 7 rfl dL_tick_112 ?_
    refine x_iconst (v := 1) hC dL_tick_114 (by decide) ?_
    obtain ⟨k8, h⟩ := h
    obtain ⟨v11, h⟩ := h
    refine x_iald (a := a12) hC k8 v11 dL_tick_115 ?_
    refine x_icmp_ge (tgt := 195) hC dL_tick_116 (by decide) (fun c6 => ?_) (fun c6 => ?_)
    · have h := h.1 c6
      exact hKK _ _ _ h
    · have h := h.2 c6
      refine x_iload hC 10 rfl dL_tick_119 ?_
      refine xJ.jV (pcJ := 134) (stJ := []) h (fun x2 h => ?_) (fun K2 hk2 h => ?_)
      · refine x_istore (L' := [(15, .int x2), (1, .ref (ρ a2)), (2, .ref (ρ a3)), (6, .ref (ρ a7)), (7, .ref (ρ a8)), (8, .ref (ρ a9)), (9, .ref (ρ a10)), (10, .ref (ρ a11)), (11, .ref (ρ a12)), (12, .int x1), (13, .int x110_13), (14, .int x110_14)]) hC dL_tick_134 (by decide) (by first | rfl | simp (decide := true) [rv_cat, cat_ref, cat_int]) ?_
        refine x_aload_n hC 1 rfl dL_tick_136 ?_
        refine x_iload hC 0 rfl dL_tick_137 ?_
        obtain ⟨k9, h⟩ := h
        obtain ⟨v12, h⟩ := h
        refine x_iald (a := a2) hC k9 v12 dL_tick_139 ?_
        refine x_iconst (v := 1) hC dL_tick_140 (by decide) ?_
        refine x_icmp_ne (tgt := 189) hC dL_tick_141 (by decide) (fun c8 => ?_) (fun c8 => ?_)
        · have h := h.1 c8
          refine x_iinc (v' := x110_14 + 1) (L' := [(14, .int (x110_14 + 1)), (15, .int x2), (1, .ref (ρ a2)), (2, .ref (ρ a3)), (6, .ref (ρ a7)), (7, .ref (ρ a8)), (8, .ref (ρ a9)), (9, .ref (ρ a10)), (10, .ref (ρ a11)), (11, .ref (ρ a12)), (12, .int x1), (13, .int x110_13)]) hC 11 rfl dL_tick_189 rfl (by decide) (by first | rfl | simp (decide := true) [rv_cat, cat_ref, cat_int]) ?_
          refine x_goto (tgt := 110) hC dL_tick_192 (by decide) ?_
          refine xJ.sub (L' := [(1, .ref (ρ a2)), (2, .ref (ρ a3)), (6, .ref (ρ a7)), (7, .ref (ρ a8)), (8, .ref (ρ a9)), (9, .ref (ρ a10)), (10, .ref (ρ a11)), (11, .ref (ρ a12)), (12, .int x1), (13, .int x110_13), (14, .int (x110_14 + 1))]) [2, 3, 4, 5, 6, 7, 8, 9, 10, 11, 0] rfl ?_
          exact ih _ _ _ h hKK
        · have h := h.2 c8
          refine x_aload hC 8 rfl dL_tick_144 ?_
          refine x_iconst (v := 0) hC dL_tick_146 (by decide) ?_
          obtain ⟨v13, h⟩ := h
          refine x_iald (a := a12) hC k8 v13 dL_tick_147 ?_
          refine x_aload_n hC 1 rfl dL_tick_148 ?_
          refine x_iload hC 0 rfl dL_tick_149 ?_
          refine x_iconst (v := 1) hC dL_tick_151 (by decide) ?_
          refine x_iadd hC dL_tick_152 ?_
          obtain ⟨v14, h⟩ := h
          refine x_iald (a := a2) hC k9 v14 dL_tick_153 ?_
          refine x_isub hC dL_tick_154 ?_
          refine x_aload_n hC 1 rfl dL_tick_155 ?_
          refine x_iload hC 0 rfl dL_tick_156 ?_
          refine x_iconst (v := 2) hC dL_tick_158 (by decide) ?_
          refine x_iadd hC dL_tick_159 ?_
          obtain ⟨v15, h⟩ := h
          refine x_iald (a := a2) hC k9 v15 dL_tick_160 ?_
          obtain ⟨nz2, h⟩ := h
          refine x_irem hC nz2 dL_tick_161 ?_
          refine x_if_ne (tgt := 189) hC dL_tick_162 (by decide) (fun c9 => ?_) (fun c9 => ?_)
          · have h := h.1 c9
            refine x_iinc (v' := x110_14 + 1) (L' := [(14, .int (x110_14 + 1)), (15, .int x2), (1, .ref (ρ a2)), (2, .ref (ρ a3)), (6, .ref (ρ a7)), (7, .ref (ρ a8)), (8, .ref (ρ a9)), (9, .ref (ρ a10)), (10, .ref (ρ a11)), (11, .ref (ρ a12)), (12, .int x1), (13, .int x110_13)]) hC 11 rfl dL_tick_189 rfl (by decide) (by first | rfl | simp (decide := true) [rv_cat, cat_ref, cat_int]) ?_
            refine x_goto (tgt := 110) hC dL_tick_192 (by decide) ?_
            refine xJ.sub (L' := [(1, .ref (ρ a2)), (2, .ref (ρ a3)), (6, .ref (ρ a7)), (7, .ref (ρ a8)), (8, .ref (ρ a9)), (9, .ref (ρ a10)), (10, .ref (ρ a11)), (11, .ref (ρ a12)), (12, .int x1), (13, .int x110_13), (14, .int (x110_14 + 1))]) [2, 3, 4, 5, 6, 7, 8, 9, 10, 11, 0] rfl ?_
            exact ih _ _ _ h hKK
          · have h := h.2 c9
            refine x_iload hC 10 rfl dL_tick_165 ?_
            refine x_iload hC 0 rfl dL_tick_167 ?_
            refine x_aload_n hC 1 rfl dL_tick_169 ?_
            refine x_aload_n hC 2 rfl dL_tick_170 ?_
            refine x_aload hC 3 rfl dL_tick_171 ?_
            refine x_aload hC 4 rfl dL_tick_173 ?_
            refine x_aload hC 5 rfl dL_tick_175 ?_
            refine x_aload hC 6 rfl dL_tick_177 ?_
            refine x_aload hC 7 rfl dL_tick_179 ?_
            refine x_aload hC 8 rfl dL_tick_181 ?_
            refine x_callS (as := [.int x2, .ref (ρ a2), .ref (ρ a3), .ref (ρ a7), .ref (ρ a8), .ref (ρ a9), .ref (ρ a10), .ref (ρ a11), .ref (ρ a12)]) (rest := [.int x110_13]) hC (fun l hl => mL_publish l hl G ρ x2 a2 a3 a7 a8 a9 a10 a11 a12 τ110 _ h) q605 q606 q0 q607 hdL_publish (by decide) ⟨(show _ + 0 ≤ 0 by omega), (show _ + 0 ≤ 0 by omega)⟩ (by first | exact Nat.le_of_ble_eq_true rfl | (simp [rv_cat]; done) | (simp (decide := true) [rv_cat, cat_ref, cat_int]; done)) rfl dL_tick_183 (fun E σ9 hx => False.elim hx) (fun v16 σ3 ρ2 hp2 hag2 => ?_)
            obtain ⟨e9, r2, e8, h⟩ := hp2
            rw [e8, e9]
            refine xJ.nrm (k' := k + 0) (n' := n + 0) (pc' := 186) (st' := [.int r2, .int x110_13]) rfl rfl rfl rfl ?_
            refine x_iadd hC dL_tick_186 ?_
            refine x_istore (L' := [(13, .int (x110_13 + r2)), (15, .int x2), (1, .ref (ρ a2)), (2, .ref (ρ a3)), (6, .ref (ρ a7)), (7, .ref (ρ a8)), (8, .ref (ρ a9)), (9, .ref (ρ a10)), (10, .ref (ρ a11)), (11, .ref (ρ a12)), (12, .int x1), (14, .int x110_14)]) hC dL_tick_187 (by decide) (by first | rfl | simp (decide := true) [rv_cat, cat_ref, cat_int]) ?_
            refine x_iinc (v' := x110_14 + 1) (L' := [(14, .int (x110_14 + 1)), (13, .int (x110_13 + r2)), (15, .int x2), (1, .ref (ρ a2)), (2, .ref (ρ a3)), (6, .ref (ρ a7)), (7, .ref (ρ a8)), (8, .ref (ρ a9)), (9, .ref (ρ a10)), (10, .ref (ρ a11)), (11, .ref (ρ a12)), (12, .int x1)]) hC 11 rfl dL_tick_189 rfl (by decide) (by first | rfl | simp (decide := true) [rv_cat, cat_ref, cat_int]) ?_
            refine x_goto (tgt := 110) hC dL_tick_192 (by decide) ?_
            refine xJ.sub (L' := [(1, .ref (ρ a2)), (2, .ref (ρ a3)), (6, .ref (ρ a7)), (7, .ref (ρ a8)), (8, .ref (ρ a9)), (9, .ref (ρ a10)), (10, .ref (ρ a11)), (11, .ref (ρ a12)), (12, .int x1), (13, .int (x110_13 + r2)), (14, .int (x110_14 + 1))]) [3, 4, 5, 6, 7, 8, 9, 10, 11, 1, 0] rfl ?_
            exact ih _ _ _ h hKK
      · refine x_if_ne (tgt := 129) hC dL_tick_121 (by decide) (fun c7 => ?_) (fun c7 => ?_)
        · have h := h.1 c7
          refine x_bipush (v := 11) hC dL_tick_129 (by decide) ?_
          refine x_iload hC 8 rfl dL_tick_131 ?_
          refine x_isub hC dL_tick_133 ?_
          exact hk2 _ h
        · have h := h.2 c7
          refine x_iload hC 8 rfl dL_tick_124 ?_
          refine x_goto (tgt := 134) hC dL_tick_126 (by decide) ?_
          exact hk2 _ h
set_option maxHeartbeats 4000000 in
set_option maxRecDepth 20000 in
theorem mL_tick (l : Launch) (hl : l.stackTraces = false) (G : xG) (ρ : Nm → Nat) (a1 : Nm) (a2 : Nm) (a3 : Nm) (a4 : Nm) (a5 : Nm) (a6 : Nm) (a7 : Nm) (a8 : Nm) (a9 : Nm) (a10 : Nm) (a11 : Nm) (a12 : Nm) (σ : PH) (Q : Int32 → PH → Prop) (h : wL_tick a1 a2 a3 a4 a5 a6 a7 a8 a9 a10 a11 a12 σ Q) : xMet l yL_tick (.code yL_tick cL_tick 16 (some .int)) rmL_tick G ρ σ [.ref (ρ a1), .ref (ρ a2), .ref (ρ a3), .ref (ρ a4), .ref (ρ a5), .ref (ρ a6), .ref (ρ a7), .ref (ρ a8), .ref (ρ a9), .ref (ρ a10), .ref (ρ a11), .ref (ρ a12)] (eI ρ Q) xNo := by
  refine xMet.of hl (by decide +kernel) (Nat.le_of_ble_eq_true rfl) (fun X hC hr hn htab h0 => ?_)
  have hC : xC G X "PlantServerLaw" cL_tick 16 rmL_tick := hC
  unfold wL_tick at h
  refine xJ.loc (L' := [(0, .ref (ρ a1)), (1, .ref (ρ a2)), (2, .ref (ρ a3)), (3, .ref (ρ a4)), (4, .ref (ρ a5)), (5, .ref (ρ a6)), (6, .ref (ρ a7)), (7, .ref (ρ a8)), (8, .ref (ρ a9)), (9, .ref (ρ a10)), (10, .ref (ρ a11)), (11, .ref (ρ a12))]) rfl ?_
  refine x_aload hC 11 rfl dL_tick_0 ?_
  refine x_iconst (v := 0) hC dL_tick_2 (by decide) ?_
  refine x_dup2 hC (by first | rfl | exact rv_cat) (by first | rfl | exact rv_cat) dL_tick_3 ?_
  obtain ⟨k1, h⟩ := h
  obtain ⟨v1, h⟩ := h
  refine x_iald (a := a12) hC k1 v1 dL_tick_4 ?_
  refine x_iconst (v := 1) hC dL_tick_5 (by decide) ?_
  refine x_iadd hC dL_tick_6 ?_
  refine x_iast (a := a12) hC k1 v1 dL_tick_7 ?_
  refine xJ.nmH (fun σ1 e1 => ?_)
  have h := h σ1 e1
  have r1 : hR σ1 = hR σ ∧ hL σ1 = hL σ := by rw [e1]; exact ⟨rfl, rfl⟩
  refine x_iconst (v := 0) hC dL_tick_8 (by decide) ?_
  refine x_istore (L' := [(12, .int 0), (0, .ref (ρ a1)), (1, .ref (ρ a2)), (2, .ref (ρ a3)), (3, .ref (ρ a4)), (4, .ref (ρ a5)), (5, .ref (ρ a6)), (6, .ref (ρ a7)), (7, .ref (ρ a8)), (8, .ref (ρ a9)), (9, .ref (ρ a10)), (10, .ref (ρ a11)), (11, .ref (ρ a12))]) hC dL_tick_9 (by decide) (by first | rfl | simp (decide := true) [rv_cat, cat_ref, cat_int]) ?_
  refine xJ.sub (L' := [(0, .ref (ρ a1)), (1, .ref (ρ a2)), (2, .ref (ρ a3)), (3, .ref (ρ a4)), (4, .ref (ρ a5)), (5, .ref (ρ a6)), (6, .ref (ρ a7)), (7, .ref (ρ a8)), (8, .ref (ρ a9)), (9, .ref (ρ a10)), (10, .ref (ρ a11)), (11, .ref (ρ a12)), (12, .int 0)]) [1, 2, 3, 4, 5, 6, 7, 8, 9, 10, 11, 12, 0] rfl ?_
  obtain ⟨f11, h⟩ := h
  refine mlL_tick_11 hC hr htab a1 a2 a3 a4 a5 a6 a7 a8 a9 a10 a11 a12 h0 (0) (0) (by decide) (by decide) _ Q _ f11 _ _ h (fun y1 τ1 h => ?_)
  refine x_aload hC 11 rfl dL_tick_78 ?_
  refine x_iconst (v := 1) hC dL_tick_80 (by decide) ?_
  obtain ⟨k6, h⟩ := h
  obtain ⟨v8, h⟩ := h
  refine x_iald (a := a12) hC k6 v8 dL_tick_81 ?_
  refine x_iconst (v := 2) hC dL_tick_82 (by decide) ?_
  refine xJ.jV (pcJ := 102) (stJ := []) h (fun x1 h => ?_) (fun K1 hk1 h => ?_)
  · refine x_istore (L' := [(12, .int x1), (0, .ref (ρ a1)), (1, .ref (ρ a2)), (2, .ref (ρ a3)), (3, .ref (ρ a4)), (4, .ref (ρ a5)), (5, .ref (ρ a6)), (6, .ref (ρ a7)), (7, .ref (ρ a8)), (8, .ref (ρ a9)), (9, .ref (ρ a10)), (10, .ref (ρ a11)), (11, .ref (ρ a12))]) hC dL_tick_102 (by decide) (by first | rfl | simp (decide := true) [rv_cat, cat_ref, cat_int]) ?_
    refine x_iconst (v := 0) hC dL_tick_104 (by decide) ?_
    refine x_istore (L' := [(13, .int 0), (12, .int x1), (0, .ref (ρ a1)), (1, .ref (ρ a2)), (2, .ref (ρ a3)), (3, .ref (ρ a4)), (4, .ref (ρ a5)), (5, .ref (ρ a6)), (6, .ref (ρ a7)), (7, .ref (ρ a8)), (8, .ref (ρ a9)), (9, .ref (ρ a10)), (10, .ref (ρ a11)), (11, .ref (ρ a12))]) hC dL_tick_105 (by decide) (by first | rfl | simp (decide := true) [rv_cat, cat_ref, cat_int]) ?_
    refine x_iconst (v := 0) hC dL_tick_107 (by decide) ?_
    refine x_istore (L' := [(14, .int 0), (13, .int 0), (12, .int x1), (0, .ref (ρ a1)), (1, .ref (ρ a2)), (2, .ref (ρ a3)), (3, .ref (ρ a4)), (4, .ref (ρ a5)), (5, .ref (ρ a6)), (6, .ref (ρ a7)), (7, .ref (ρ a8)), (8, .ref (ρ a9)), (9, .ref (ρ a10)), (10, .ref (ρ a11)), (11, .ref (ρ a12))]) hC dL_tick_108 (by decide) (by first | rfl | simp (decide := true) [rv_cat, cat_ref, cat_int]) ?_
    refine xJ.sub (L' := [(1, .ref (ρ a2)), (2, .ref (ρ a3)), (6, .ref (ρ a7)), (7, .ref (ρ a8)), (8, .ref (ρ a9)), (9, .ref (ρ a10)), (10, .ref (ρ a11)), (11, .ref (ρ a12)), (12, .int x1), (13, .int 0), (14, .int 0)]) [4, 5, 9, 10, 11, 12, 13, 14, 2, 1, 0] rfl ?_
    obtain ⟨f110, h⟩ := h
    refine mlL_tick_110 hC hr htab a2 a3 a7 a8 a9 a10 a11 a12 x1 h0 (0) (0) (by decide) (by decide) _ Q _ f110 _ _ _ h (fun y2 y3 τ2 h => ?_)
    refine x_iload hC 9 rfl dL_tick_195 ?_
    exact x_iret hC hr dL_tick_197 (by decide) (by decide) ⟨rfl, _, rfl, h⟩
  · refine x_icmp_ne (tgt := 101) hC dL_tick_83 (by decide) (fun c4 => ?_) (fun c4 => ?_)
    · have h := h.1 c4
      refine x_iconst (v := 0) hC dL_tick_101 (by decide) ?_
      exact hk1 _ h
    · have h := h.2 c4
      refine x_aload_n hC 1 rfl dL_tick_86 ?_
      refine x_bipush (v := 16) hC dL_tick_87 (by decide) ?_
      obtain ⟨k7, h⟩ := h
      obtain ⟨v9, h⟩ := h
      refine x_iald (a := a2) hC k7 v9 dL_tick_89 ?_
      refine x_aload_n hC 1 rfl dL_tick_90 ?_
      refine x_iconst (v := 5) hC dL_tick_91 (by decide) ?_
      obtain ⟨v10, h⟩ := h
      refine x_iald (a := a2) hC k7 v10 dL_tick_92 ?_
      refine x_icmp_le (tgt := 101) hC dL_tick_93 (by decide) (fun c5 => ?_) (fun c5 => ?_)
      · have h := h.1 c5
        refine x_iconst (v := 0) hC dL_tick_101 (by decide) ?_
        exact hk1 _ h
      · have h := h.2 c5
        refine x_bipush (v := 11) hC dL_tick_96 (by decide) ?_
        refine x_goto (tgt := 102) hC dL_tick_98 (by decide) ?_
        exact hk1 _ h
