set_option maxHeartbeats 4000000 in
set_option maxRecDepth 20000 in
theorem mlL_law_102 {G : xG} {X : xX} (hC : xC G X "PlantServerLaw" cL_law 20 rmL_law) (hr : xRt X (some .boolean)) {Qz : State → Prop} (n1 : Nm) (n2 : Nm) (n3 : Nm) (n4 : Nm) (n5 : Nm) (n6 : Nm) (n7 : Nm) (n8 : Nm) (n9 : Nm) (n10 : Nm) (n11 : Nm) (n12 : Nm) (n13 : Nm) (kE nE : Nat) (hkE : kE + 0 ≤ 773686) (hnE : nE + 0 ≤ 6780712) (K : Int32 → PH → Prop) (Q : Int32 → PH → Prop) (Xp : String → PH → Prop) : ∀ (f102 : Nat) (ρ : Nm → Nat) (k n : Nat), k + f102 * 5073 ≤ kE + 5073 → n + f102 * 41658 ≤ nE + 41658 → ∀ (x102_14 : Int32) (τ102 : PH), lL_law_102 (gL G) (gx G) n1 n2 n3 n4 n5 n6 n7 n8 n9 n10 n11 n12 n13 K Q f102 x102_14 τ102 → (∀ (x102_14 : Int32) (ρ : Nm → Nat) (τ102 : PH), K x102_14 τ102 → xJ G X Qz 20 ρ τ102 kE nE 284 [(0, .ref (gb G)), (1, .ref (ρ n1)), (2, .ref (ρ n2)), (3, .ref (ρ n3)), (4, .ref (ρ n4)), (5, .ref (ρ n5)), (6, .ref (ρ n6)), (7, .ref (ρ n7)), (8, .ref (ρ n8)), (9, .ref (ρ n9)), (10, .ref (ρ n10)), (11, .ref (ρ n11)), (12, .ref (ρ n12)), (13, .ref (ρ n13)), (14, .int x102_14)] []) → xJ G X Qz 20 ρ τ102 k n 102 [(0, .ref (gb G)), (1, .ref (ρ n1)), (2, .ref (ρ n2)), (3, .ref (ρ n3)), (4, .ref (ρ n4)), (5, .ref (ρ n5)), (6, .ref (ρ n6)), (7, .ref (ρ n7)), (8, .ref (ρ n8)), (9, .ref (ρ n9)), (10, .ref (ρ n10)), (11, .ref (ρ n11)), (12, .ref (ρ n12)), (13, .ref (ρ n13)), (14, .int x102_14)] [] := by
  intro f102
  induction f102 with
  | zero => intro ρ k n hk1 hk2 x102_14 τ102 h hKK; unfold lL_law_102 at h; exact h.elim
  | succ f102 ih =>
    intro ρ k n hk1 hk2 x102_14 τ102 h hKK
    unfold lL_law_102 at h
    refine x_iload hC 14 rfl dL_law_102 ?_
    refine x_sipush (v := 140) hC dL_law_104 (by decide) ?_
    refine x_icmp_ge (tgt := 284) hC dL_law_107 (by decide) (fun c2 => ?_) (fun c2 => ?_)
    · have h := h.1 c2
      refine xJ.wid (k' := kE) (n' := nE) (by omega) (by omega) ?_
      exact hKK _ _ _ h
    · have h := h.2 c2
      refine x_aload_n hC 0 rfl dL_law_110 ?_
      refine x_iconst (v := 3) hC dL_law_111 (by decide) ?_
      refine x_iload hC 14 rfl dL_law_112 ?_
      refine x_imul hC dL_law_114 ?_
      refine x_callS (as := [.ref (gb G), .int (3 * x102_14)]) (rest := []) hC (fun l hl => mL_cell l hl G ρ (3 * x102_14) τ102 _ h) q77 q78 q0 q79 hdL_cell (by decide) ⟨(show _ + 0 ≤ 773686 by omega), (show _ + 0 ≤ 6780712 by omega)⟩ (by first | exact Nat.le_of_ble_eq_true rfl | (simp [rv_cat]; done) | (simp (decide := true) [rv_cat, cat_ref, cat_int]; done)) rfl dL_law_115 (fun E σ9 hx => False.elim hx) (fun v3 σ16 ρ16 hp3 hag3 => ?_)
      obtain ⟨e9, r2, e8, h⟩ := hp3
      rw [e8, e9]
      refine xJ.nrm (k' := k + 0) (n' := n + 0) (pc' := 118) (st' := [.int r2]) rfl rfl rfl rfl ?_
      refine x_istore (L' := [(15, .int r2), (0, .ref (gb G)), (1, .ref (ρ n1)), (2, .ref (ρ n2)), (3, .ref (ρ n3)), (4, .ref (ρ n4)), (5, .ref (ρ n5)), (6, .ref (ρ n6)), (7, .ref (ρ n7)), (8, .ref (ρ n8)), (9, .ref (ρ n9)), (10, .ref (ρ n10)), (11, .ref (ρ n11)), (12, .ref (ρ n12)), (13, .ref (ρ n13)), (14, .int x102_14)]) hC dL_law_118 (by decide) (by first | rfl | simp (decide := true) [rv_cat, cat_ref, cat_int]) ?_
      refine x_aload_n hC 1 rfl dL_law_120 ?_
      refine x_iconst (v := 3) hC dL_law_121 (by decide) ?_
      refine x_iload hC 15 rfl dL_law_122 ?_
      refine x_imul hC dL_law_124 ?_
      refine x_iconst (v := 1) hC dL_law_125 (by decide) ?_
      refine x_iadd hC dL_law_126 ?_
      refine x_callS (as := [.ref (gb G), .int ((3 * x102_14) + 1)]) (rest := []) hC (fun l hl => mL_cell l hl G ρ ((3 * x102_14) + 1) σ16 _ h) q77 q78 q0 q79 hdL_cell (by decide) ⟨(show _ + 0 ≤ 773686 by omega), (show _ + 0 ≤ 6780712 by omega)⟩ (by first | exact Nat.le_of_ble_eq_true rfl | (simp [rv_cat]; done) | (simp (decide := true) [rv_cat, cat_ref, cat_int]; done)) rfl dL_law_127 (fun E σ9 hx => False.elim hx) (fun v4 σ17 ρ17 hp4 hag4 => ?_)
      obtain ⟨e9, r3, e8, h⟩ := hp4
      rw [e8, e9]
      refine xJ.nrm (k' := k + 0) (n' := n + 0) (pc' := 130) (st' := [.int r3]) rfl rfl rfl rfl ?_
      refine x_istore (L' := [(16, .int r3), (15, .int r2), (0, .ref (gb G)), (1, .ref (ρ n1)), (2, .ref (ρ n2)), (3, .ref (ρ n3)), (4, .ref (ρ n4)), (5, .ref (ρ n5)), (6, .ref (ρ n6)), (7, .ref (ρ n7)), (8, .ref (ρ n8)), (9, .ref (ρ n9)), (10, .ref (ρ n10)), (11, .ref (ρ n11)), (12, .ref (ρ n12)), (13, .ref (ρ n13)), (14, .int x102_14)]) hC dL_law_130 (by decide) (by first | rfl | simp (decide := true) [rv_cat, cat_ref, cat_int]) ?_
      refine x_aload_n hC 2 rfl dL_law_132 ?_
      refine x_iconst (v := 3) hC dL_law_133 (by decide) ?_
      refine x_iload hC 16 rfl dL_law_134 ?_
      refine x_imul hC dL_law_136 ?_
      refine x_iconst (v := 2) hC dL_law_137 (by decide) ?_
      refine x_iadd hC dL_law_138 ?_
      refine x_callS (as := [.ref (gb G), .int ((3 * x102_14) + 2)]) (rest := []) hC (fun l hl => mL_cell l hl G ρ ((3 * x102_14) + 2) σ17 _ h) q77 q78 q0 q79 hdL_cell (by decide) ⟨(show _ + 0 ≤ 773686 by omega), (show _ + 0 ≤ 6780712 by omega)⟩ (by first | exact Nat.le_of_ble_eq_true rfl | (simp [rv_cat]; done) | (simp (decide := true) [rv_cat, cat_ref, cat_int]; done)) rfl dL_law_139 (fun E σ9 hx => False.elim hx) (fun v5 σ18 ρ18 hp5 hag5 => ?_)
      obtain ⟨e9, r4, e8, h⟩ := hp5
      rw [e8, e9]
      refine xJ.nrm (k' := k + 0) (n' := n + 0) (pc' := 142) (st' := [.int r4]) rfl rfl rfl rfl ?_
      refine x_istore (L' := [(17, .int r4), (16, .int r3), (15, .int r2), (0, .ref (gb G)), (1, .ref (ρ n1)), (2, .ref (ρ n2)), (3, .ref (ρ n3)), (4, .ref (ρ n4)), (5, .ref (ρ n5)), (6, .ref (ρ n6)), (7, .ref (ρ n7)), (8, .ref (ρ n8)), (9, .ref (ρ n9)), (10, .ref (ρ n10)), (11, .ref (ρ n11)), (12, .ref (ρ n12)), (13, .ref (ρ n13)), (14, .int x102_14)]) hC dL_law_142 (by decide) (by first | rfl | simp (decide := true) [rv_cat, cat_ref, cat_int]) ?_
      refine x_iload hC 17 rfl dL_law_144 ?_
      refine x_iconst (v := 2) hC dL_law_146 (by decide) ?_
      refine xJ.jW (pcJ := 172) (stJ := []) h (fun x1 σ20 h => ?_) (fun K1 hk1 h => ?_)
      · refine x_istore (L' := [(18, .int x1), (17, .int r4), (16, .int r3), (15, .int r2), (0, .ref (gb G)), (1, .ref (ρ n1)), (2, .ref (ρ n2)), (3, .ref (ρ n3)), (4, .ref (ρ n4)), (5, .ref (ρ n5)), (6, .ref (ρ n6)), (7, .ref (ρ n7)), (8, .ref (ρ n8)), (9, .ref (ρ n9)), (10, .ref (ρ n10)), (11, .ref (ρ n11)), (12, .ref (ρ n12)), (13, .ref (ρ n13)), (14, .int x102_14)]) hC dL_law_172 (by decide) (by first | rfl | simp (decide := true) [rv_cat, cat_ref, cat_int]) ?_
        refine x_iload hC 0 rfl dL_law_174 ?_
        refine x_bipush (v := 10) hC dL_law_176 (by decide) ?_
        refine x_icmp_ge (tgt := 212) hC dL_law_178 (by decide) (fun c5 => ?_) (fun c5 => ?_)
        · have h := h.1 c5
          refine x_aload_n hC 5 rfl dL_law_212 ?_
          refine x_iload hC 0 rfl dL_law_213 ?_
          refine x_bipush (v := 10) hC dL_law_215 (by decide) ?_
          refine x_isub hC dL_law_217 ?_
          refine x_iload hC 2 rfl dL_law_218 ?_
          refine x_iload hC 1 rfl dL_law_220 ?_
          refine x_aload_n hC 6 rfl dL_law_222 ?_
          refine x_aload_n hC 7 rfl dL_law_223 ?_
          refine x_aload hC 8 rfl dL_law_224 ?_
          refine x_aload hC 9 rfl dL_law_226 ?_
          refine x_aload hC 10 rfl dL_law_228 ?_
          refine x_aload hC 11 rfl dL_law_230 ?_
          refine x_aload hC 12 rfl dL_law_232 ?_
          refine x_aload hC 13 rfl dL_law_234 ?_
          refine x_aload hC 14 rfl dL_law_236 ?_
          refine x_aload hC 15 rfl dL_law_238 ?_
          refine x_aload hC 16 rfl dL_law_240 ?_
          refine x_aload hC 17 rfl dL_law_242 ?_
          obtain ⟨z1, h⟩ := h
          obtain ⟨z2, h⟩ := h
          obtain ⟨z3, h⟩ := h
          obtain ⟨z4, h⟩ := h
          obtain ⟨z5, h⟩ := h
          obtain ⟨z6, h⟩ := h
          obtain ⟨z7, h⟩ := h
          obtain ⟨z8, h⟩ := h
          obtain ⟨z9, h⟩ := h
          obtain ⟨z10, h⟩ := h
          obtain ⟨z11, h⟩ := h
          obtain ⟨z12, h⟩ := h
          obtain ⟨z13, h⟩ := h
          refine xJ.sub (L' := [(16, .int r3), (0, .ref (gb G)), (1, .ref (ρ n1)), (2, .ref (ρ n2)), (3, .ref (ρ n3)), (4, .ref (ρ n4)), (5, .ref (ρ n5)), (6, .ref (ρ n6)), (7, .ref (ρ n7)), (8, .ref (ρ n8)), (9, .ref (ρ n9)), (10, .ref (ρ n10)), (11, .ref (ρ n11)), (12, .ref (ρ n12)), (13, .ref (ρ n13)), (14, .int x102_14)]) [2, 4, 5, 6, 7, 8, 9, 10, 11, 12, 13, 14, 15, 16, 17, 18] rfl ?_
          obtain ⟨hz102, h⟩ := h
          refine x_callS (as := [.ref (ρ n1), .int (x1 - 10), .int r3, .int r4, .ref (ρ n2), .ref (ρ n3), .ref (ρ n4), .ref (ρ n5), .ref (ρ n6), .ref (ρ n7), .ref (ρ n8), .ref (ρ n9), .ref (ρ n10), .ref (ρ n11), .ref (ρ n12), .ref (ρ n13)]) (rest := []) hC (fun l hl => mL_goes l hl G ρ n1 (x1 - 10) r3 r4 n2 n3 n4 n5 n6 n7 n8 n9 n10 n11 n12 n13 σ20 _ h) q458 q459 q0 q460 hdL_goes (by decide) ⟨(show _ + 4084 ≤ 773686 by omega), (show _ + 35724 ≤ 6780712 by omega)⟩ (by first | exact Nat.le_of_ble_eq_true rfl | (simp [rv_cat]; done) | (simp (decide := true) [rv_cat, cat_ref, cat_int]; done)) rfl dL_law_244 (fun E σ9 hx => False.elim hx) (fun v7 σ21 ρ20 hp7 hag7 => ?_)
          obtain ⟨r6, e8, h⟩ := hp7
          rw [e8]
          rw [← (hag7 n1 z1).2, ← (hag7 n2 z2).2, ← (hag7 n3 z3).2, ← (hag7 n4 z4).2, ← (hag7 n5 z5).2, ← (hag7 n6 z6).2, ← (hag7 n7 z7).2, ← (hag7 n8 z8).2, ← (hag7 n9 z9).2, ← (hag7 n10 z10).2, ← (hag7 n11 z11).2, ← (hag7 n12 z12).2, ← (hag7 n13 z13).2]
          refine xJ.nrm (k' := k + 4084) (n' := n + 35724) (pc' := 247) (st' := [.int r6]) rfl rfl rfl rfl ?_
          refine x_istore (L' := [(19, .int r6), (16, .int r3), (0, .ref (gb G)), (1, .ref (ρ20 n1)), (2, .ref (ρ20 n2)), (3, .ref (ρ20 n3)), (4, .ref (ρ20 n4)), (5, .ref (ρ20 n5)), (6, .ref (ρ20 n6)), (7, .ref (ρ20 n7)), (8, .ref (ρ20 n8)), (9, .ref (ρ20 n9)), (10, .ref (ρ20 n10)), (11, .ref (ρ20 n11)), (12, .ref (ρ20 n12)), (13, .ref (ρ20 n13)), (14, .int x102_14)]) hC dL_law_247 (by decide) (by first | rfl | simp (decide := true) [rv_cat, cat_ref, cat_int]) ?_
          refine x_iload hC 0 rfl dL_law_249 ?_
          refine x_if_eq (tgt := 276) hC dL_law_251 (by decide) (fun c6 => ?_) (fun c6 => ?_)
          · have h := h.1 c6
            refine x_iconst (v := 0) hC dL_law_276 (by decide) ?_
            exact h.elim
          · have h := h.2 c6
            refine x_aload_n hC 3 rfl dL_law_254 ?_
            refine x_iload hC 1 rfl dL_law_255 ?_
            refine x_aload_n hC 5 rfl dL_law_257 ?_
            refine x_aload hC 6 rfl dL_law_258 ?_
            refine x_aload hC 9 rfl dL_law_260 ?_
            refine x_aload hC 10 rfl dL_law_262 ?_
            refine x_aload hC 13 rfl dL_law_264 ?_
            refine x_aload hC 14 rfl dL_law_266 ?_
            refine x_aload hC 15 rfl dL_law_268 ?_
            refine x_callS (as := [.ref (ρ20 n1), .int r3, .ref (ρ20 n3), .ref (ρ20 n4), .ref (ρ20 n7), .ref (ρ20 n8), .ref (ρ20 n11), .ref (ρ20 n12), .ref (ρ20 n13)]) (rest := []) hC (fun l hl => mL_isTold l hl G ρ20 n1 r3 n3 n4 n7 n8 n11 n12 n13 σ21 _ xNo h) q608 q609 q0 q610 hdL_isTold (by decide) ⟨(show _ + 989 ≤ 773686 by omega), (show _ + 5934 ≤ 6780712 by omega)⟩ (by first | exact Nat.le_of_ble_eq_true rfl | (simp [rv_cat]; done) | (simp (decide := true) [rv_cat, cat_ref, cat_int]; done)) rfl dL_law_270 (fun E σ9 hx => False.elim hx) (fun v8 σ22 ρ21 hp8 hag8 => ?_)
            obtain ⟨e9, r7, e8, h⟩ := hp8
            rw [e8, e9]
            refine xJ.nrm (k' := k + 5073) (n' := n + 41658) (pc' := 273) (st' := [.int r7]) rfl rfl rfl rfl ?_
            refine x_if_ne (tgt := 278) hC dL_law_273 (by decide) (fun c7 => ?_) (fun c7 => ?_)
            · have h := h.1 c7
              refine x_iinc (v' := x102_14 + 1) (L' := [(14, .int (x102_14 + 1)), (19, .int r6), (16, .int r3), (0, .ref (gb G)), (1, .ref (ρ20 n1)), (2, .ref (ρ20 n2)), (3, .ref (ρ20 n3)), (4, .ref (ρ20 n4)), (5, .ref (ρ20 n5)), (6, .ref (ρ20 n6)), (7, .ref (ρ20 n7)), (8, .ref (ρ20 n8)), (9, .ref (ρ20 n9)), (10, .ref (ρ20 n10)), (11, .ref (ρ20 n11)), (12, .ref (ρ20 n12)), (13, .ref (ρ20 n13))]) hC 16 rfl dL_law_278 rfl (by decide) (by first | rfl | simp (decide := true) [rv_cat, cat_ref, cat_int]) ?_
              refine x_goto (tgt := 102) hC dL_law_281 (by decide) ?_
              refine xJ.sub (L' := [(0, .ref (gb G)), (1, .ref (ρ20 n1)), (2, .ref (ρ20 n2)), (3, .ref (ρ20 n3)), (4, .ref (ρ20 n4)), (5, .ref (ρ20 n5)), (6, .ref (ρ20 n6)), (7, .ref (ρ20 n7)), (8, .ref (ρ20 n8)), (9, .ref (ρ20 n9)), (10, .ref (ρ20 n10)), (11, .ref (ρ20 n11)), (12, .ref (ρ20 n12)), (13, .ref (ρ20 n13)), (14, .int (x102_14 + 1))]) [3, 4, 5, 6, 7, 8, 9, 10, 11, 12, 13, 14, 15, 16, 0] rfl ?_
              exact ih _ _ _ (show _ + f102 * 5073 ≤ kE + 5073 by omega) (show _ + f102 * 41658 ≤ nE + 41658 by omega) _ _ h hKK
            · have h := h.2 c7
              refine x_iconst (v := 0) hC dL_law_276 (by decide) ?_
              exact h.elim
        · have h := h.2 c5
          refine x_aload_n hC 5 rfl dL_law_181 ?_
          refine x_iload hC 0 rfl dL_law_182 ?_
          refine x_iload hC 2 rfl dL_law_184 ?_
          refine x_iload hC 1 rfl dL_law_186 ?_
          refine x_aload_n hC 6 rfl dL_law_188 ?_
          refine x_aload_n hC 7 rfl dL_law_189 ?_
          refine x_aload hC 8 rfl dL_law_190 ?_
          refine x_aload hC 9 rfl dL_law_192 ?_
          refine x_aload hC 10 rfl dL_law_194 ?_
          refine x_aload hC 11 rfl dL_law_196 ?_
          refine x_aload hC 12 rfl dL_law_198 ?_
          refine x_aload hC 13 rfl dL_law_200 ?_
          refine x_aload hC 14 rfl dL_law_202 ?_
          refine x_aload hC 17 rfl dL_law_204 ?_
          obtain ⟨z14, h⟩ := h
          obtain ⟨z15, h⟩ := h
          obtain ⟨z16, h⟩ := h
          obtain ⟨z17, h⟩ := h
          obtain ⟨z18, h⟩ := h
          obtain ⟨z19, h⟩ := h
          obtain ⟨z20, h⟩ := h
          obtain ⟨z21, h⟩ := h
          obtain ⟨z22, h⟩ := h
          obtain ⟨z23, h⟩ := h
          obtain ⟨z24, h⟩ := h
          obtain ⟨z25, h⟩ := h
          obtain ⟨z26, h⟩ := h
          refine xJ.sub (L' := [(16, .int r3), (0, .ref (gb G)), (1, .ref (ρ n1)), (2, .ref (ρ n2)), (3, .ref (ρ n3)), (4, .ref (ρ n4)), (5, .ref (ρ n5)), (6, .ref (ρ n6)), (7, .ref (ρ n7)), (8, .ref (ρ n8)), (9, .ref (ρ n9)), (10, .ref (ρ n10)), (11, .ref (ρ n11)), (12, .ref (ρ n12)), (13, .ref (ρ n13)), (14, .int x102_14)]) [2, 4, 5, 6, 7, 8, 9, 10, 11, 12, 13, 14, 15, 16, 17, 18] rfl ?_
          obtain ⟨hz102, h⟩ := h
          refine x_callS (as := [.ref (ρ n1), .int x1, .int r3, .int r4, .ref (ρ n2), .ref (ρ n3), .ref (ρ n4), .ref (ρ n5), .ref (ρ n6), .ref (ρ n7), .ref (ρ n8), .ref (ρ n9), .ref (ρ n10), .ref (ρ n13)]) (rest := []) hC (fun l hl => mL_opens l hl G ρ n1 x1 r3 r4 n2 n3 n4 n5 n6 n7 n8 n9 n10 n13 σ20 _ h) q84 q85 q0 q86 hdL_opens (by decide) ⟨(show _ + 81 ≤ 773686 by omega), (show _ + 603 ≤ 6780712 by omega)⟩ (by first | exact Nat.le_of_ble_eq_true rfl | (simp [rv_cat]; done) | (simp (decide := true) [rv_cat, cat_ref, cat_int]; done)) rfl dL_law_206 (fun E σ9 hx => False.elim hx) (fun v9 σ23 ρ22 hp9 hag9 => ?_)
          obtain ⟨r8, e8, h⟩ := hp9
          rw [e8]
          rw [← (hag9 n1 z14).2, ← (hag9 n2 z15).2, ← (hag9 n3 z16).2, ← (hag9 n4 z17).2, ← (hag9 n5 z18).2, ← (hag9 n6 z19).2, ← (hag9 n7 z20).2, ← (hag9 n8 z21).2, ← (hag9 n9 z22).2, ← (hag9 n10 z23).2, ← (hag9 n11 z24).2, ← (hag9 n12 z25).2, ← (hag9 n13 z26).2]
          refine xJ.nrm (k' := k + 81) (n' := n + 603) (pc' := 209) (st' := [.int r8]) rfl rfl rfl rfl ?_
          refine x_goto (tgt := 247) hC dL_law_209 (by decide) ?_
          refine x_istore (L' := [(19, .int r8), (16, .int r3), (0, .ref (gb G)), (1, .ref (ρ22 n1)), (2, .ref (ρ22 n2)), (3, .ref (ρ22 n3)), (4, .ref (ρ22 n4)), (5, .ref (ρ22 n5)), (6, .ref (ρ22 n6)), (7, .ref (ρ22 n7)), (8, .ref (ρ22 n8)), (9, .ref (ρ22 n9)), (10, .ref (ρ22 n10)), (11, .ref (ρ22 n11)), (12, .ref (ρ22 n12)), (13, .ref (ρ22 n13)), (14, .int x102_14)]) hC dL_law_247 (by decide) (by first | rfl | simp (decide := true) [rv_cat, cat_ref, cat_int]) ?_
          refine x_iload hC 0 rfl dL_law_249 ?_
          refine x_if_eq (tgt := 276) hC dL_law_251 (by decide) (fun c8 => ?_) (fun c8 => ?_)
          · have h := h.1 c8
            refine x_iconst (v := 0) hC dL_law_276 (by decide) ?_
            exact h.elim
          · have h := h.2 c8
            refine x_aload_n hC 3 rfl dL_law_254 ?_
            refine x_iload hC 1 rfl dL_law_255 ?_
            refine x_aload_n hC 5 rfl dL_law_257 ?_
            refine x_aload hC 6 rfl dL_law_258 ?_
            refine x_aload hC 9 rfl dL_law_260 ?_
            refine x_aload hC 10 rfl dL_law_262 ?_
            refine x_aload hC 13 rfl dL_law_264 ?_
            refine x_aload hC 14 rfl dL_law_266 ?_
            refine x_aload hC 15 rfl dL_law_268 ?_
            refine x_callS (as := [.ref (ρ22 n1), .int r3, .ref (ρ22 n3), .ref (ρ22 n4), .ref (ρ22 n7), .ref (ρ22 n8), .ref (ρ22 n11), .ref (ρ22 n12), .ref (ρ22 n13)]) (rest := []) hC (fun l hl => mL_isTold l hl G ρ22 n1 r3 n3 n4 n7 n8 n11 n12 n13 σ23 _ xNo h) q608 q609 q0 q610 hdL_isTold (by decide) ⟨(show _ + 989 ≤ 773686 by omega), (show _ + 5934 ≤ 6780712 by omega)⟩ (by first | exact Nat.le_of_ble_eq_true rfl | (simp [rv_cat]; done) | (simp (decide := true) [rv_cat, cat_ref, cat_int]; done)) rfl dL_law_270 (fun E σ9 hx => False.elim hx) (fun v10 σ24 ρ23 hp10 hag10 => ?_)
            obtain ⟨e9, r9, e8, h⟩ := hp10
            rw [e8, e9]
            refine xJ.nrm (k' := k + 1070) (n' := n + 6537) (pc' := 273) (st' := [.int r9]) rfl rfl rfl rfl ?_
            refine x_if_ne (tgt := 278) hC dL_law_273 (by decide) (fun c9 => ?_) (fun c9 => ?_)
            · have h := h.1 c9
              refine x_iinc (v' := x102_14 + 1) (L' := [(14, .int (x102_14 + 1)), (19, .int r8), (16, .int r3), (0, .ref (gb G)), (1, .ref (ρ22 n1)), (2, .ref (ρ22 n2)), (3, .ref (ρ22 n3)), (4, .ref (ρ22 n4)), (5, .ref (ρ22 n5)), (6, .ref (ρ22 n6)), (7, .ref (ρ22 n7)), (8, .ref (ρ22 n8)), (9, .ref (ρ22 n9)), (10, .ref (ρ22 n10)), (11, .ref (ρ22 n11)), (12, .ref (ρ22 n12)), (13, .ref (ρ22 n13))]) hC 16 rfl dL_law_278 rfl (by decide) (by first | rfl | simp (decide := true) [rv_cat, cat_ref, cat_int]) ?_
              refine x_goto (tgt := 102) hC dL_law_281 (by decide) ?_
              refine xJ.sub (L' := [(0, .ref (gb G)), (1, .ref (ρ22 n1)), (2, .ref (ρ22 n2)), (3, .ref (ρ22 n3)), (4, .ref (ρ22 n4)), (5, .ref (ρ22 n5)), (6, .ref (ρ22 n6)), (7, .ref (ρ22 n7)), (8, .ref (ρ22 n8)), (9, .ref (ρ22 n9)), (10, .ref (ρ22 n10)), (11, .ref (ρ22 n11)), (12, .ref (ρ22 n12)), (13, .ref (ρ22 n13)), (14, .int (x102_14 + 1))]) [3, 4, 5, 6, 7, 8, 9, 10, 11, 12, 13, 14, 15, 16, 0] rfl ?_
              exact ih _ _ _ (show _ + f102 * 5073 ≤ kE + 5073 by omega) (show _ + f102 * 41658 ≤ nE + 41658 by omega) _ _ h hKK
            · have h := h.2 c9
              refine x_iconst (v := 0) hC dL_law_276 (by decide) ?_
              exact h.elim
      · refine x_icmp_ge (tgt := 154) hC dL_law_147 (by decide) (fun c3 => ?_) (fun c3 => ?_)
        · have h := h.1 c3
          refine x_iload hC 17 rfl dL_law_154 ?_
          refine x_bipush (v := 6) hC dL_law_156 (by decide) ?_
          refine x_icmp_ge (tgt := 165) hC dL_law_158 (by decide) (fun c4 => ?_) (fun c4 => ?_)
          · have h := h.1 c4
            refine x_iload hC 2 rfl dL_law_165 ?_
            refine x_bipush (v := 30) hC dL_law_167 (by decide) ?_
            refine x_callS (as := [.int r2, .int 30]) (rest := []) hC (fun l hl => mL_low l hl G ρ r2 30 σ18 _ h) q81 q82 q0 q83 hdL_low (by decide) ⟨(show _ + 0 ≤ 773686 by omega), (show _ + 0 ≤ 6780712 by omega)⟩ (by first | exact Nat.le_of_ble_eq_true rfl | (simp [rv_cat]; done) | (simp (decide := true) [rv_cat, cat_ref, cat_int]; done)) rfl dL_law_169 (fun E σ9 hx => False.elim hx) (fun v6 σ19 ρ19 hp6 hag6 => ?_)
            obtain ⟨e9, r5, e8, h⟩ := hp6
            rw [e8, e9]
            refine xJ.nrm (k' := k + 0) (n' := n + 0) (pc' := 172) (st' := [.int r5]) rfl rfl rfl rfl ?_
            exact hk1 _ _ h
          · have h := h.2 c4
            refine x_iconst (v := 2) hC dL_law_161 (by decide) ?_
            refine x_goto (tgt := 172) hC dL_law_162 (by decide) ?_
            exact hk1 _ _ h
        · have h := h.2 c3
          refine x_iconst (v := 0) hC dL_law_150 (by decide) ?_
          refine x_goto (tgt := 172) hC dL_law_151 (by decide) ?_
          exact hk1 _ _ h
set_option maxHeartbeats 4000000 in
set_option maxRecDepth 20000 in
theorem mL_law {G : xG} {X : xX} (hC : xC G X "PlantServerLaw" cL_law 20 rmL_law) (hr : xRt X (some .boolean)) {Qz : State → Prop} {ρ : Nm → Nat} {σ : PH} (hZ : ∀ (ρ : Nm → Nat) (σ : PH) (k n : Nat) (L : List (Nat × Value)), k ≤ 773686 → n ≤ 6780712 → xJ G X Qz 20 ρ σ k n 285 L [.int 1]) (Q : Int32 → PH → Prop) (h : wL_law (gL G) (gx G) σ Q) : xJ G X Qz 20 ρ σ 0 0 0 [(0, .ref (gb G))] [] := by
  unfold wL_law at h
  obtain ⟨n1, hz1, h⟩ := h
  refine x_new (ci := 6) (T := TX6) (N := 9) (C := RX6) hC n1 hz1 rfl xdf6 q16 q17 q1 (by decide) (by decide) dL_law_0 (fun ρ1 hρ1 => ?_)
  refine xJ.nmH (fun σ1 e1 => ?_)
  have h := h σ1 e1
  have k1 : hK σ1 n1 = 7 := by rw [e1]; exact sN_c
  refine x_dup hC (by first | rfl | exact rv_cat) dL_law_3 ?_
  refine x_callI (as := []) (rest := [.ref (ρ1 n1)]) hC (fun l hl => m6_init l hl G ρ1 n1 σ1 _ h) q18 q19 q1 q20 rfl hd6_init (by decide) ⟨(by decide), (by decide)⟩ (by first | exact Nat.le_of_ble_eq_true rfl | (simp [rv_cat]; done) | (simp (decide := true) [rv_cat, cat_ref, cat_int]; done)) rfl dL_law_4 (fun E σ9 hx => False.elim hx) (fun v1 σ2 ρ2 hp1 hag1 => ?_)
  obtain ⟨e8, h⟩ := hp1
  rw [e8]
  rw [← (hag1 n1 (by rw [k1]; decide)).2]
  refine xJ.nrm (k' := 9) (n' := 1583) (pc' := 7) (st' := [.ref (ρ2 n1)]) rfl rfl rfl rfl ?_
  refine x_astore_n (L' := [(1, .ref (ρ2 n1)), (0, .ref (gb G))]) hC dL_law_7 (by decide) (by first | rfl | simp (decide := true) [rv_cat, cat_ref, cat_int]) ?_
  refine x_iconst (v := 3) hC dL_law_8 (by decide) ?_
  obtain ⟨n2, hz2, h⟩ := h
  have k2 : hK σ2 n1 = 7 := (hag1 n1 (by rw [k1]; decide)).1.trans k1
  refine x_newa (kd := 9) (N := 3) (by decide) hC n2 hz2 .int rfl (by decide) (by decide) q48 (by decide) (by decide) dL_law_9 (fun ρ3 hρ2 => ?_)
  rw [← hρ2 n1 (by rw [k2]; decide)]
  refine xJ.nmH (fun σ3 e2 => ?_)
  have h := h σ3 e2
  have k3 : hK σ3 n2 = 9 := by rw [e2]; exact sN_c
  refine x_astore_n (L' := [(2, .ref (ρ3 n2)), (1, .ref (ρ3 n1)), (0, .ref (gb G))]) hC dL_law_11 (by decide) (by first | rfl | simp (decide := true) [rv_cat, cat_ref, cat_int]) ?_
  refine x_bipush (v := 22) hC dL_law_12 (by decide) ?_
  obtain ⟨n3, hz3, h⟩ := h
  have k4 : hK σ3 n1 = 7 := by rw [e2]; exact sN_k hz2 k2 (by decide)
  refine x_newa (kd := 9) (N := 22) (by decide) hC n3 hz3 .int rfl (by decide) (by decide) q48 (by decide) (by decide) dL_law_14 (fun ρ4 hρ3 => ?_)
  rw [← hρ3 n2 (by rw [k3]; decide), ← hρ3 n1 (by rw [k4]; decide)]
  refine xJ.nmH (fun σ4 e3 => ?_)
  have h := h σ4 e3
  have k5 : hK σ4 n3 = 9 := by rw [e3]; exact sN_c
  refine x_astore_n (L' := [(3, .ref (ρ4 n3)), (2, .ref (ρ4 n2)), (1, .ref (ρ4 n1)), (0, .ref (gb G))]) hC dL_law_16 (by decide) (by first | rfl | simp (decide := true) [rv_cat, cat_ref, cat_int]) ?_
  refine x_bipush (v := 10) hC dL_law_17 (by decide) ?_
  obtain ⟨n4, hz4, h⟩ := h
  have k6 : hK σ4 n2 = 9 := by rw [e3]; exact sN_k hz3 k3 (by decide)
  have k7 : hK σ4 n1 = 7 := by rw [e3]; exact sN_k hz3 k4 (by decide)
  refine x_newa (kd := 9) (N := 10) (by decide) hC n4 hz4 .int rfl (by decide) (by decide) q48 (by decide) (by decide) dL_law_19 (fun ρ5 hρ4 => ?_)
  rw [← hρ4 n3 (by rw [k5]; decide), ← hρ4 n2 (by rw [k6]; decide), ← hρ4 n1 (by rw [k7]; decide)]
  refine xJ.nmH (fun σ5 e4 => ?_)
  have h := h σ5 e4
  have k8 : hK σ5 n4 = 9 := by rw [e4]; exact sN_c
  refine x_astore (L' := [(4, .ref (ρ5 n4)), (3, .ref (ρ5 n3)), (2, .ref (ρ5 n2)), (1, .ref (ρ5 n1)), (0, .ref (gb G))]) hC dL_law_21 (by decide) (by first | rfl | simp (decide := true) [rv_cat, cat_ref, cat_int]) ?_
  refine x_bipush (v := 10) hC dL_law_23 (by decide) ?_
  obtain ⟨n5, hz5, h⟩ := h
  have k9 : hK σ5 n3 = 9 := by rw [e4]; exact sN_k hz4 k5 (by decide)
  have k10 : hK σ5 n2 = 9 := by rw [e4]; exact sN_k hz4 k6 (by decide)
  have k11 : hK σ5 n1 = 7 := by rw [e4]; exact sN_k hz4 k7 (by decide)
  refine x_newa (kd := 9) (N := 10) (by decide) hC n5 hz5 .int rfl (by decide) (by decide) q48 (by decide) (by decide) dL_law_25 (fun ρ6 hρ5 => ?_)
  rw [← hρ5 n4 (by rw [k8]; decide), ← hρ5 n3 (by rw [k9]; decide), ← hρ5 n2 (by rw [k10]; decide), ← hρ5 n1 (by rw [k11]; decide)]
  refine xJ.nmH (fun σ6 e5 => ?_)
  have h := h σ6 e5
  have k12 : hK σ6 n5 = 9 := by rw [e5]; exact sN_c
  refine x_astore (L' := [(5, .ref (ρ6 n5)), (4, .ref (ρ6 n4)), (3, .ref (ρ6 n3)), (2, .ref (ρ6 n2)), (1, .ref (ρ6 n1)), (0, .ref (gb G))]) hC dL_law_27 (by decide) (by first | rfl | simp (decide := true) [rv_cat, cat_ref, cat_int]) ?_
  refine x_bipush (v := 10) hC dL_law_29 (by decide) ?_
  obtain ⟨n6, hz6, h⟩ := h
  have k13 : hK σ6 n4 = 9 := by rw [e5]; exact sN_k hz5 k8 (by decide)
  have k14 : hK σ6 n3 = 9 := by rw [e5]; exact sN_k hz5 k9 (by decide)
  have k15 : hK σ6 n2 = 9 := by rw [e5]; exact sN_k hz5 k10 (by decide)
  have k16 : hK σ6 n1 = 7 := by rw [e5]; exact sN_k hz5 k11 (by decide)
  refine x_newa (kd := 9) (N := 10) (by decide) hC n6 hz6 .int rfl (by decide) (by decide) q48 (by decide) (by decide) dL_law_31 (fun ρ7 hρ6 => ?_)
  rw [← hρ6 n5 (by rw [k12]; decide), ← hρ6 n4 (by rw [k13]; decide), ← hρ6 n3 (by rw [k14]; decide), ← hρ6 n2 (by rw [k15]; decide), ← hρ6 n1 (by rw [k16]; decide)]
  refine xJ.nmH (fun σ7 e6 => ?_)
  have h := h σ7 e6
  have k17 : hK σ7 n6 = 9 := by rw [e6]; exact sN_c
  refine x_astore (L' := [(6, .ref (ρ7 n6)), (5, .ref (ρ7 n5)), (4, .ref (ρ7 n4)), (3, .ref (ρ7 n3)), (2, .ref (ρ7 n2)), (1, .ref (ρ7 n1)), (0, .ref (gb G))]) hC dL_law_33 (by decide) (by first | rfl | simp (decide := true) [rv_cat, cat_ref, cat_int]) ?_
  refine x_bipush (v := 10) hC dL_law_35 (by decide) ?_
  obtain ⟨n7, hz7, h⟩ := h
  have k18 : hK σ7 n5 = 9 := by rw [e6]; exact sN_k hz6 k12 (by decide)
  have k19 : hK σ7 n4 = 9 := by rw [e6]; exact sN_k hz6 k13 (by decide)
  have k20 : hK σ7 n3 = 9 := by rw [e6]; exact sN_k hz6 k14 (by decide)
  have k21 : hK σ7 n2 = 9 := by rw [e6]; exact sN_k hz6 k15 (by decide)
  have k22 : hK σ7 n1 = 7 := by rw [e6]; exact sN_k hz6 k16 (by decide)
  refine x_newa (kd := 9) (N := 10) (by decide) hC n7 hz7 .int rfl (by decide) (by decide) q48 (by decide) (by decide) dL_law_37 (fun ρ8 hρ7 => ?_)
  rw [← hρ7 n6 (by rw [k17]; decide), ← hρ7 n5 (by rw [k18]; decide), ← hρ7 n4 (by rw [k19]; decide), ← hρ7 n3 (by rw [k20]; decide), ← hρ7 n2 (by rw [k21]; decide), ← hρ7 n1 (by rw [k22]; decide)]
  refine xJ.nmH (fun σ8 e7 => ?_)
  have h := h σ8 e7
  have k23 : hK σ8 n7 = 9 := by rw [e7]; exact sN_c
  refine x_astore (L' := [(7, .ref (ρ8 n7)), (6, .ref (ρ8 n6)), (5, .ref (ρ8 n5)), (4, .ref (ρ8 n4)), (3, .ref (ρ8 n3)), (2, .ref (ρ8 n2)), (1, .ref (ρ8 n1)), (0, .ref (gb G))]) hC dL_law_39 (by decide) (by first | rfl | simp (decide := true) [rv_cat, cat_ref, cat_int]) ?_
  refine x_bipush (v := 10) hC dL_law_41 (by decide) ?_
  obtain ⟨n8, hz8, h⟩ := h
  have k24 : hK σ8 n6 = 9 := by rw [e7]; exact sN_k hz7 k17 (by decide)
  have k25 : hK σ8 n5 = 9 := by rw [e7]; exact sN_k hz7 k18 (by decide)
  have k26 : hK σ8 n4 = 9 := by rw [e7]; exact sN_k hz7 k19 (by decide)
  have k27 : hK σ8 n3 = 9 := by rw [e7]; exact sN_k hz7 k20 (by decide)
  have k28 : hK σ8 n2 = 9 := by rw [e7]; exact sN_k hz7 k21 (by decide)
  have k29 : hK σ8 n1 = 7 := by rw [e7]; exact sN_k hz7 k22 (by decide)
  refine x_newa (kd := 9) (N := 10) (by decide) hC n8 hz8 .int rfl (by decide) (by decide) q48 (by decide) (by decide) dL_law_43 (fun ρ9 hρ8 => ?_)
  rw [← hρ8 n7 (by rw [k23]; decide), ← hρ8 n6 (by rw [k24]; decide), ← hρ8 n5 (by rw [k25]; decide), ← hρ8 n4 (by rw [k26]; decide), ← hρ8 n3 (by rw [k27]; decide), ← hρ8 n2 (by rw [k28]; decide), ← hρ8 n1 (by rw [k29]; decide)]
  refine xJ.nmH (fun σ9 e8 => ?_)
  have h := h σ9 e8
  have k30 : hK σ9 n8 = 9 := by rw [e8]; exact sN_c
  refine x_astore (L' := [(8, .ref (ρ9 n8)), (7, .ref (ρ9 n7)), (6, .ref (ρ9 n6)), (5, .ref (ρ9 n5)), (4, .ref (ρ9 n4)), (3, .ref (ρ9 n3)), (2, .ref (ρ9 n2)), (1, .ref (ρ9 n1)), (0, .ref (gb G))]) hC dL_law_45 (by decide) (by first | rfl | simp (decide := true) [rv_cat, cat_ref, cat_int]) ?_
  refine x_bipush (v := 10) hC dL_law_47 (by decide) ?_
  obtain ⟨n9, hz9, h⟩ := h
  have k31 : hK σ9 n7 = 9 := by rw [e8]; exact sN_k hz8 k23 (by decide)
  have k32 : hK σ9 n6 = 9 := by rw [e8]; exact sN_k hz8 k24 (by decide)
  have k33 : hK σ9 n5 = 9 := by rw [e8]; exact sN_k hz8 k25 (by decide)
  have k34 : hK σ9 n4 = 9 := by rw [e8]; exact sN_k hz8 k26 (by decide)
  have k35 : hK σ9 n3 = 9 := by rw [e8]; exact sN_k hz8 k27 (by decide)
  have k36 : hK σ9 n2 = 9 := by rw [e8]; exact sN_k hz8 k28 (by decide)
  have k37 : hK σ9 n1 = 7 := by rw [e8]; exact sN_k hz8 k29 (by decide)
  refine x_newa (kd := 9) (N := 10) (by decide) hC n9 hz9 .int rfl (by decide) (by decide) q48 (by decide) (by decide) dL_law_49 (fun ρ10 hρ9 => ?_)
  rw [← hρ9 n8 (by rw [k30]; decide), ← hρ9 n7 (by rw [k31]; decide), ← hρ9 n6 (by rw [k32]; decide), ← hρ9 n5 (by rw [k33]; decide), ← hρ9 n4 (by rw [k34]; decide), ← hρ9 n3 (by rw [k35]; decide), ← hρ9 n2 (by rw [k36]; decide), ← hρ9 n1 (by rw [k37]; decide)]
  refine xJ.nmH (fun σ10 e9 => ?_)
  have h := h σ10 e9
  have k38 : hK σ10 n9 = 9 := by rw [e9]; exact sN_c
  refine x_astore (L' := [(9, .ref (ρ10 n9)), (8, .ref (ρ10 n8)), (7, .ref (ρ10 n7)), (6, .ref (ρ10 n6)), (5, .ref (ρ10 n5)), (4, .ref (ρ10 n4)), (3, .ref (ρ10 n3)), (2, .ref (ρ10 n2)), (1, .ref (ρ10 n1)), (0, .ref (gb G))]) hC dL_law_51 (by decide) (by first | rfl | simp (decide := true) [rv_cat, cat_ref, cat_int]) ?_
  refine x_bipush (v := 40) hC dL_law_53 (by decide) ?_
  obtain ⟨n10, hz10, h⟩ := h
  have k39 : hK σ10 n8 = 9 := by rw [e9]; exact sN_k hz9 k30 (by decide)
  have k40 : hK σ10 n7 = 9 := by rw [e9]; exact sN_k hz9 k31 (by decide)
  have k41 : hK σ10 n6 = 9 := by rw [e9]; exact sN_k hz9 k32 (by decide)
  have k42 : hK σ10 n5 = 9 := by rw [e9]; exact sN_k hz9 k33 (by decide)
  have k43 : hK σ10 n4 = 9 := by rw [e9]; exact sN_k hz9 k34 (by decide)
  have k44 : hK σ10 n3 = 9 := by rw [e9]; exact sN_k hz9 k35 (by decide)
  have k45 : hK σ10 n2 = 9 := by rw [e9]; exact sN_k hz9 k36 (by decide)
  have k46 : hK σ10 n1 = 7 := by rw [e9]; exact sN_k hz9 k37 (by decide)
  refine x_newa (kd := 9) (N := 40) (by decide) hC n10 hz10 .int rfl (by decide) (by decide) q48 (by decide) (by decide) dL_law_55 (fun ρ11 hρ10 => ?_)
  rw [← hρ10 n9 (by rw [k38]; decide), ← hρ10 n8 (by rw [k39]; decide), ← hρ10 n7 (by rw [k40]; decide), ← hρ10 n6 (by rw [k41]; decide), ← hρ10 n5 (by rw [k42]; decide), ← hρ10 n4 (by rw [k43]; decide), ← hρ10 n3 (by rw [k44]; decide), ← hρ10 n2 (by rw [k45]; decide), ← hρ10 n1 (by rw [k46]; decide)]
  refine xJ.nmH (fun σ11 e10 => ?_)
  have h := h σ11 e10
  have k47 : hK σ11 n10 = 9 := by rw [e10]; exact sN_c
  refine x_astore (L' := [(10, .ref (ρ11 n10)), (9, .ref (ρ11 n9)), (8, .ref (ρ11 n8)), (7, .ref (ρ11 n7)), (6, .ref (ρ11 n6)), (5, .ref (ρ11 n5)), (4, .ref (ρ11 n4)), (3, .ref (ρ11 n3)), (2, .ref (ρ11 n2)), (1, .ref (ρ11 n1)), (0, .ref (gb G))]) hC dL_law_57 (by decide) (by first | rfl | simp (decide := true) [rv_cat, cat_ref, cat_int]) ?_
  refine x_bipush (v := 10) hC dL_law_59 (by decide) ?_
  obtain ⟨n11, hz11, h⟩ := h
  have k48 : hK σ11 n9 = 9 := by rw [e10]; exact sN_k hz10 k38 (by decide)
  have k49 : hK σ11 n8 = 9 := by rw [e10]; exact sN_k hz10 k39 (by decide)
  have k50 : hK σ11 n7 = 9 := by rw [e10]; exact sN_k hz10 k40 (by decide)
  have k51 : hK σ11 n6 = 9 := by rw [e10]; exact sN_k hz10 k41 (by decide)
  have k52 : hK σ11 n5 = 9 := by rw [e10]; exact sN_k hz10 k42 (by decide)
  have k53 : hK σ11 n4 = 9 := by rw [e10]; exact sN_k hz10 k43 (by decide)
  have k54 : hK σ11 n3 = 9 := by rw [e10]; exact sN_k hz10 k44 (by decide)
  have k55 : hK σ11 n2 = 9 := by rw [e10]; exact sN_k hz10 k45 (by decide)
  have k56 : hK σ11 n1 = 7 := by rw [e10]; exact sN_k hz10 k46 (by decide)
  refine x_newa (kd := 9) (N := 10) (by decide) hC n11 hz11 .int rfl (by decide) (by decide) q48 (by decide) (by decide) dL_law_61 (fun ρ12 hρ11 => ?_)
  rw [← hρ11 n10 (by rw [k47]; decide), ← hρ11 n9 (by rw [k48]; decide), ← hρ11 n8 (by rw [k49]; decide), ← hρ11 n7 (by rw [k50]; decide), ← hρ11 n6 (by rw [k51]; decide), ← hρ11 n5 (by rw [k52]; decide), ← hρ11 n4 (by rw [k53]; decide), ← hρ11 n3 (by rw [k54]; decide), ← hρ11 n2 (by rw [k55]; decide), ← hρ11 n1 (by rw [k56]; decide)]
  refine xJ.nmH (fun σ12 e11 => ?_)
  have h := h σ12 e11
  have k57 : hK σ12 n11 = 9 := by rw [e11]; exact sN_c
  refine x_astore (L' := [(11, .ref (ρ12 n11)), (10, .ref (ρ12 n10)), (9, .ref (ρ12 n9)), (8, .ref (ρ12 n8)), (7, .ref (ρ12 n7)), (6, .ref (ρ12 n6)), (5, .ref (ρ12 n5)), (4, .ref (ρ12 n4)), (3, .ref (ρ12 n3)), (2, .ref (ρ12 n2)), (1, .ref (ρ12 n1)), (0, .ref (gb G))]) hC dL_law_63 (by decide) (by first | rfl | simp (decide := true) [rv_cat, cat_ref, cat_int]) ?_
  refine x_bipush (v := 60) hC dL_law_65 (by decide) ?_
  obtain ⟨n12, hz12, h⟩ := h
  have k58 : hK σ12 n10 = 9 := by rw [e11]; exact sN_k hz11 k47 (by decide)
  have k59 : hK σ12 n9 = 9 := by rw [e11]; exact sN_k hz11 k48 (by decide)
  have k60 : hK σ12 n8 = 9 := by rw [e11]; exact sN_k hz11 k49 (by decide)
  have k61 : hK σ12 n7 = 9 := by rw [e11]; exact sN_k hz11 k50 (by decide)
  have k62 : hK σ12 n6 = 9 := by rw [e11]; exact sN_k hz11 k51 (by decide)
  have k63 : hK σ12 n5 = 9 := by rw [e11]; exact sN_k hz11 k52 (by decide)
  have k64 : hK σ12 n4 = 9 := by rw [e11]; exact sN_k hz11 k53 (by decide)
  have k65 : hK σ12 n3 = 9 := by rw [e11]; exact sN_k hz11 k54 (by decide)
  have k66 : hK σ12 n2 = 9 := by rw [e11]; exact sN_k hz11 k55 (by decide)
  have k67 : hK σ12 n1 = 7 := by rw [e11]; exact sN_k hz11 k56 (by decide)
  refine x_newa (kd := 9) (N := 60) (by decide) hC n12 hz12 .int rfl (by decide) (by decide) q48 (by decide) (by decide) dL_law_67 (fun ρ13 hρ12 => ?_)
  rw [← hρ12 n11 (by rw [k57]; decide), ← hρ12 n10 (by rw [k58]; decide), ← hρ12 n9 (by rw [k59]; decide), ← hρ12 n8 (by rw [k60]; decide), ← hρ12 n7 (by rw [k61]; decide), ← hρ12 n6 (by rw [k62]; decide), ← hρ12 n5 (by rw [k63]; decide), ← hρ12 n4 (by rw [k64]; decide), ← hρ12 n3 (by rw [k65]; decide), ← hρ12 n2 (by rw [k66]; decide), ← hρ12 n1 (by rw [k67]; decide)]
  refine xJ.nmH (fun σ13 e12 => ?_)
  have h := h σ13 e12
  have k68 : hK σ13 n12 = 9 := by rw [e12]; exact sN_c
  refine x_astore (L' := [(12, .ref (ρ13 n12)), (11, .ref (ρ13 n11)), (10, .ref (ρ13 n10)), (9, .ref (ρ13 n9)), (8, .ref (ρ13 n8)), (7, .ref (ρ13 n7)), (6, .ref (ρ13 n6)), (5, .ref (ρ13 n5)), (4, .ref (ρ13 n4)), (3, .ref (ρ13 n3)), (2, .ref (ρ13 n2)), (1, .ref (ρ13 n1)), (0, .ref (gb G))]) hC dL_law_69 (by decide) (by first | rfl | simp (decide := true) [rv_cat, cat_ref, cat_int]) ?_
  refine x_iconst (v := 4) hC dL_law_71 (by decide) ?_
  obtain ⟨n13, hz13, h⟩ := h
  have k69 : hK σ13 n11 = 9 := by rw [e12]; exact sN_k hz12 k57 (by decide)
  have k70 : hK σ13 n10 = 9 := by rw [e12]; exact sN_k hz12 k58 (by decide)
  have k71 : hK σ13 n9 = 9 := by rw [e12]; exact sN_k hz12 k59 (by decide)
  have k72 : hK σ13 n8 = 9 := by rw [e12]; exact sN_k hz12 k60 (by decide)
  have k73 : hK σ13 n7 = 9 := by rw [e12]; exact sN_k hz12 k61 (by decide)
  have k74 : hK σ13 n6 = 9 := by rw [e12]; exact sN_k hz12 k62 (by decide)
  have k75 : hK σ13 n5 = 9 := by rw [e12]; exact sN_k hz12 k63 (by decide)
  have k76 : hK σ13 n4 = 9 := by rw [e12]; exact sN_k hz12 k64 (by decide)
  have k77 : hK σ13 n3 = 9 := by rw [e12]; exact sN_k hz12 k65 (by decide)
  have k78 : hK σ13 n2 = 9 := by rw [e12]; exact sN_k hz12 k66 (by decide)
  have k79 : hK σ13 n1 = 7 := by rw [e12]; exact sN_k hz12 k67 (by decide)
  refine x_newa (kd := 9) (N := 4) (by decide) hC n13 hz13 .int rfl (by decide) (by decide) q48 (by decide) (by decide) dL_law_72 (fun ρ14 hρ13 => ?_)
  rw [← hρ13 n12 (by rw [k68]; decide), ← hρ13 n11 (by rw [k69]; decide), ← hρ13 n10 (by rw [k70]; decide), ← hρ13 n9 (by rw [k71]; decide), ← hρ13 n8 (by rw [k72]; decide), ← hρ13 n7 (by rw [k73]; decide), ← hρ13 n6 (by rw [k74]; decide), ← hρ13 n5 (by rw [k75]; decide), ← hρ13 n4 (by rw [k76]; decide), ← hρ13 n3 (by rw [k77]; decide), ← hρ13 n2 (by rw [k78]; decide), ← hρ13 n1 (by rw [k79]; decide)]
  refine xJ.nmH (fun σ14 e13 => ?_)
  have h := h σ14 e13
  have k80 : hK σ14 n13 = 9 := by rw [e13]; exact sN_c
  refine x_astore (L' := [(13, .ref (ρ14 n13)), (12, .ref (ρ14 n12)), (11, .ref (ρ14 n11)), (10, .ref (ρ14 n10)), (9, .ref (ρ14 n9)), (8, .ref (ρ14 n8)), (7, .ref (ρ14 n7)), (6, .ref (ρ14 n6)), (5, .ref (ρ14 n5)), (4, .ref (ρ14 n4)), (3, .ref (ρ14 n3)), (2, .ref (ρ14 n2)), (1, .ref (ρ14 n1)), (0, .ref (gb G))]) hC dL_law_74 (by decide) (by first | rfl | simp (decide := true) [rv_cat, cat_ref, cat_int]) ?_
  refine x_aload_n hC 12 rfl dL_law_76 ?_
  refine x_iconst (v := 0) hC dL_law_77 (by decide) ?_
  refine x_aload_n hC 10 rfl dL_law_78 ?_
  refine x_aload hC 9 rfl dL_law_79 ?_
  refine x_aload hC 6 rfl dL_law_81 ?_
  refine x_aload hC 5 rfl dL_law_83 ?_
  refine x_aload hC 2 rfl dL_law_85 ?_
  refine x_aload hC 1 rfl dL_law_87 ?_
  refine x_aload hC 0 rfl dL_law_89 ?_
  refine x_callS (as := [.ref (ρ14 n1), .int 0, .ref (ρ14 n3), .ref (ρ14 n4), .ref (ρ14 n7), .ref (ρ14 n8), .ref (ρ14 n11), .ref (ρ14 n12), .ref (ρ14 n13)]) (rest := []) hC (fun l hl => mL_isTold l hl G ρ14 n1 0 n3 n4 n7 n8 n11 n12 n13 σ14 _ xNo h) q608 q609 q0 q610 hdL_isTold (by decide) ⟨(by decide), (by decide)⟩ (by first | exact Nat.le_of_ble_eq_true rfl | (simp [rv_cat]; done) | (simp (decide := true) [rv_cat, cat_ref, cat_int]; done)) rfl dL_law_91 (fun E σ9 hx => False.elim hx) (fun v2 σ15 ρ15 hp2 hag2 => ?_)
  obtain ⟨e9, r1, e8, h⟩ := hp2
  rw [e8, e9]
  refine xJ.nrm (k' := 1010) (n' := 7716) (pc' := 94) (st' := [.int r1]) rfl rfl rfl rfl ?_
  refine x_if_ne (tgt := 99) hC dL_law_94 (by decide) (fun c1 => ?_) (fun c1 => ?_)
  · have h := h.1 c1
    refine x_iconst (v := 0) hC dL_law_99 (by decide) ?_
    refine x_istore (L' := [(14, .int 0), (13, .ref (ρ14 n13)), (12, .ref (ρ14 n12)), (11, .ref (ρ14 n11)), (10, .ref (ρ14 n10)), (9, .ref (ρ14 n9)), (8, .ref (ρ14 n8)), (7, .ref (ρ14 n7)), (6, .ref (ρ14 n6)), (5, .ref (ρ14 n5)), (4, .ref (ρ14 n4)), (3, .ref (ρ14 n3)), (2, .ref (ρ14 n2)), (1, .ref (ρ14 n1)), (0, .ref (gb G))]) hC dL_law_100 (by decide) (by first | rfl | simp (decide := true) [rv_cat, cat_ref, cat_int]) ?_
    refine xJ.sub (L' := [(0, .ref (gb G)), (1, .ref (ρ14 n1)), (2, .ref (ρ14 n2)), (3, .ref (ρ14 n3)), (4, .ref (ρ14 n4)), (5, .ref (ρ14 n5)), (6, .ref (ρ14 n6)), (7, .ref (ρ14 n7)), (8, .ref (ρ14 n8)), (9, .ref (ρ14 n9)), (10, .ref (ρ14 n10)), (11, .ref (ρ14 n11)), (12, .ref (ρ14 n12)), (13, .ref (ρ14 n13)), (14, .int 0)]) [14, 13, 12, 11, 10, 9, 8, 7, 6, 5, 4, 3, 2, 1, 0] rfl ?_
    obtain ⟨f102, hf102, h⟩ := h
    refine mlL_law_102 hC hr n1 n2 n3 n4 n5 n6 n7 n8 n9 n10 n11 n12 n13 (711230) (5839836) (by decide) (by decide) _ Q xNo f102 _ _ _ (show _ + f102 * 5073 ≤ _ + 5073 by omega) (show _ + f102 * 41658 ≤ _ + 41658 by omega) _ _ h (fun y1 ρ24 τ1 h => ?_)
    refine x_iconst (v := 1) hC dL_law_284 (by decide) ?_
    exact hZ _ _ _ _ _ (by decide) (by decide)
  · have h := h.2 c1
    refine x_iconst (v := 0) hC dL_law_97 (by decide) ?_
    exact h.elim
