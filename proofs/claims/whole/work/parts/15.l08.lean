set_option maxHeartbeats 4000000 in
set_option maxRecDepth 20000 in
theorem mlL_law_23 {G : xG} {X : xX} (hC : xC G X "PlantServerLaw" cL_law 7 rmL_law) (hr : xRt X (some .boolean)) {b Lx : Nat} {xs : Nat → Int32} (hS : xScr G X b Lx xs) {Qz : State → Prop} (n1 : Nm) (n2 : Nm) (n3 : Nm) (K : Int32 → PH → Prop) (Q : Int32 → PH → Prop) (Xp : String → PH → Prop) : ∀ (f23 : Nat) (ρ : Nm → Nat) (k n : Nat), k + f23 * 1021 ≤ 601024 → n + f23 * 8931 ≤ 7293034 → ∀ (x23_4 : Int32) (τ23 : PH), lL_law_23 Lx xs n1 n2 n3 K Q f23 x23_4 τ23 → (∀ (x23_4 : Int32) (τ23 : PH) (ρ : Nm → Nat) (k n : Nat), k ≤ 601024 → n ≤ 7293034 → K x23_4 τ23 → xJ G X (Qz) 7 ρ τ23 k n 1561 [(0, .ref b), (1, .ref (ρ n1)), (2, .ref (ρ n2)), (3, .ref (ρ n3)), (4, .int x23_4)] []) → xJ G X (Qz) 7 ρ τ23 k n 23 [(0, .ref b), (1, .ref (ρ n1)), (2, .ref (ρ n2)), (3, .ref (ρ n3)), (4, .int x23_4)] [] := by
  intro f23
  induction f23 with
  | zero => intro ρ k n hk1 hk2 x23_4 τ23 h hKK; unfold lL_law_23 at h; exact h.elim
  | succ f23 ih =>
    intro ρ k n hk1 hk2 x23_4 τ23 h hKK
    unfold lL_law_23 at h
    refine x_iload hC 4 rfl dL_law_23 ?_
    refine x_aload_n hC 0 rfl dL_law_25 ?_
    refine x_slen hC hS dL_law_26 ?_
    refine x_bipush (v := 7) hC dL_law_27 (by decide) ?_
    refine x_isub hC dL_law_29 ?_
    refine x_icmp_gt (tgt := 1561) hC dL_law_30 (by decide) (fun c1 => ?_) (fun c1 => ?_)
    · have h := h.1 c1
      exact hKK _ _ _ _ _ (show _ ≤ 601024 by omega) (show _ ≤ 7293034 by omega) h
    · have h := h.2 c1
      refine x_aload_n hC 0 rfl dL_law_33 ?_
      refine x_iload hC 4 rfl dL_law_34 ?_
      obtain ⟨v3, h⟩ := h
      refine x_sld hC hS v3 dL_law_36 ?_
      refine x_bipush (v := 31) hC dL_law_37 (by decide) ?_
      refine x_iand hC dL_law_39 ?_
      rcases x_cases20 ((xs (Int32.toNatClampNeg x23_4)) &&& 31) with he | he | he | he | he | he | he | he | he | he | he | he | he | he | he | he | he | he | he | he | he | he
      · have h := h.1 he
        refine x_tabIn (tgt := 140) hC 0 he dL_law_40 (by decide) (by decide) rfl (by decide) ?_
        refine x_aload_n hC 1 rfl dL_law_140 ?_
        refine x_aload_n hC 0 rfl dL_law_141 ?_
        refine x_iload hC 4 rfl dL_law_142 ?_
        refine x_iconst (v := 1) hC dL_law_144 (by decide) ?_
        refine x_iadd hC dL_law_145 ?_
        obtain ⟨v4, h⟩ := h
        refine x_sld hC hS v4 dL_law_146 ?_
        refine x_aload_n hC 0 rfl dL_law_147 ?_
        refine x_iload hC 4 rfl dL_law_148 ?_
        refine x_iconst (v := 2) hC dL_law_150 (by decide) ?_
        refine x_iadd hC dL_law_151 ?_
        obtain ⟨v5, h⟩ := h
        refine x_sld hC hS v5 dL_law_152 ?_
        refine x_aload_n hC 3 rfl dL_law_153 ?_
        refine x_callSW (as := [.ref (ρ n1), .int (xs (Int32.toNatClampNeg (x23_4 + 1))), .int (xs (Int32.toNatClampNeg (x23_4 + 2))), .ref (ρ n3)]) (rest := []) hC (fun l hl => mL_write l hl G ρ n1 (xs (Int32.toNatClampNeg (x23_4 + 1))) (xs (Int32.toNatClampNeg (x23_4 + 2))) n3 τ23 _ h) q86 q87 q0 q88 hdL_write (by decide) ⟨(show _ + 2 ≤ 601024 by omega), (show _ + 12 ≤ 7293034 by omega)⟩ (by first | exact Nat.le_of_ble_eq_true rfl | (simp [rv_cat]; done) | (simp (decide := true) [rv_cat, cat_ref, cat_int]; done)) rfl dL_law_154 (fun E σ9 hx => False.elim hx) (fun v6 σ6 ρ6 hp3 hag3 => ?_)
        obtain ⟨e9, r1, e8, h⟩ := hp3
        rw [e8, e9]
        refine xJ.nrm (k' := k + 2) (n' := n + 12) (pc' := 157) (st' := [.int r1]) rfl rfl rfl rfl ?_
        refine x_istore (L' := [(5, .int r1), (0, .ref b), (1, .ref (ρ n1)), (2, .ref (ρ n2)), (3, .ref (ρ n3)), (4, .int x23_4)]) hC dL_law_157 (by decide) (by first | rfl | simp (decide := true) [rv_cat, cat_ref, cat_int]) ?_
        refine x_aload_n hC 3 rfl dL_law_159 ?_
        refine x_aload_n hC 1 rfl dL_law_160 ?_
        refine x_iload hC 5 rfl dL_law_161 ?_
        refine x_iconst (v := 1) hC dL_law_163 (by decide) ?_
        refine x_iadd hC dL_law_164 ?_
        refine x_sld hC hS v4 dL_law_165 ?_
        refine x_aload_n hC 1 rfl dL_law_166 ?_
        refine x_iload hC 5 rfl dL_law_167 ?_
        refine x_iconst (v := 2) hC dL_law_169 (by decide) ?_
        refine x_iadd hC dL_law_170 ?_
        refine x_sld hC hS v5 dL_law_171 ?_
        obtain ⟨k8, h⟩ := h
        refine x_callV (n0 := n2) (as := [.int (xs (Int32.toNatClampNeg (x23_4 + 1))), .int (xs (Int32.toNatClampNeg (x23_4 + 2)))]) (rest := []) hC (ci := 7) (r := (RX7, TX7, 36)) k8 rfl (fun l hl => m7_write l hl G ρ n2 (xs (Int32.toNatClampNeg (x23_4 + 1))) (xs (Int32.toNatClampNeg (x23_4 + 2))) σ6 _ h) q802 q803 q804 q3 q805 ⟨rfl, hd7_write⟩ (by decide) ⟨(show _ + 0 ≤ 601024 by omega), (show _ + 0 ≤ 7293034 by omega)⟩ (by first | exact Nat.le_of_ble_eq_true rfl | (simp [rv_cat]; done) | (simp (decide := true) [rv_cat, cat_ref, cat_int]; done)) rfl dL_law_172 (fun E σ9 hx => False.elim hx) (fun v7 σ7 ρ7 hp4 hag4 => ?_)
        obtain ⟨e9, r2, e8, h⟩ := hp4
        rw [e8, e9]
        refine xJ.nrm (k' := k + 2) (n' := n + 12) (pc' := 175) (st' := [.int r2]) rfl rfl rfl rfl ?_
        refine x_istore (L' := [(6, .int r2), (5, .int r1), (0, .ref b), (1, .ref (ρ n1)), (2, .ref (ρ n2)), (3, .ref (ρ n3)), (4, .int x23_4)]) hC dL_law_175 (by decide) (by first | rfl | simp (decide := true) [rv_cat, cat_ref, cat_int]) ?_
        refine x_aload_n hC 4 rfl dL_law_177 ?_
        have k9 : hK σ7 n2 = 8 := (hag4 n2 (by rw [k8]; decide)).1.trans k8
        refine x_callV (n0 := n2) (as := []) (rest := []) hC (ci := 7) (r := (RX7, TX7, 36)) k9 rfl (fun l hl => m7_thrown l hl G ρ n2 σ7 _ h) q798 q799 q800 q3 q801 ⟨rfl, hd7_thrown⟩ (by decide) ⟨(show _ + 0 ≤ 601024 by omega), (show _ + 0 ≤ 7293034 by omega)⟩ (by first | exact Nat.le_of_ble_eq_true rfl | (simp [rv_cat]; done) | (simp (decide := true) [rv_cat, cat_ref, cat_int]; done)) rfl dL_law_178 (fun E σ9 hx => False.elim hx) (fun v8 σ8 ρ8 hp5 hag5 => ?_)
        obtain ⟨e9, r3, e8, h⟩ := hp5
        rw [e8, e9]
        refine xJ.nrm (k' := k + 2) (n' := n + 12) (pc' := 181) (st' := [.int r3]) rfl rfl rfl rfl ?_
        refine x_iload hC 1 rfl dL_law_181 ?_
        refine x_icmp_eq (tgt := 188) hC dL_law_183 (by decide) (fun c2 => ?_) (fun c2 => ?_)
        · have h := h.1 c2
          refine x_iload hC 1 rfl dL_law_188 ?_
          refine x_if_ne (tgt := 205) hC dL_law_190 (by decide) (fun c3 => ?_) (fun c3 => ?_)
          · have h := h.1 c3
            refine x_goto (tgt := 1555) hC dL_law_205 (by decide) ?_
            refine x_iinc (v' := x23_4 + 7) (L' := [(4, .int (x23_4 + 7)), (6, .int r2), (5, .int r1), (0, .ref b), (1, .ref (ρ n1)), (2, .ref (ρ n2)), (3, .ref (ρ n3))]) hC 6 rfl dL_law_1555 rfl (by decide) (by first | rfl | simp (decide := true) [rv_cat, cat_ref, cat_int]) ?_
            refine x_goto (tgt := 23) hC dL_law_1558 (by decide) ?_
            refine xJ.sub (L' := [(0, .ref b), (1, .ref (ρ n1)), (2, .ref (ρ n2)), (3, .ref (ρ n3)), (4, .int (x23_4 + 7))]) [3, 4, 5, 6, 0] rfl ?_
            exact ih _ _ _ (show _ + f23 * 1021 ≤ 601024 by omega) (show _ + f23 * 8931 ≤ 7293034 by omega) _ _ h hKK
          · have h := h.2 c3
            refine x_aload_n hC 5 rfl dL_law_193 ?_
            refine x_iconst (v := 0) hC dL_law_194 (by decide) ?_
            obtain ⟨k10, h⟩ := h
            obtain ⟨v9, h⟩ := h
            refine x_lald (a := n3) hC k10 v9 dL_law_195 ?_
            refine x_iload hC 0 rfl dL_law_196 ?_
            refine x_i2l hC dL_law_198 ?_
            refine x_lcmp hC dL_law_199 ?_
            refine x_if_eq (tgt := 205) hC dL_law_200 (by decide) (fun c4 => ?_) (fun c4 => ?_)
            · have h := h.1 c4
              refine x_goto (tgt := 1555) hC dL_law_205 (by decide) ?_
              refine x_iinc (v' := x23_4 + 7) (L' := [(4, .int (x23_4 + 7)), (6, .int r2), (5, .int r1), (0, .ref b), (1, .ref (ρ n1)), (2, .ref (ρ n2)), (3, .ref (ρ n3))]) hC 6 rfl dL_law_1555 rfl (by decide) (by first | rfl | simp (decide := true) [rv_cat, cat_ref, cat_int]) ?_
              refine x_goto (tgt := 23) hC dL_law_1558 (by decide) ?_
              refine xJ.sub (L' := [(0, .ref b), (1, .ref (ρ n1)), (2, .ref (ρ n2)), (3, .ref (ρ n3)), (4, .int (x23_4 + 7))]) [3, 4, 5, 6, 0] rfl ?_
              exact ih _ _ _ (show _ + f23 * 1021 ≤ 601024 by omega) (show _ + f23 * 8931 ≤ 7293034 by omega) _ _ h hKK
            · have h := h.2 c4
              refine x_iconst (v := 0) hC dL_law_203 (by decide) ?_
              exact h.elim
        · have h := h.2 c2
          refine x_iconst (v := 0) hC dL_law_186 (by decide) ?_
          exact h.elim
      · have h := h.2.1 he
        refine x_tabIn (tgt := 208) hC 1 he dL_law_40 (by decide) (by decide) rfl (by decide) ?_
        refine x_aload_n hC 1 rfl dL_law_208 ?_
        refine x_aload_n hC 0 rfl dL_law_209 ?_
        refine x_iload hC 4 rfl dL_law_210 ?_
        refine x_iconst (v := 1) hC dL_law_212 (by decide) ?_
        refine x_iadd hC dL_law_213 ?_
        obtain ⟨v10, h⟩ := h
        refine x_sld hC hS v10 dL_law_214 ?_
        refine x_aload_n hC 0 rfl dL_law_215 ?_
        refine x_iload hC 4 rfl dL_law_216 ?_
        refine x_iconst (v := 2) hC dL_law_218 (by decide) ?_
        refine x_iadd hC dL_law_219 ?_
        obtain ⟨v11, h⟩ := h
        refine x_sld hC hS v11 dL_law_220 ?_
        refine x_aload_n hC 0 rfl dL_law_221 ?_
        refine x_iload hC 4 rfl dL_law_222 ?_
        refine x_iconst (v := 3) hC dL_law_224 (by decide) ?_
        refine x_iadd hC dL_law_225 ?_
        obtain ⟨v12, h⟩ := h
        refine x_sld hC hS v12 dL_law_226 ?_
        refine x_aload_n hC 0 rfl dL_law_227 ?_
        refine x_iload hC 4 rfl dL_law_228 ?_
        refine x_iconst (v := 4) hC dL_law_230 (by decide) ?_
        refine x_iadd hC dL_law_231 ?_
        obtain ⟨v13, h⟩ := h
        refine x_sld hC hS v13 dL_law_232 ?_
        refine x_aload_n hC 0 rfl dL_law_233 ?_
        refine x_iload hC 4 rfl dL_law_234 ?_
        refine x_iconst (v := 5) hC dL_law_236 (by decide) ?_
        refine x_iadd hC dL_law_237 ?_
        obtain ⟨v14, h⟩ := h
        refine x_sld hC hS v14 dL_law_238 ?_
        refine x_aload_n hC 3 rfl dL_law_239 ?_
        obtain ⟨z1, h⟩ := h
        obtain ⟨z2, h⟩ := h
        obtain ⟨z3, h⟩ := h
        refine x_callSW (as := [.ref (ρ n1), .int (xs (Int32.toNatClampNeg (x23_4 + 1))), .int (xs (Int32.toNatClampNeg (x23_4 + 2))), .int (xs (Int32.toNatClampNeg (x23_4 + 3))), .int (xs (Int32.toNatClampNeg (x23_4 + 4))), .int (xs (Int32.toNatClampNeg (x23_4 + 5))), .ref (ρ n3)]) (rest := []) hC (fun l hl => mL_open l hl G ρ n1 (xs (Int32.toNatClampNeg (x23_4 + 1))) (xs (Int32.toNatClampNeg (x23_4 + 2))) (xs (Int32.toNatClampNeg (x23_4 + 3))) (xs (Int32.toNatClampNeg (x23_4 + 4))) (xs (Int32.toNatClampNeg (x23_4 + 5))) n3 τ23 _ h) q190 q191 q0 q192 hdL_open (by decide) ⟨(show _ + 9 ≤ 601024 by omega), (show _ + 67 ≤ 7293034 by omega)⟩ (by first | exact Nat.le_of_ble_eq_true rfl | (simp [rv_cat]; done) | (simp (decide := true) [rv_cat, cat_ref, cat_int]; done)) rfl dL_law_240 (fun E σ9 hx => False.elim hx) (fun v15 σ9 ρ9 hp6 hag6 => ?_)
        obtain ⟨r4, e8, h⟩ := hp6
        rw [e8]
        rw [← (hag6 n1 z1).2, ← (hag6 n2 z2).2, ← (hag6 n3 z3).2]
        refine xJ.nrm (k' := k + 9) (n' := n + 67) (pc' := 243) (st' := [.int r4]) rfl rfl rfl rfl ?_
        refine x_istore (L' := [(5, .int r4), (0, .ref b), (1, .ref (ρ9 n1)), (2, .ref (ρ9 n2)), (3, .ref (ρ9 n3)), (4, .int x23_4)]) hC dL_law_243 (by decide) (by first | rfl | simp (decide := true) [rv_cat, cat_ref, cat_int]) ?_
        refine x_aload_n hC 3 rfl dL_law_245 ?_
        refine x_aload_n hC 1 rfl dL_law_246 ?_
        refine x_iload hC 5 rfl dL_law_247 ?_
        refine x_iconst (v := 1) hC dL_law_249 (by decide) ?_
        refine x_iadd hC dL_law_250 ?_
        refine x_sld hC hS v10 dL_law_251 ?_
        refine x_aload_n hC 1 rfl dL_law_252 ?_
        refine x_iload hC 5 rfl dL_law_253 ?_
        refine x_iconst (v := 2) hC dL_law_255 (by decide) ?_
        refine x_iadd hC dL_law_256 ?_
        refine x_sld hC hS v11 dL_law_257 ?_
        refine x_aload_n hC 1 rfl dL_law_258 ?_
        refine x_iload hC 5 rfl dL_law_259 ?_
        refine x_iconst (v := 3) hC dL_law_261 (by decide) ?_
        refine x_iadd hC dL_law_262 ?_
        refine x_sld hC hS v12 dL_law_263 ?_
        refine x_aload_n hC 1 rfl dL_law_264 ?_
        refine x_iload hC 5 rfl dL_law_265 ?_
        refine x_iconst (v := 4) hC dL_law_267 (by decide) ?_
        refine x_iadd hC dL_law_268 ?_
        refine x_sld hC hS v13 dL_law_269 ?_
        refine x_aload_n hC 1 rfl dL_law_270 ?_
        refine x_iload hC 5 rfl dL_law_271 ?_
        refine x_iconst (v := 5) hC dL_law_273 (by decide) ?_
        refine x_iadd hC dL_law_274 ?_
        refine x_sld hC hS v14 dL_law_275 ?_
        obtain ⟨k11, h⟩ := h
        refine x_callV (n0 := n2) (as := [.int (xs (Int32.toNatClampNeg (x23_4 + 1))), .int (xs (Int32.toNatClampNeg (x23_4 + 2))), .int (xs (Int32.toNatClampNeg (x23_4 + 3))), .int (xs (Int32.toNatClampNeg (x23_4 + 4))), .int (xs (Int32.toNatClampNeg (x23_4 + 5)))]) (rest := []) hC (ci := 7) (r := (RX7, TX7, 36)) k11 rfl (fun l hl => m7_open l hl G ρ9 n2 (xs (Int32.toNatClampNeg (x23_4 + 1))) (xs (Int32.toNatClampNeg (x23_4 + 2))) (xs (Int32.toNatClampNeg (x23_4 + 3))) (xs (Int32.toNatClampNeg (x23_4 + 4))) (xs (Int32.toNatClampNeg (x23_4 + 5))) σ9 _ h) q812 q813 q814 q3 q815 ⟨rfl, hd7_open⟩ (by decide) ⟨(show _ + 0 ≤ 601024 by omega), (show _ + 0 ≤ 7293034 by omega)⟩ (by first | exact Nat.le_of_ble_eq_true rfl | (simp [rv_cat]; done) | (simp (decide := true) [rv_cat, cat_ref, cat_int]; done)) rfl dL_law_276 (fun E σ9 hx => False.elim hx) (fun v16 σ10 ρ10 hp7 hag7 => ?_)
        obtain ⟨e9, r5, e8, h⟩ := hp7
        rw [e8, e9]
        refine xJ.nrm (k' := k + 9) (n' := n + 67) (pc' := 279) (st' := [.int r5]) rfl rfl rfl rfl ?_
        refine x_istore (L' := [(6, .int r5), (5, .int r4), (0, .ref b), (1, .ref (ρ9 n1)), (2, .ref (ρ9 n2)), (3, .ref (ρ9 n3)), (4, .int x23_4)]) hC dL_law_279 (by decide) (by first | rfl | simp (decide := true) [rv_cat, cat_ref, cat_int]) ?_
        refine x_aload_n hC 4 rfl dL_law_281 ?_
        have k12 : hK σ10 n2 = 8 := (hag7 n2 (by rw [k11]; decide)).1.trans k11
        refine x_callV (n0 := n2) (as := []) (rest := []) hC (ci := 7) (r := (RX7, TX7, 36)) k12 rfl (fun l hl => m7_thrown l hl G ρ9 n2 σ10 _ h) q798 q799 q800 q3 q801 ⟨rfl, hd7_thrown⟩ (by decide) ⟨(show _ + 0 ≤ 601024 by omega), (show _ + 0 ≤ 7293034 by omega)⟩ (by first | exact Nat.le_of_ble_eq_true rfl | (simp [rv_cat]; done) | (simp (decide := true) [rv_cat, cat_ref, cat_int]; done)) rfl dL_law_282 (fun E σ9 hx => False.elim hx) (fun v17 σ11 ρ11 hp8 hag8 => ?_)
        obtain ⟨e9, r6, e8, h⟩ := hp8
        rw [e8, e9]
        refine xJ.nrm (k' := k + 9) (n' := n + 67) (pc' := 285) (st' := [.int r6]) rfl rfl rfl rfl ?_
        refine x_iload hC 1 rfl dL_law_285 ?_
        refine x_icmp_eq (tgt := 292) hC dL_law_287 (by decide) (fun c5 => ?_) (fun c5 => ?_)
        · have h := h.1 c5
          refine x_iload hC 1 rfl dL_law_292 ?_
          refine x_if_ne (tgt := 309) hC dL_law_294 (by decide) (fun c6 => ?_) (fun c6 => ?_)
          · have h := h.1 c6
            refine x_goto (tgt := 1555) hC dL_law_309 (by decide) ?_
            refine x_iinc (v' := x23_4 + 7) (L' := [(4, .int (x23_4 + 7)), (6, .int r5), (5, .int r4), (0, .ref b), (1, .ref (ρ9 n1)), (2, .ref (ρ9 n2)), (3, .ref (ρ9 n3))]) hC 6 rfl dL_law_1555 rfl (by decide) (by first | rfl | simp (decide := true) [rv_cat, cat_ref, cat_int]) ?_
            refine x_goto (tgt := 23) hC dL_law_1558 (by decide) ?_
            refine xJ.sub (L' := [(0, .ref b), (1, .ref (ρ9 n1)), (2, .ref (ρ9 n2)), (3, .ref (ρ9 n3)), (4, .int (x23_4 + 7))]) [3, 4, 5, 6, 0] rfl ?_
            exact ih _ _ _ (show _ + f23 * 1021 ≤ 601024 by omega) (show _ + f23 * 8931 ≤ 7293034 by omega) _ _ h hKK
          · have h := h.2 c6
            refine x_aload_n hC 5 rfl dL_law_297 ?_
            refine x_iconst (v := 0) hC dL_law_298 (by decide) ?_
            obtain ⟨k13, h⟩ := h
            obtain ⟨v18, h⟩ := h
            refine x_lald (a := n3) hC k13 v18 dL_law_299 ?_
            refine x_iload hC 0 rfl dL_law_300 ?_
            refine x_i2l hC dL_law_302 ?_
            refine x_lcmp hC dL_law_303 ?_
            refine x_if_eq (tgt := 309) hC dL_law_304 (by decide) (fun c7 => ?_) (fun c7 => ?_)
            · have h := h.1 c7
              refine x_goto (tgt := 1555) hC dL_law_309 (by decide) ?_
              refine x_iinc (v' := x23_4 + 7) (L' := [(4, .int (x23_4 + 7)), (6, .int r5), (5, .int r4), (0, .ref b), (1, .ref (ρ9 n1)), (2, .ref (ρ9 n2)), (3, .ref (ρ9 n3))]) hC 6 rfl dL_law_1555 rfl (by decide) (by first | rfl | simp (decide := true) [rv_cat, cat_ref, cat_int]) ?_
              refine x_goto (tgt := 23) hC dL_law_1558 (by decide) ?_
              refine xJ.sub (L' := [(0, .ref b), (1, .ref (ρ9 n1)), (2, .ref (ρ9 n2)), (3, .ref (ρ9 n3)), (4, .int (x23_4 + 7))]) [3, 4, 5, 6, 0] rfl ?_
              exact ih _ _ _ (show _ + f23 * 1021 ≤ 601024 by omega) (show _ + f23 * 8931 ≤ 7293034 by omega) _ _ h hKK
            · have h := h.2 c7
              refine x_iconst (v := 0) hC dL_law_307 (by decide) ?_
              exact h.elim
        · have h := h.2 c5
          refine x_iconst (v := 0) hC dL_law_290 (by decide) ?_
          exact h.elim
      · have h := h.2.2.1 he
        refine x_tabIn (tgt := 312) hC 2 he dL_law_40 (by decide) (by decide) rfl (by decide) ?_
        refine x_aload_n hC 1 rfl dL_law_312 ?_
        refine x_aload_n hC 0 rfl dL_law_313 ?_
        refine x_iload hC 4 rfl dL_law_314 ?_
        refine x_iconst (v := 1) hC dL_law_316 (by decide) ?_
        refine x_iadd hC dL_law_317 ?_
        obtain ⟨v19, h⟩ := h
        refine x_sld hC hS v19 dL_law_318 ?_
        refine x_aload_n hC 3 rfl dL_law_319 ?_
        refine x_callSW (as := [.ref (ρ n1), .int (xs (Int32.toNatClampNeg (x23_4 + 1))), .ref (ρ n3)]) (rest := []) hC (fun l hl => mL_close l hl G ρ n1 (xs (Int32.toNatClampNeg (x23_4 + 1))) n3 τ23 _ h) q289 q290 q0 q291 hdL_close (by decide) ⟨(show _ + 1 ≤ 601024 by omega), (show _ + 6 ≤ 7293034 by omega)⟩ (by first | exact Nat.le_of_ble_eq_true rfl | (simp [rv_cat]; done) | (simp (decide := true) [rv_cat, cat_ref, cat_int]; done)) rfl dL_law_320 (fun E σ9 hx => False.elim hx) (fun v20 σ12 ρ12 hp9 hag9 => ?_)
        obtain ⟨e9, r7, e8, h⟩ := hp9
        rw [e8, e9]
        refine xJ.nrm (k' := k + 1) (n' := n + 6) (pc' := 323) (st' := [.int r7]) rfl rfl rfl rfl ?_
        refine x_istore (L' := [(5, .int r7), (0, .ref b), (1, .ref (ρ n1)), (2, .ref (ρ n2)), (3, .ref (ρ n3)), (4, .int x23_4)]) hC dL_law_323 (by decide) (by first | rfl | simp (decide := true) [rv_cat, cat_ref, cat_int]) ?_
        refine x_aload_n hC 3 rfl dL_law_325 ?_
        refine x_aload_n hC 1 rfl dL_law_326 ?_
        refine x_iload hC 5 rfl dL_law_327 ?_
        refine x_iconst (v := 1) hC dL_law_329 (by decide) ?_
        refine x_iadd hC dL_law_330 ?_
        refine x_sld hC hS v19 dL_law_331 ?_
        obtain ⟨k14, h⟩ := h
        refine x_callV (n0 := n2) (as := [.int (xs (Int32.toNatClampNeg (x23_4 + 1)))]) (rest := []) hC (ci := 7) (r := (RX7, TX7, 36)) k14 rfl (fun l hl => m7_close l hl G ρ n2 (xs (Int32.toNatClampNeg (x23_4 + 1))) σ12 _ h) q816 q817 q818 q3 q819 ⟨rfl, hd7_close⟩ (by decide) ⟨(show _ + 0 ≤ 601024 by omega), (show _ + 0 ≤ 7293034 by omega)⟩ (by first | exact Nat.le_of_ble_eq_true rfl | (simp [rv_cat]; done) | (simp (decide := true) [rv_cat, cat_ref, cat_int]; done)) rfl dL_law_332 (fun E σ9 hx => False.elim hx) (fun v21 σ13 ρ13 hp10 hag10 => ?_)
        obtain ⟨e9, r8, e8, h⟩ := hp10
        rw [e8, e9]
        refine xJ.nrm (k' := k + 1) (n' := n + 6) (pc' := 335) (st' := [.int r8]) rfl rfl rfl rfl ?_
        refine x_istore (L' := [(6, .int r8), (5, .int r7), (0, .ref b), (1, .ref (ρ n1)), (2, .ref (ρ n2)), (3, .ref (ρ n3)), (4, .int x23_4)]) hC dL_law_335 (by decide) (by first | rfl | simp (decide := true) [rv_cat, cat_ref, cat_int]) ?_
        refine x_aload_n hC 4 rfl dL_law_337 ?_
        have k15 : hK σ13 n2 = 8 := (hag10 n2 (by rw [k14]; decide)).1.trans k14
        refine x_callV (n0 := n2) (as := []) (rest := []) hC (ci := 7) (r := (RX7, TX7, 36)) k15 rfl (fun l hl => m7_thrown l hl G ρ n2 σ13 _ h) q798 q799 q800 q3 q801 ⟨rfl, hd7_thrown⟩ (by decide) ⟨(show _ + 0 ≤ 601024 by omega), (show _ + 0 ≤ 7293034 by omega)⟩ (by first | exact Nat.le_of_ble_eq_true rfl | (simp [rv_cat]; done) | (simp (decide := true) [rv_cat, cat_ref, cat_int]; done)) rfl dL_law_338 (fun E σ9 hx => False.elim hx) (fun v22 σ14 ρ14 hp11 hag11 => ?_)
        obtain ⟨e9, r9, e8, h⟩ := hp11
        rw [e8, e9]
        refine xJ.nrm (k' := k + 1) (n' := n + 6) (pc' := 341) (st' := [.int r9]) rfl rfl rfl rfl ?_
        refine x_iload hC 1 rfl dL_law_341 ?_
        refine x_icmp_eq (tgt := 348) hC dL_law_343 (by decide) (fun c8 => ?_) (fun c8 => ?_)
        · have h := h.1 c8
          refine x_iload hC 1 rfl dL_law_348 ?_
          refine x_if_ne (tgt := 365) hC dL_law_350 (by decide) (fun c9 => ?_) (fun c9 => ?_)
          · have h := h.1 c9
            refine x_goto (tgt := 1555) hC dL_law_365 (by decide) ?_
            refine x_iinc (v' := x23_4 + 7) (L' := [(4, .int (x23_4 + 7)), (6, .int r8), (5, .int r7), (0, .ref b), (1, .ref (ρ n1)), (2, .ref (ρ n2)), (3, .ref (ρ n3))]) hC 6 rfl dL_law_1555 rfl (by decide) (by first | rfl | simp (decide := true) [rv_cat, cat_ref, cat_int]) ?_
            refine x_goto (tgt := 23) hC dL_law_1558 (by decide) ?_
            refine xJ.sub (L' := [(0, .ref b), (1, .ref (ρ n1)), (2, .ref (ρ n2)), (3, .ref (ρ n3)), (4, .int (x23_4 + 7))]) [3, 4, 5, 6, 0] rfl ?_
            exact ih _ _ _ (show _ + f23 * 1021 ≤ 601024 by omega) (show _ + f23 * 8931 ≤ 7293034 by omega) _ _ h hKK
          · have h := h.2 c9
            refine x_aload_n hC 5 rfl dL_law_353 ?_
            refine x_iconst (v := 0) hC dL_law_354 (by decide) ?_
            obtain ⟨k16, h⟩ := h
            obtain ⟨v23, h⟩ := h
            refine x_lald (a := n3) hC k16 v23 dL_law_355 ?_
            refine x_iload hC 0 rfl dL_law_356 ?_
            refine x_i2l hC dL_law_358 ?_
            refine x_lcmp hC dL_law_359 ?_
            refine x_if_eq (tgt := 365) hC dL_law_360 (by decide) (fun c10 => ?_) (fun c10 => ?_)
            · have h := h.1 c10
              refine x_goto (tgt := 1555) hC dL_law_365 (by decide) ?_
              refine x_iinc (v' := x23_4 + 7) (L' := [(4, .int (x23_4 + 7)), (6, .int r8), (5, .int r7), (0, .ref b), (1, .ref (ρ n1)), (2, .ref (ρ n2)), (3, .ref (ρ n3))]) hC 6 rfl dL_law_1555 rfl (by decide) (by first | rfl | simp (decide := true) [rv_cat, cat_ref, cat_int]) ?_
              refine x_goto (tgt := 23) hC dL_law_1558 (by decide) ?_
              refine xJ.sub (L' := [(0, .ref b), (1, .ref (ρ n1)), (2, .ref (ρ n2)), (3, .ref (ρ n3)), (4, .int (x23_4 + 7))]) [3, 4, 5, 6, 0] rfl ?_
              exact ih _ _ _ (show _ + f23 * 1021 ≤ 601024 by omega) (show _ + f23 * 8931 ≤ 7293034 by omega) _ _ h hKK
            · have h := h.2 c10
              refine x_iconst (v := 0) hC dL_law_363 (by decide) ?_
              exact h.elim
        · have h := h.2 c8
          refine x_iconst (v := 0) hC dL_law_346 (by decide) ?_
          exact h.elim
      · have h := h.2.2.2.1 he
        refine x_tabIn (tgt := 368) hC 3 he dL_law_40 (by decide) (by decide) rfl (by decide) ?_
        refine x_aload_n hC 1 rfl dL_law_368 ?_
        refine x_aload_n hC 0 rfl dL_law_369 ?_
        refine x_iload hC 4 rfl dL_law_370 ?_
        refine x_iconst (v := 1) hC dL_law_372 (by decide) ?_
        refine x_iadd hC dL_law_373 ?_
        obtain ⟨v24, h⟩ := h
        refine x_sld hC hS v24 dL_law_374 ?_
        refine x_aload_n hC 0 rfl dL_law_375 ?_
        refine x_iload hC 4 rfl dL_law_376 ?_
        refine x_iconst (v := 2) hC dL_law_378 (by decide) ?_
        refine x_iadd hC dL_law_379 ?_
        obtain ⟨v25, h⟩ := h
        refine x_sld hC hS v25 dL_law_380 ?_
        refine x_aload_n hC 0 rfl dL_law_381 ?_
        refine x_iload hC 4 rfl dL_law_382 ?_
        refine x_iconst (v := 3) hC dL_law_384 (by decide) ?_
        refine x_iadd hC dL_law_385 ?_
        obtain ⟨v26, h⟩ := h
        refine x_sld hC hS v26 dL_law_386 ?_
        refine x_aload_n hC 0 rfl dL_law_387 ?_
        refine x_iload hC 4 rfl dL_law_388 ?_
        refine x_iconst (v := 4) hC dL_law_390 (by decide) ?_
        refine x_iadd hC dL_law_391 ?_
        obtain ⟨v27, h⟩ := h
        refine x_sld hC hS v27 dL_law_392 ?_
        refine x_aload_n hC 0 rfl dL_law_393 ?_
        refine x_iload hC 4 rfl dL_law_394 ?_
        refine x_iconst (v := 5) hC dL_law_396 (by decide) ?_
        refine x_iadd hC dL_law_397 ?_
        obtain ⟨v28, h⟩ := h
        refine x_sld hC hS v28 dL_law_398 ?_
        refine x_if_eq (tgt := 406) hC dL_law_399 (by decide) (fun c11 => ?_) (fun c11 => ?_)
        · have h := h.1 c11
          refine x_iconst (v := 0) hC dL_law_406 (by decide) ?_
          refine x_aload_n hC 0 rfl dL_law_407 ?_
          refine x_iload hC 4 rfl dL_law_408 ?_
          refine x_bipush (v := 6) hC dL_law_410 (by decide) ?_
          refine x_iadd hC dL_law_412 ?_
          obtain ⟨v29, h⟩ := h
          refine x_sld hC hS v29 dL_law_413 ?_
          refine x_aload_n hC 3 rfl dL_law_414 ?_
          obtain ⟨z4, h⟩ := h
          obtain ⟨z5, h⟩ := h
          obtain ⟨z6, h⟩ := h
          refine x_callSW (as := [.ref (ρ n1), .int (xs (Int32.toNatClampNeg (x23_4 + 1))), .int (xs (Int32.toNatClampNeg (x23_4 + 2))), .int (xs (Int32.toNatClampNeg (x23_4 + 3))), .int (xs (Int32.toNatClampNeg (x23_4 + 4))), .int 0, .int (xs (Int32.toNatClampNeg (x23_4 + 6))), .ref (ρ n3)]) (rest := []) hC (fun l hl => mL_add l hl G ρ n1 (xs (Int32.toNatClampNeg (x23_4 + 1))) (xs (Int32.toNatClampNeg (x23_4 + 2))) (xs (Int32.toNatClampNeg (x23_4 + 3))) (xs (Int32.toNatClampNeg (x23_4 + 4))) 0 (xs (Int32.toNatClampNeg (x23_4 + 6))) n3 τ23 _ h) q302 q303 q0 q304 hdL_add (by decide) ⟨(show _ + 10 ≤ 601024 by omega), (show _ + 57 ≤ 7293034 by omega)⟩ (by first | exact Nat.le_of_ble_eq_true rfl | (simp [rv_cat]; done) | (simp (decide := true) [rv_cat, cat_ref, cat_int]; done)) rfl dL_law_415 (fun E σ9 hx => False.elim hx) (fun v30 σ15 ρ15 hp12 hag12 => ?_)
          obtain ⟨r10, e8, h⟩ := hp12
          rw [e8]
          rw [← (hag12 n1 z4).2, ← (hag12 n2 z5).2, ← (hag12 n3 z6).2]
          refine xJ.nrm (k' := k + 10) (n' := n + 57) (pc' := 418) (st' := [.int r10]) rfl rfl rfl rfl ?_
          refine x_istore (L' := [(5, .int r10), (0, .ref b), (1, .ref (ρ15 n1)), (2, .ref (ρ15 n2)), (3, .ref (ρ15 n3)), (4, .int x23_4)]) hC dL_law_418 (by decide) (by first | rfl | simp (decide := true) [rv_cat, cat_ref, cat_int]) ?_
          refine x_aload_n hC 3 rfl dL_law_420 ?_
          refine x_aload_n hC 1 rfl dL_law_421 ?_
          refine x_iload hC 5 rfl dL_law_422 ?_
          refine x_iconst (v := 1) hC dL_law_424 (by decide) ?_
          refine x_iadd hC dL_law_425 ?_
          refine x_sld hC hS v24 dL_law_426 ?_
          refine x_aload_n hC 1 rfl dL_law_427 ?_
          refine x_iload hC 5 rfl dL_law_428 ?_
          refine x_iconst (v := 2) hC dL_law_430 (by decide) ?_
          refine x_iadd hC dL_law_431 ?_
          refine x_sld hC hS v25 dL_law_432 ?_
          refine x_aload_n hC 1 rfl dL_law_433 ?_
          refine x_iload hC 5 rfl dL_law_434 ?_
          refine x_iconst (v := 3) hC dL_law_436 (by decide) ?_
          refine x_iadd hC dL_law_437 ?_
          refine x_sld hC hS v26 dL_law_438 ?_
          refine x_aload_n hC 1 rfl dL_law_439 ?_
          refine x_iload hC 5 rfl dL_law_440 ?_
          refine x_iconst (v := 4) hC dL_law_442 (by decide) ?_
          refine x_iadd hC dL_law_443 ?_
          refine x_sld hC hS v27 dL_law_444 ?_
          refine x_aload_n hC 1 rfl dL_law_445 ?_
          refine x_iload hC 5 rfl dL_law_446 ?_
          refine x_iconst (v := 5) hC dL_law_448 (by decide) ?_
          refine x_iadd hC dL_law_449 ?_
          refine x_sld hC hS v28 dL_law_450 ?_
          refine x_if_eq (tgt := 458) hC dL_law_451 (by decide) (fun c12 => ?_) (fun c12 => ?_)
          · have h := h.1 c12
            refine x_iconst (v := 0) hC dL_law_458 (by decide) ?_
            refine x_aload_n hC 1 rfl dL_law_459 ?_
            refine x_iload hC 5 rfl dL_law_460 ?_
            refine x_bipush (v := 6) hC dL_law_462 (by decide) ?_
            refine x_iadd hC dL_law_464 ?_
            refine x_sld hC hS v29 dL_law_465 ?_
            obtain ⟨k17, h⟩ := h
            refine x_callV (n0 := n2) (as := [.int (xs (Int32.toNatClampNeg (x23_4 + 1))), .int (xs (Int32.toNatClampNeg (x23_4 + 2))), .int (xs (Int32.toNatClampNeg (x23_4 + 3))), .int (xs (Int32.toNatClampNeg (x23_4 + 4))), .int 0, .int (xs (Int32.toNatClampNeg (x23_4 + 6)))]) (rest := []) hC (ci := 7) (r := (RX7, TX7, 36)) k17 rfl (fun l hl => m7_add l hl G ρ15 n2 (xs (Int32.toNatClampNeg (x23_4 + 1))) (xs (Int32.toNatClampNeg (x23_4 + 2))) (xs (Int32.toNatClampNeg (x23_4 + 3))) (xs (Int32.toNatClampNeg (x23_4 + 4))) 0 (xs (Int32.toNatClampNeg (x23_4 + 6))) σ15 _ h) q824 q825 q826 q3 q827 ⟨rfl, hd7_add⟩ (by decide) ⟨(show _ + 0 ≤ 601024 by omega), (show _ + 0 ≤ 7293034 by omega)⟩ (by first | exact Nat.le_of_ble_eq_true rfl | (simp [rv_cat]; done) | (simp (decide := true) [rv_cat, cat_ref, cat_int]; done)) rfl dL_law_466 (fun E σ9 hx => False.elim hx) (fun v31 σ16 ρ16 hp13 hag13 => ?_)
            obtain ⟨e9, r11, e8, h⟩ := hp13
            rw [e8, e9]
            refine xJ.nrm (k' := k + 10) (n' := n + 57) (pc' := 469) (st' := [.int r11]) rfl rfl rfl rfl ?_
            refine x_istore (L' := [(6, .int r11), (5, .int r10), (0, .ref b), (1, .ref (ρ15 n1)), (2, .ref (ρ15 n2)), (3, .ref (ρ15 n3)), (4, .int x23_4)]) hC dL_law_469 (by decide) (by first | rfl | simp (decide := true) [rv_cat, cat_ref, cat_int]) ?_
            refine x_aload_n hC 4 rfl dL_law_471 ?_
            have k18 : hK σ16 n2 = 8 := (hag13 n2 (by rw [k17]; decide)).1.trans k17
            refine x_callV (n0 := n2) (as := []) (rest := []) hC (ci := 7) (r := (RX7, TX7, 36)) k18 rfl (fun l hl => m7_thrown l hl G ρ15 n2 σ16 _ h) q798 q799 q800 q3 q801 ⟨rfl, hd7_thrown⟩ (by decide) ⟨(show _ + 0 ≤ 601024 by omega), (show _ + 0 ≤ 7293034 by omega)⟩ (by first | exact Nat.le_of_ble_eq_true rfl | (simp [rv_cat]; done) | (simp (decide := true) [rv_cat, cat_ref, cat_int]; done)) rfl dL_law_472 (fun E σ9 hx => False.elim hx) (fun v32 σ17 ρ17 hp14 hag14 => ?_)
            obtain ⟨e9, r12, e8, h⟩ := hp14
            rw [e8, e9]
            refine xJ.nrm (k' := k + 10) (n' := n + 57) (pc' := 475) (st' := [.int r12]) rfl rfl rfl rfl ?_
            refine x_iload hC 1 rfl dL_law_475 ?_
            refine x_icmp_eq (tgt := 482) hC dL_law_477 (by decide) (fun c13 => ?_) (fun c13 => ?_)
            · have h := h.1 c13
              refine x_iload hC 1 rfl dL_law_482 ?_
              refine x_if_ne (tgt := 499) hC dL_law_484 (by decide) (fun c14 => ?_) (fun c14 => ?_)
              · have h := h.1 c14
                refine x_goto (tgt := 1555) hC dL_law_499 (by decide) ?_
                refine x_iinc (v' := x23_4 + 7) (L' := [(4, .int (x23_4 + 7)), (6, .int r11), (5, .int r10), (0, .ref b), (1, .ref (ρ15 n1)), (2, .ref (ρ15 n2)), (3, .ref (ρ15 n3))]) hC 6 rfl dL_law_1555 rfl (by decide) (by first | rfl | simp (decide := true) [rv_cat, cat_ref, cat_int]) ?_
                refine x_goto (tgt := 23) hC dL_law_1558 (by decide) ?_
                refine xJ.sub (L' := [(0, .ref b), (1, .ref (ρ15 n1)), (2, .ref (ρ15 n2)), (3, .ref (ρ15 n3)), (4, .int (x23_4 + 7))]) [3, 4, 5, 6, 0] rfl ?_
                exact ih _ _ _ (show _ + f23 * 1021 ≤ 601024 by omega) (show _ + f23 * 8931 ≤ 7293034 by omega) _ _ h hKK
              · have h := h.2 c14
                refine x_aload_n hC 5 rfl dL_law_487 ?_
                refine x_iconst (v := 0) hC dL_law_488 (by decide) ?_
                obtain ⟨k19, h⟩ := h
                obtain ⟨v33, h⟩ := h
                refine x_lald (a := n3) hC k19 v33 dL_law_489 ?_
                refine x_iload hC 0 rfl dL_law_490 ?_
                refine x_i2l hC dL_law_492 ?_
                refine x_lcmp hC dL_law_493 ?_
                refine x_if_eq (tgt := 499) hC dL_law_494 (by decide) (fun c15 => ?_) (fun c15 => ?_)
                · have h := h.1 c15
                  refine x_goto (tgt := 1555) hC dL_law_499 (by decide) ?_
                  refine x_iinc (v' := x23_4 + 7) (L' := [(4, .int (x23_4 + 7)), (6, .int r11), (5, .int r10), (0, .ref b), (1, .ref (ρ15 n1)), (2, .ref (ρ15 n2)), (3, .ref (ρ15 n3))]) hC 6 rfl dL_law_1555 rfl (by decide) (by first | rfl | simp (decide := true) [rv_cat, cat_ref, cat_int]) ?_
                  refine x_goto (tgt := 23) hC dL_law_1558 (by decide) ?_
                  refine xJ.sub (L' := [(0, .ref b), (1, .ref (ρ15 n1)), (2, .ref (ρ15 n2)), (3, .ref (ρ15 n3)), (4, .int (x23_4 + 7))]) [3, 4, 5, 6, 0] rfl ?_
                  exact ih _ _ _ (show _ + f23 * 1021 ≤ 601024 by omega) (show _ + f23 * 8931 ≤ 7293034 by omega) _ _ h hKK
                · have h := h.2 c15
                  refine x_iconst (v := 0) hC dL_law_497 (by decide) ?_
                  exact h.elim
            · have h := h.2 c13
              refine x_iconst (v := 0) hC dL_law_480 (by decide) ?_
              exact h.elim
          · have h := h.2 c12
            refine x_iconst (v := 1) hC dL_law_454 (by decide) ?_
            refine x_goto (tgt := 459) hC dL_law_455 (by decide) ?_
            refine x_aload_n hC 1 rfl dL_law_459 ?_
            refine x_iload hC 5 rfl dL_law_460 ?_
            refine x_bipush (v := 6) hC dL_law_462 (by decide) ?_
            refine x_iadd hC dL_law_464 ?_
            refine x_sld hC hS v29 dL_law_465 ?_
            obtain ⟨k20, h⟩ := h
            refine x_callV (n0 := n2) (as := [.int (xs (Int32.toNatClampNeg (x23_4 + 1))), .int (xs (Int32.toNatClampNeg (x23_4 + 2))), .int (xs (Int32.toNatClampNeg (x23_4 + 3))), .int (xs (Int32.toNatClampNeg (x23_4 + 4))), .int 1, .int (xs (Int32.toNatClampNeg (x23_4 + 6)))]) (rest := []) hC (ci := 7) (r := (RX7, TX7, 36)) k20 rfl (fun l hl => m7_add l hl G ρ15 n2 (xs (Int32.toNatClampNeg (x23_4 + 1))) (xs (Int32.toNatClampNeg (x23_4 + 2))) (xs (Int32.toNatClampNeg (x23_4 + 3))) (xs (Int32.toNatClampNeg (x23_4 + 4))) 1 (xs (Int32.toNatClampNeg (x23_4 + 6))) σ15 _ h) q824 q825 q826 q3 q827 ⟨rfl, hd7_add⟩ (by decide) ⟨(show _ + 0 ≤ 601024 by omega), (show _ + 0 ≤ 7293034 by omega)⟩ (by first | exact Nat.le_of_ble_eq_true rfl | (simp [rv_cat]; done) | (simp (decide := true) [rv_cat, cat_ref, cat_int]; done)) rfl dL_law_466 (fun E σ9 hx => False.elim hx) (fun v34 σ18 ρ18 hp15 hag15 => ?_)
            obtain ⟨e9, r13, e8, h⟩ := hp15
            rw [e8, e9]
            refine xJ.nrm (k' := k + 10) (n' := n + 57) (pc' := 469) (st' := [.int r13]) rfl rfl rfl rfl ?_
            refine x_istore (L' := [(6, .int r13), (5, .int r10), (0, .ref b), (1, .ref (ρ15 n1)), (2, .ref (ρ15 n2)), (3, .ref (ρ15 n3)), (4, .int x23_4)]) hC dL_law_469 (by decide) (by first | rfl | simp (decide := true) [rv_cat, cat_ref, cat_int]) ?_
            refine x_aload_n hC 4 rfl dL_law_471 ?_
            have k21 : hK σ18 n2 = 8 := (hag15 n2 (by rw [k20]; decide)).1.trans k20
            refine x_callV (n0 := n2) (as := []) (rest := []) hC (ci := 7) (r := (RX7, TX7, 36)) k21 rfl (fun l hl => m7_thrown l hl G ρ15 n2 σ18 _ h) q798 q799 q800 q3 q801 ⟨rfl, hd7_thrown⟩ (by decide) ⟨(show _ + 0 ≤ 601024 by omega), (show _ + 0 ≤ 7293034 by omega)⟩ (by first | exact Nat.le_of_ble_eq_true rfl | (simp [rv_cat]; done) | (simp (decide := true) [rv_cat, cat_ref, cat_int]; done)) rfl dL_law_472 (fun E σ9 hx => False.elim hx) (fun v35 σ19 ρ19 hp16 hag16 => ?_)
            obtain ⟨e9, r14, e8, h⟩ := hp16
            rw [e8, e9]
            refine xJ.nrm (k' := k + 10) (n' := n + 57) (pc' := 475) (st' := [.int r14]) rfl rfl rfl rfl ?_
            refine x_iload hC 1 rfl dL_law_475 ?_
            refine x_icmp_eq (tgt := 482) hC dL_law_477 (by decide) (fun c16 => ?_) (fun c16 => ?_)
            · have h := h.1 c16
              refine x_iload hC 1 rfl dL_law_482 ?_
              refine x_if_ne (tgt := 499) hC dL_law_484 (by decide) (fun c17 => ?_) (fun c17 => ?_)
              · have h := h.1 c17
                refine x_goto (tgt := 1555) hC dL_law_499 (by decide) ?_
                refine x_iinc (v' := x23_4 + 7) (L' := [(4, .int (x23_4 + 7)), (6, .int r13), (5, .int r10), (0, .ref b), (1, .ref (ρ15 n1)), (2, .ref (ρ15 n2)), (3, .ref (ρ15 n3))]) hC 6 rfl dL_law_1555 rfl (by decide) (by first | rfl | simp (decide := true) [rv_cat, cat_ref, cat_int]) ?_
                refine x_goto (tgt := 23) hC dL_law_1558 (by decide) ?_
                refine xJ.sub (L' := [(0, .ref b), (1, .ref (ρ15 n1)), (2, .ref (ρ15 n2)), (3, .ref (ρ15 n3)), (4, .int (x23_4 + 7))]) [3, 4, 5, 6, 0] rfl ?_
                exact ih _ _ _ (show _ + f23 * 1021 ≤ 601024 by omega) (show _ + f23 * 8931 ≤ 7293034 by omega) _ _ h hKK
              · have h := h.2 c17
                refine x_aload_n hC 5 rfl dL_law_487 ?_
                refine x_iconst (v := 0) hC dL_law_488 (by decide) ?_
                obtain ⟨k22, h⟩ := h
                obtain ⟨v36, h⟩ := h
                refine x_lald (a := n3) hC k22 v36 dL_law_489 ?_
                refine x_iload hC 0 rfl dL_law_490 ?_
                refine x_i2l hC dL_law_492 ?_
                refine x_lcmp hC dL_law_493 ?_
                refine x_if_eq (tgt := 499) hC dL_law_494 (by decide) (fun c18 => ?_) (fun c18 => ?_)
                · have h := h.1 c18
                  refine x_goto (tgt := 1555) hC dL_law_499 (by decide) ?_
                  refine x_iinc (v' := x23_4 + 7) (L' := [(4, .int (x23_4 + 7)), (6, .int r13), (5, .int r10), (0, .ref b), (1, .ref (ρ15 n1)), (2, .ref (ρ15 n2)), (3, .ref (ρ15 n3))]) hC 6 rfl dL_law_1555 rfl (by decide) (by first | rfl | simp (decide := true) [rv_cat, cat_ref, cat_int]) ?_
                  refine x_goto (tgt := 23) hC dL_law_1558 (by decide) ?_
                  refine xJ.sub (L' := [(0, .ref b), (1, .ref (ρ15 n1)), (2, .ref (ρ15 n2)), (3, .ref (ρ15 n3)), (4, .int (x23_4 + 7))]) [3, 4, 5, 6, 0] rfl ?_
                  exact ih _ _ _ (show _ + f23 * 1021 ≤ 601024 by omega) (show _ + f23 * 8931 ≤ 7293034 by omega) _ _ h hKK
                · have h := h.2 c18
                  refine x_iconst (v := 0) hC dL_law_497 (by decide) ?_
                  exact h.elim
            · have h := h.2 c16
              refine x_iconst (v := 0) hC dL_law_480 (by decide) ?_
              exact h.elim
        · have h := h.2 c11
          refine x_iconst (v := 1) hC dL_law_402 (by decide) ?_
          refine x_goto (tgt := 407) hC dL_law_403 (by decide) ?_
          refine x_aload_n hC 0 rfl dL_law_407 ?_
          refine x_iload hC 4 rfl dL_law_408 ?_
          refine x_bipush (v := 6) hC dL_law_410 (by decide) ?_
          refine x_iadd hC dL_law_412 ?_
          obtain ⟨v37, h⟩ := h
          refine x_sld hC hS v37 dL_law_413 ?_
          refine x_aload_n hC 3 rfl dL_law_414 ?_
          obtain ⟨z7, h⟩ := h
          obtain ⟨z8, h⟩ := h
          obtain ⟨z9, h⟩ := h
          refine x_callSW (as := [.ref (ρ n1), .int (xs (Int32.toNatClampNeg (x23_4 + 1))), .int (xs (Int32.toNatClampNeg (x23_4 + 2))), .int (xs (Int32.toNatClampNeg (x23_4 + 3))), .int (xs (Int32.toNatClampNeg (x23_4 + 4))), .int 1, .int (xs (Int32.toNatClampNeg (x23_4 + 6))), .ref (ρ n3)]) (rest := []) hC (fun l hl => mL_add l hl G ρ n1 (xs (Int32.toNatClampNeg (x23_4 + 1))) (xs (Int32.toNatClampNeg (x23_4 + 2))) (xs (Int32.toNatClampNeg (x23_4 + 3))) (xs (Int32.toNatClampNeg (x23_4 + 4))) 1 (xs (Int32.toNatClampNeg (x23_4 + 6))) n3 τ23 _ h) q302 q303 q0 q304 hdL_add (by decide) ⟨(show _ + 10 ≤ 601024 by omega), (show _ + 57 ≤ 7293034 by omega)⟩ (by first | exact Nat.le_of_ble_eq_true rfl | (simp [rv_cat]; done) | (simp (decide := true) [rv_cat, cat_ref, cat_int]; done)) rfl dL_law_415 (fun E σ9 hx => False.elim hx) (fun v38 σ20 ρ20 hp17 hag17 => ?_)
          obtain ⟨r15, e8, h⟩ := hp17
          rw [e8]
          rw [← (hag17 n1 z7).2, ← (hag17 n2 z8).2, ← (hag17 n3 z9).2]
          refine xJ.nrm (k' := k + 10) (n' := n + 57) (pc' := 418) (st' := [.int r15]) rfl rfl rfl rfl ?_
          refine x_istore (L' := [(5, .int r15), (0, .ref b), (1, .ref (ρ20 n1)), (2, .ref (ρ20 n2)), (3, .ref (ρ20 n3)), (4, .int x23_4)]) hC dL_law_418 (by decide) (by first | rfl | simp (decide := true) [rv_cat, cat_ref, cat_int]) ?_
          refine x_aload_n hC 3 rfl dL_law_420 ?_
          refine x_aload_n hC 1 rfl dL_law_421 ?_
          refine x_iload hC 5 rfl dL_law_422 ?_
          refine x_iconst (v := 1) hC dL_law_424 (by decide) ?_
          refine x_iadd hC dL_law_425 ?_
          refine x_sld hC hS v24 dL_law_426 ?_
          refine x_aload_n hC 1 rfl dL_law_427 ?_
          refine x_iload hC 5 rfl dL_law_428 ?_
          refine x_iconst (v := 2) hC dL_law_430 (by decide) ?_
          refine x_iadd hC dL_law_431 ?_
          refine x_sld hC hS v25 dL_law_432 ?_
          refine x_aload_n hC 1 rfl dL_law_433 ?_
          refine x_iload hC 5 rfl dL_law_434 ?_
          refine x_iconst (v := 3) hC dL_law_436 (by decide) ?_
          refine x_iadd hC dL_law_437 ?_
          refine x_sld hC hS v26 dL_law_438 ?_
          refine x_aload_n hC 1 rfl dL_law_439 ?_
          refine x_iload hC 5 rfl dL_law_440 ?_
          refine x_iconst (v := 4) hC dL_law_442 (by decide) ?_
          refine x_iadd hC dL_law_443 ?_
          refine x_sld hC hS v27 dL_law_444 ?_
          refine x_aload_n hC 1 rfl dL_law_445 ?_
          refine x_iload hC 5 rfl dL_law_446 ?_
          refine x_iconst (v := 5) hC dL_law_448 (by decide) ?_
          refine x_iadd hC dL_law_449 ?_
          refine x_sld hC hS v28 dL_law_450 ?_
          refine x_if_eq (tgt := 458) hC dL_law_451 (by decide) (fun c19 => ?_) (fun c19 => ?_)
          · have h := h.1 c19
            refine x_iconst (v := 0) hC dL_law_458 (by decide) ?_
            refine x_aload_n hC 1 rfl dL_law_459 ?_
            refine x_iload hC 5 rfl dL_law_460 ?_
            refine x_bipush (v := 6) hC dL_law_462 (by decide) ?_
            refine x_iadd hC dL_law_464 ?_
            refine x_sld hC hS v37 dL_law_465 ?_
            obtain ⟨k23, h⟩ := h
            refine x_callV (n0 := n2) (as := [.int (xs (Int32.toNatClampNeg (x23_4 + 1))), .int (xs (Int32.toNatClampNeg (x23_4 + 2))), .int (xs (Int32.toNatClampNeg (x23_4 + 3))), .int (xs (Int32.toNatClampNeg (x23_4 + 4))), .int 0, .int (xs (Int32.toNatClampNeg (x23_4 + 6)))]) (rest := []) hC (ci := 7) (r := (RX7, TX7, 36)) k23 rfl (fun l hl => m7_add l hl G ρ20 n2 (xs (Int32.toNatClampNeg (x23_4 + 1))) (xs (Int32.toNatClampNeg (x23_4 + 2))) (xs (Int32.toNatClampNeg (x23_4 + 3))) (xs (Int32.toNatClampNeg (x23_4 + 4))) 0 (xs (Int32.toNatClampNeg (x23_4 + 6))) σ20 _ h) q824 q825 q826 q3 q827 ⟨rfl, hd7_add⟩ (by decide) ⟨(show _ + 0 ≤ 601024 by omega), (show _ + 0 ≤ 7293034 by omega)⟩ (by first | exact Nat.le_of_ble_eq_true rfl | (simp [rv_cat]; done) | (simp (decide := true) [rv_cat, cat_ref, cat_int]; done)) rfl dL_law_466 (fun E σ9 hx => False.elim hx) (fun v39 σ21 ρ21 hp18 hag18 => ?_)
            obtain ⟨e9, r16, e8, h⟩ := hp18
            rw [e8, e9]
            refine xJ.nrm (k' := k + 10) (n' := n + 57) (pc' := 469) (st' := [.int r16]) rfl rfl rfl rfl ?_
            refine x_istore (L' := [(6, .int r16), (5, .int r15), (0, .ref b), (1, .ref (ρ20 n1)), (2, .ref (ρ20 n2)), (3, .ref (ρ20 n3)), (4, .int x23_4)]) hC dL_law_469 (by decide) (by first | rfl | simp (decide := true) [rv_cat, cat_ref, cat_int]) ?_
            refine x_aload_n hC 4 rfl dL_law_471 ?_
            have k24 : hK σ21 n2 = 8 := (hag18 n2 (by rw [k23]; decide)).1.trans k23
            refine x_callV (n0 := n2) (as := []) (rest := []) hC (ci := 7) (r := (RX7, TX7, 36)) k24 rfl (fun l hl => m7_thrown l hl G ρ20 n2 σ21 _ h) q798 q799 q800 q3 q801 ⟨rfl, hd7_thrown⟩ (by decide) ⟨(show _ + 0 ≤ 601024 by omega), (show _ + 0 ≤ 7293034 by omega)⟩ (by first | exact Nat.le_of_ble_eq_true rfl | (simp [rv_cat]; done) | (simp (decide := true) [rv_cat, cat_ref, cat_int]; done)) rfl dL_law_472 (fun E σ9 hx => False.elim hx) (fun v40 σ22 ρ22 hp19 hag19 => ?_)
            obtain ⟨e9, r17, e8, h⟩ := hp19
            rw [e8, e9]
            refine xJ.nrm (k' := k + 10) (n' := n + 57) (pc' := 475) (st' := [.int r17]) rfl rfl rfl rfl ?_
            refine x_iload hC 1 rfl dL_law_475 ?_
            refine x_icmp_eq (tgt := 482) hC dL_law_477 (by decide) (fun c20 => ?_) (fun c20 => ?_)
            · have h := h.1 c20
              refine x_iload hC 1 rfl dL_law_482 ?_
              refine x_if_ne (tgt := 499) hC dL_law_484 (by decide) (fun c21 => ?_) (fun c21 => ?_)
              · have h := h.1 c21
                refine x_goto (tgt := 1555) hC dL_law_499 (by decide) ?_
                refine x_iinc (v' := x23_4 + 7) (L' := [(4, .int (x23_4 + 7)), (6, .int r16), (5, .int r15), (0, .ref b), (1, .ref (ρ20 n1)), (2, .ref (ρ20 n2)), (3, .ref (ρ20 n3))]) hC 6 rfl dL_law_1555 rfl (by decide) (by first | rfl | simp (decide := true) [rv_cat, cat_ref, cat_int]) ?_
                refine x_goto (tgt := 23) hC dL_law_1558 (by decide) ?_
                refine xJ.sub (L' := [(0, .ref b), (1, .ref (ρ20 n1)), (2, .ref (ρ20 n2)), (3, .ref (ρ20 n3)), (4, .int (x23_4 + 7))]) [3, 4, 5, 6, 0] rfl ?_
                exact ih _ _ _ (show _ + f23 * 1021 ≤ 601024 by omega) (show _ + f23 * 8931 ≤ 7293034 by omega) _ _ h hKK
              · have h := h.2 c21
                refine x_aload_n hC 5 rfl dL_law_487 ?_
                refine x_iconst (v := 0) hC dL_law_488 (by decide) ?_
                obtain ⟨k25, h⟩ := h
                obtain ⟨v41, h⟩ := h
                refine x_lald (a := n3) hC k25 v41 dL_law_489 ?_
                refine x_iload hC 0 rfl dL_law_490 ?_
                refine x_i2l hC dL_law_492 ?_
                refine x_lcmp hC dL_law_493 ?_
                refine x_if_eq (tgt := 499) hC dL_law_494 (by decide) (fun c22 => ?_) (fun c22 => ?_)
                · have h := h.1 c22
                  refine x_goto (tgt := 1555) hC dL_law_499 (by decide) ?_
                  refine x_iinc (v' := x23_4 + 7) (L' := [(4, .int (x23_4 + 7)), (6, .int r16), (5, .int r15), (0, .ref b), (1, .ref (ρ20 n1)), (2, .ref (ρ20 n2)), (3, .ref (ρ20 n3))]) hC 6 rfl dL_law_1555 rfl (by decide) (by first | rfl | simp (decide := true) [rv_cat, cat_ref, cat_int]) ?_
                  refine x_goto (tgt := 23) hC dL_law_1558 (by decide) ?_
                  refine xJ.sub (L' := [(0, .ref b), (1, .ref (ρ20 n1)), (2, .ref (ρ20 n2)), (3, .ref (ρ20 n3)), (4, .int (x23_4 + 7))]) [3, 4, 5, 6, 0] rfl ?_
                  exact ih _ _ _ (show _ + f23 * 1021 ≤ 601024 by omega) (show _ + f23 * 8931 ≤ 7293034 by omega) _ _ h hKK
                · have h := h.2 c22
                  refine x_iconst (v := 0) hC dL_law_497 (by decide) ?_
                  exact h.elim
            · have h := h.2 c20
              refine x_iconst (v := 0) hC dL_law_480 (by decide) ?_
              exact h.elim
          · have h := h.2 c19
            refine x_iconst (v := 1) hC dL_law_454 (by decide) ?_
            refine x_goto (tgt := 459) hC dL_law_455 (by decide) ?_
            refine x_aload_n hC 1 rfl dL_law_459 ?_
            refine x_iload hC 5 rfl dL_law_460 ?_
            refine x_bipush (v := 6) hC dL_law_462 (by decide) ?_
            refine x_iadd hC dL_law_464 ?_
            refine x_sld hC hS v37 dL_law_465 ?_
            obtain ⟨k26, h⟩ := h
            refine x_callV (n0 := n2) (as := [.int (xs (Int32.toNatClampNeg (x23_4 + 1))), .int (xs (Int32.toNatClampNeg (x23_4 + 2))), .int (xs (Int32.toNatClampNeg (x23_4 + 3))), .int (xs (Int32.toNatClampNeg (x23_4 + 4))), .int 1, .int (xs (Int32.toNatClampNeg (x23_4 + 6)))]) (rest := []) hC (ci := 7) (r := (RX7, TX7, 36)) k26 rfl (fun l hl => m7_add l hl G ρ20 n2 (xs (Int32.toNatClampNeg (x23_4 + 1))) (xs (Int32.toNatClampNeg (x23_4 + 2))) (xs (Int32.toNatClampNeg (x23_4 + 3))) (xs (Int32.toNatClampNeg (x23_4 + 4))) 1 (xs (Int32.toNatClampNeg (x23_4 + 6))) σ20 _ h) q824 q825 q826 q3 q827 ⟨rfl, hd7_add⟩ (by decide) ⟨(show _ + 0 ≤ 601024 by omega), (show _ + 0 ≤ 7293034 by omega)⟩ (by first | exact Nat.le_of_ble_eq_true rfl | (simp [rv_cat]; done) | (simp (decide := true) [rv_cat, cat_ref, cat_int]; done)) rfl dL_law_466 (fun E σ9 hx => False.elim hx) (fun v42 σ23 ρ23 hp20 hag20 => ?_)
            obtain ⟨e9, r18, e8, h⟩ := hp20
            rw [e8, e9]
            refine xJ.nrm (k' := k + 10) (n' := n + 57) (pc' := 469) (st' := [.int r18]) rfl rfl rfl rfl ?_
            refine x_istore (L' := [(6, .int r18), (5, .int r15), (0, .ref b), (1, .ref (ρ20 n1)), (2, .ref (ρ20 n2)), (3, .ref (ρ20 n3)), (4, .int x23_4)]) hC dL_law_469 (by decide) (by first | rfl | simp (decide := true) [rv_cat, cat_ref, cat_int]) ?_
            refine x_aload_n hC 4 rfl dL_law_471 ?_
            have k27 : hK σ23 n2 = 8 := (hag20 n2 (by rw [k26]; decide)).1.trans k26
            refine x_callV (n0 := n2) (as := []) (rest := []) hC (ci := 7) (r := (RX7, TX7, 36)) k27 rfl (fun l hl => m7_thrown l hl G ρ20 n2 σ23 _ h) q798 q799 q800 q3 q801 ⟨rfl, hd7_thrown⟩ (by decide) ⟨(show _ + 0 ≤ 601024 by omega), (show _ + 0 ≤ 7293034 by omega)⟩ (by first | exact Nat.le_of_ble_eq_true rfl | (simp [rv_cat]; done) | (simp (decide := true) [rv_cat, cat_ref, cat_int]; done)) rfl dL_law_472 (fun E σ9 hx => False.elim hx) (fun v43 σ24 ρ24 hp21 hag21 => ?_)
            obtain ⟨e9, r19, e8, h⟩ := hp21
            rw [e8, e9]
            refine xJ.nrm (k' := k + 10) (n' := n + 57) (pc' := 475) (st' := [.int r19]) rfl rfl rfl rfl ?_
            refine x_iload hC 1 rfl dL_law_475 ?_
            refine x_icmp_eq (tgt := 482) hC dL_law_477 (by decide) (fun c23 => ?_) (fun c23 => ?_)
            · have h := h.1 c23
              refine x_iload hC 1 rfl dL_law_482 ?_
              refine x_if_ne (tgt := 499) hC dL_law_484 (by decide) (fun c24 => ?_) (fun c24 => ?_)
              · have h := h.1 c24
                refine x_goto (tgt := 1555) hC dL_law_499 (by decide) ?_
                refine x_iinc (v' := x23_4 + 7) (L' := [(4, .int (x23_4 + 7)), (6, .int r18), (5, .int r15), (0, .ref b), (1, .ref (ρ20 n1)), (2, .ref (ρ20 n2)), (3, .ref (ρ20 n3))]) hC 6 rfl dL_law_1555 rfl (by decide) (by first | rfl | simp (decide := true) [rv_cat, cat_ref, cat_int]) ?_
                refine x_goto (tgt := 23) hC dL_law_1558 (by decide) ?_
                refine xJ.sub (L' := [(0, .ref b), (1, .ref (ρ20 n1)), (2, .ref (ρ20 n2)), (3, .ref (ρ20 n3)), (4, .int (x23_4 + 7))]) [3, 4, 5, 6, 0] rfl ?_
                exact ih _ _ _ (show _ + f23 * 1021 ≤ 601024 by omega) (show _ + f23 * 8931 ≤ 7293034 by omega) _ _ h hKK
              · have h := h.2 c24
                refine x_aload_n hC 5 rfl dL_law_487 ?_
                refine x_iconst (v := 0) hC dL_law_488 (by decide) ?_
                obtain ⟨k28, h⟩ := h
                obtain ⟨v44, h⟩ := h
                refine x_lald (a := n3) hC k28 v44 dL_law_489 ?_
                refine x_iload hC 0 rfl dL_law_490 ?_
                refine x_i2l hC dL_law_492 ?_
                refine x_lcmp hC dL_law_493 ?_
                refine x_if_eq (tgt := 499) hC dL_law_494 (by decide) (fun c25 => ?_) (fun c25 => ?_)
                · have h := h.1 c25
                  refine x_goto (tgt := 1555) hC dL_law_499 (by decide) ?_
                  refine x_iinc (v' := x23_4 + 7) (L' := [(4, .int (x23_4 + 7)), (6, .int r18), (5, .int r15), (0, .ref b), (1, .ref (ρ20 n1)), (2, .ref (ρ20 n2)), (3, .ref (ρ20 n3))]) hC 6 rfl dL_law_1555 rfl (by decide) (by first | rfl | simp (decide := true) [rv_cat, cat_ref, cat_int]) ?_
                  refine x_goto (tgt := 23) hC dL_law_1558 (by decide) ?_
                  refine xJ.sub (L' := [(0, .ref b), (1, .ref (ρ20 n1)), (2, .ref (ρ20 n2)), (3, .ref (ρ20 n3)), (4, .int (x23_4 + 7))]) [3, 4, 5, 6, 0] rfl ?_
                  exact ih _ _ _ (show _ + f23 * 1021 ≤ 601024 by omega) (show _ + f23 * 8931 ≤ 7293034 by omega) _ _ h hKK
                · have h := h.2 c25
                  refine x_iconst (v := 0) hC dL_law_497 (by decide) ?_
                  exact h.elim
            · have h := h.2 c23
              refine x_iconst (v := 0) hC dL_law_480 (by decide) ?_
              exact h.elim
      · have h := h.2.2.2.2.1 he
        refine x_tabIn (tgt := 502) hC 4 he dL_law_40 (by decide) (by decide) rfl (by decide) ?_
        refine x_aload_n hC 1 rfl dL_law_502 ?_
        refine x_aload_n hC 0 rfl dL_law_503 ?_
        refine x_iload hC 4 rfl dL_law_504 ?_
        refine x_iconst (v := 1) hC dL_law_506 (by decide) ?_
        refine x_iadd hC dL_law_507 ?_
        obtain ⟨v45, h⟩ := h
        refine x_sld hC hS v45 dL_law_508 ?_
        refine x_aload_n hC 0 rfl dL_law_509 ?_
        refine x_iload hC 4 rfl dL_law_510 ?_
        refine x_iconst (v := 2) hC dL_law_512 (by decide) ?_
        refine x_iadd hC dL_law_513 ?_
        obtain ⟨v46, h⟩ := h
        refine x_sld hC hS v46 dL_law_514 ?_
        refine x_if_eq (tgt := 522) hC dL_law_515 (by decide) (fun c26 => ?_) (fun c26 => ?_)
        · have h := h.1 c26
          refine x_iconst (v := 0) hC dL_law_522 (by decide) ?_
          refine x_aload_n hC 3 rfl dL_law_523 ?_
          refine x_callSW (as := [.ref (ρ n1), .int (xs (Int32.toNatClampNeg (x23_4 + 1))), .int 0, .ref (ρ n3)]) (rest := []) hC (fun l hl => mL_setReporting l hl G ρ n1 (xs (Int32.toNatClampNeg (x23_4 + 1))) 0 n3 τ23 _ h) q421 q422 q0 q423 hdL_setReporting (by decide) ⟨(show _ + 1 ≤ 601024 by omega), (show _ + 6 ≤ 7293034 by omega)⟩ (by first | exact Nat.le_of_ble_eq_true rfl | (simp [rv_cat]; done) | (simp (decide := true) [rv_cat, cat_ref, cat_int]; done)) rfl dL_law_524 (fun E σ9 hx => False.elim hx) (fun v47 σ25 ρ25 hp22 hag22 => ?_)
          obtain ⟨e9, r20, e8, h⟩ := hp22
          rw [e8, e9]
          refine xJ.nrm (k' := k + 1) (n' := n + 6) (pc' := 527) (st' := [.int r20]) rfl rfl rfl rfl ?_
          refine x_istore (L' := [(5, .int r20), (0, .ref b), (1, .ref (ρ n1)), (2, .ref (ρ n2)), (3, .ref (ρ n3)), (4, .int x23_4)]) hC dL_law_527 (by decide) (by first | rfl | simp (decide := true) [rv_cat, cat_ref, cat_int]) ?_
          refine x_aload_n hC 3 rfl dL_law_529 ?_
          refine x_aload_n hC 1 rfl dL_law_530 ?_
          refine x_iload hC 5 rfl dL_law_531 ?_
          refine x_iconst (v := 1) hC dL_law_533 (by decide) ?_
          refine x_iadd hC dL_law_534 ?_
          refine x_sld hC hS v45 dL_law_535 ?_
          refine x_aload_n hC 1 rfl dL_law_536 ?_
          refine x_iload hC 5 rfl dL_law_537 ?_
          refine x_iconst (v := 2) hC dL_law_539 (by decide) ?_
          refine x_iadd hC dL_law_540 ?_
          refine x_sld hC hS v46 dL_law_541 ?_
          refine x_if_eq (tgt := 549) hC dL_law_542 (by decide) (fun c27 => ?_) (fun c27 => ?_)
          · have h := h.1 c27
            refine x_iconst (v := 0) hC dL_law_549 (by decide) ?_
            obtain ⟨k29, h⟩ := h
            refine x_callV (n0 := n2) (as := [.int (xs (Int32.toNatClampNeg (x23_4 + 1))), .int 0]) (rest := []) hC (ci := 7) (r := (RX7, TX7, 36)) k29 rfl (fun l hl => m7_setReporting l hl G ρ n2 (xs (Int32.toNatClampNeg (x23_4 + 1))) 0 σ25 _ h) q840 q841 q842 q3 q843 ⟨rfl, hd7_setReporting⟩ (by decide) ⟨(show _ + 0 ≤ 601024 by omega), (show _ + 0 ≤ 7293034 by omega)⟩ (by first | exact Nat.le_of_ble_eq_true rfl | (simp [rv_cat]; done) | (simp (decide := true) [rv_cat, cat_ref, cat_int]; done)) rfl dL_law_550 (fun E σ9 hx => False.elim hx) (fun v48 σ26 ρ26 hp23 hag23 => ?_)
            obtain ⟨e9, r21, e8, h⟩ := hp23
            rw [e8, e9]
            refine xJ.nrm (k' := k + 1) (n' := n + 6) (pc' := 553) (st' := [.int r21]) rfl rfl rfl rfl ?_
            refine x_istore (L' := [(6, .int r21), (5, .int r20), (0, .ref b), (1, .ref (ρ n1)), (2, .ref (ρ n2)), (3, .ref (ρ n3)), (4, .int x23_4)]) hC dL_law_553 (by decide) (by first | rfl | simp (decide := true) [rv_cat, cat_ref, cat_int]) ?_
            refine x_aload_n hC 4 rfl dL_law_555 ?_
            have k30 : hK σ26 n2 = 8 := (hag23 n2 (by rw [k29]; decide)).1.trans k29
            refine x_callV (n0 := n2) (as := []) (rest := []) hC (ci := 7) (r := (RX7, TX7, 36)) k30 rfl (fun l hl => m7_thrown l hl G ρ n2 σ26 _ h) q798 q799 q800 q3 q801 ⟨rfl, hd7_thrown⟩ (by decide) ⟨(show _ + 0 ≤ 601024 by omega), (show _ + 0 ≤ 7293034 by omega)⟩ (by first | exact Nat.le_of_ble_eq_true rfl | (simp [rv_cat]; done) | (simp (decide := true) [rv_cat, cat_ref, cat_int]; done)) rfl dL_law_556 (fun E σ9 hx => False.elim hx) (fun v49 σ27 ρ27 hp24 hag24 => ?_)
            obtain ⟨e9, r22, e8, h⟩ := hp24
            rw [e8, e9]
            refine xJ.nrm (k' := k + 1) (n' := n + 6) (pc' := 559) (st' := [.int r22]) rfl rfl rfl rfl ?_
            refine x_iload hC 1 rfl dL_law_559 ?_
            refine x_icmp_eq (tgt := 566) hC dL_law_561 (by decide) (fun c28 => ?_) (fun c28 => ?_)
            · have h := h.1 c28
              refine x_iload hC 1 rfl dL_law_566 ?_
              refine x_if_ne (tgt := 590) hC dL_law_568 (by decide) (fun c29 => ?_) (fun c29 => ?_)
              · have h := h.1 c29
                refine x_goto (tgt := 1555) hC dL_law_590 (by decide) ?_
                refine x_iinc (v' := x23_4 + 7) (L' := [(4, .int (x23_4 + 7)), (6, .int r21), (5, .int r20), (0, .ref b), (1, .ref (ρ n1)), (2, .ref (ρ n2)), (3, .ref (ρ n3))]) hC 6 rfl dL_law_1555 rfl (by decide) (by first | rfl | simp (decide := true) [rv_cat, cat_ref, cat_int]) ?_
                refine x_goto (tgt := 23) hC dL_law_1558 (by decide) ?_
                refine xJ.sub (L' := [(0, .ref b), (1, .ref (ρ n1)), (2, .ref (ρ n2)), (3, .ref (ρ n3)), (4, .int (x23_4 + 7))]) [3, 4, 5, 6, 0] rfl ?_
                exact ih _ _ _ (show _ + f23 * 1021 ≤ 601024 by omega) (show _ + f23 * 8931 ≤ 7293034 by omega) _ _ h hKK
              · have h := h.2 c29
                refine x_aload_n hC 5 rfl dL_law_571 ?_
                refine x_iconst (v := 0) hC dL_law_572 (by decide) ?_
                obtain ⟨k31, h⟩ := h
                obtain ⟨v50, h⟩ := h
                refine x_lald (a := n3) hC k31 v50 dL_law_573 ?_
                refine x_iload hC 0 rfl dL_law_574 ?_
                refine x_if_eq (tgt := 583) hC dL_law_576 (by decide) (fun c30 => ?_) (fun c30 => ?_)
                · have h := h.1 c30
                  refine x_lconst (v := 0) hC dL_law_583 (by decide) ?_
                  refine x_lcmp hC dL_law_584 ?_
                  refine x_if_eq (tgt := 590) hC dL_law_585 (by decide) (fun c31 => ?_) (fun c31 => ?_)
                  · have h := h.1 c31
                    refine x_goto (tgt := 1555) hC dL_law_590 (by decide) ?_
                    refine x_iinc (v' := x23_4 + 7) (L' := [(4, .int (x23_4 + 7)), (6, .int r21), (5, .int r20), (0, .ref b), (1, .ref (ρ n1)), (2, .ref (ρ n2)), (3, .ref (ρ n3))]) hC 6 rfl dL_law_1555 rfl (by decide) (by first | rfl | simp (decide := true) [rv_cat, cat_ref, cat_int]) ?_
                    refine x_goto (tgt := 23) hC dL_law_1558 (by decide) ?_
                    refine xJ.sub (L' := [(0, .ref b), (1, .ref (ρ n1)), (2, .ref (ρ n2)), (3, .ref (ρ n3)), (4, .int (x23_4 + 7))]) [3, 4, 5, 6, 0] rfl ?_
                    exact ih _ _ _ (show _ + f23 * 1021 ≤ 601024 by omega) (show _ + f23 * 8931 ≤ 7293034 by omega) _ _ h hKK
                  · have h := h.2 c31
                    refine x_iconst (v := 0) hC dL_law_588 (by decide) ?_
                    exact h.elim
                · have h := h.2 c30
                  refine x_lconst (v := 1) hC dL_law_579 (by decide) ?_
                  refine x_goto (tgt := 584) hC dL_law_580 (by decide) ?_
                  refine x_lcmp hC dL_law_584 ?_
                  refine x_if_eq (tgt := 590) hC dL_law_585 (by decide) (fun c32 => ?_) (fun c32 => ?_)
                  · have h := h.1 c32
                    refine x_goto (tgt := 1555) hC dL_law_590 (by decide) ?_
                    refine x_iinc (v' := x23_4 + 7) (L' := [(4, .int (x23_4 + 7)), (6, .int r21), (5, .int r20), (0, .ref b), (1, .ref (ρ n1)), (2, .ref (ρ n2)), (3, .ref (ρ n3))]) hC 6 rfl dL_law_1555 rfl (by decide) (by first | rfl | simp (decide := true) [rv_cat, cat_ref, cat_int]) ?_
                    refine x_goto (tgt := 23) hC dL_law_1558 (by decide) ?_
                    refine xJ.sub (L' := [(0, .ref b), (1, .ref (ρ n1)), (2, .ref (ρ n2)), (3, .ref (ρ n3)), (4, .int (x23_4 + 7))]) [3, 4, 5, 6, 0] rfl ?_
                    exact ih _ _ _ (show _ + f23 * 1021 ≤ 601024 by omega) (show _ + f23 * 8931 ≤ 7293034 by omega) _ _ h hKK
                  · have h := h.2 c32
                    refine x_iconst (v := 0) hC dL_law_588 (by decide) ?_
                    exact h.elim
            · have h := h.2 c28
              refine x_iconst (v := 0) hC dL_law_564 (by decide) ?_
              exact h.elim
          · have h := h.2 c27
            refine x_iconst (v := 1) hC dL_law_545 (by decide) ?_
            refine x_goto (tgt := 550) hC dL_law_546 (by decide) ?_
            obtain ⟨k32, h⟩ := h
            refine x_callV (n0 := n2) (as := [.int (xs (Int32.toNatClampNeg (x23_4 + 1))), .int 1]) (rest := []) hC (ci := 7) (r := (RX7, TX7, 36)) k32 rfl (fun l hl => m7_setReporting l hl G ρ n2 (xs (Int32.toNatClampNeg (x23_4 + 1))) 1 σ25 _ h) q840 q841 q842 q3 q843 ⟨rfl, hd7_setReporting⟩ (by decide) ⟨(show _ + 0 ≤ 601024 by omega), (show _ + 0 ≤ 7293034 by omega)⟩ (by first | exact Nat.le_of_ble_eq_true rfl | (simp [rv_cat]; done) | (simp (decide := true) [rv_cat, cat_ref, cat_int]; done)) rfl dL_law_550 (fun E σ9 hx => False.elim hx) (fun v51 σ28 ρ28 hp25 hag25 => ?_)
            obtain ⟨e9, r23, e8, h⟩ := hp25
            rw [e8, e9]
            refine xJ.nrm (k' := k + 1) (n' := n + 6) (pc' := 553) (st' := [.int r23]) rfl rfl rfl rfl ?_
            refine x_istore (L' := [(6, .int r23), (5, .int r20), (0, .ref b), (1, .ref (ρ n1)), (2, .ref (ρ n2)), (3, .ref (ρ n3)), (4, .int x23_4)]) hC dL_law_553 (by decide) (by first | rfl | simp (decide := true) [rv_cat, cat_ref, cat_int]) ?_
            refine x_aload_n hC 4 rfl dL_law_555 ?_
            have k33 : hK σ28 n2 = 8 := (hag25 n2 (by rw [k32]; decide)).1.trans k32
            refine x_callV (n0 := n2) (as := []) (rest := []) hC (ci := 7) (r := (RX7, TX7, 36)) k33 rfl (fun l hl => m7_thrown l hl G ρ n2 σ28 _ h) q798 q799 q800 q3 q801 ⟨rfl, hd7_thrown⟩ (by decide) ⟨(show _ + 0 ≤ 601024 by omega), (show _ + 0 ≤ 7293034 by omega)⟩ (by first | exact Nat.le_of_ble_eq_true rfl | (simp [rv_cat]; done) | (simp (decide := true) [rv_cat, cat_ref, cat_int]; done)) rfl dL_law_556 (fun E σ9 hx => False.elim hx) (fun v52 σ29 ρ29 hp26 hag26 => ?_)
            obtain ⟨e9, r24, e8, h⟩ := hp26
            rw [e8, e9]
            refine xJ.nrm (k' := k + 1) (n' := n + 6) (pc' := 559) (st' := [.int r24]) rfl rfl rfl rfl ?_
            refine x_iload hC 1 rfl dL_law_559 ?_
            refine x_icmp_eq (tgt := 566) hC dL_law_561 (by decide) (fun c33 => ?_) (fun c33 => ?_)
            · have h := h.1 c33
              refine x_iload hC 1 rfl dL_law_566 ?_
              refine x_if_ne (tgt := 590) hC dL_law_568 (by decide) (fun c34 => ?_) (fun c34 => ?_)
              · have h := h.1 c34
                refine x_goto (tgt := 1555) hC dL_law_590 (by decide) ?_
                refine x_iinc (v' := x23_4 + 7) (L' := [(4, .int (x23_4 + 7)), (6, .int r23), (5, .int r20), (0, .ref b), (1, .ref (ρ n1)), (2, .ref (ρ n2)), (3, .ref (ρ n3))]) hC 6 rfl dL_law_1555 rfl (by decide) (by first | rfl | simp (decide := true) [rv_cat, cat_ref, cat_int]) ?_
                refine x_goto (tgt := 23) hC dL_law_1558 (by decide) ?_
                refine xJ.sub (L' := [(0, .ref b), (1, .ref (ρ n1)), (2, .ref (ρ n2)), (3, .ref (ρ n3)), (4, .int (x23_4 + 7))]) [3, 4, 5, 6, 0] rfl ?_
                exact ih _ _ _ (show _ + f23 * 1021 ≤ 601024 by omega) (show _ + f23 * 8931 ≤ 7293034 by omega) _ _ h hKK
              · have h := h.2 c34
                refine x_aload_n hC 5 rfl dL_law_571 ?_
                refine x_iconst (v := 0) hC dL_law_572 (by decide) ?_
                obtain ⟨k34, h⟩ := h
                obtain ⟨v53, h⟩ := h
                refine x_lald (a := n3) hC k34 v53 dL_law_573 ?_
                refine x_iload hC 0 rfl dL_law_574 ?_
                refine x_if_eq (tgt := 583) hC dL_law_576 (by decide) (fun c35 => ?_) (fun c35 => ?_)
                · have h := h.1 c35
                  refine x_lconst (v := 0) hC dL_law_583 (by decide) ?_
                  refine x_lcmp hC dL_law_584 ?_
                  refine x_if_eq (tgt := 590) hC dL_law_585 (by decide) (fun c36 => ?_) (fun c36 => ?_)
                  · have h := h.1 c36
                    refine x_goto (tgt := 1555) hC dL_law_590 (by decide) ?_
                    refine x_iinc (v' := x23_4 + 7) (L' := [(4, .int (x23_4 + 7)), (6, .int r23), (5, .int r20), (0, .ref b), (1, .ref (ρ n1)), (2, .ref (ρ n2)), (3, .ref (ρ n3))]) hC 6 rfl dL_law_1555 rfl (by decide) (by first | rfl | simp (decide := true) [rv_cat, cat_ref, cat_int]) ?_
                    refine x_goto (tgt := 23) hC dL_law_1558 (by decide) ?_
                    refine xJ.sub (L' := [(0, .ref b), (1, .ref (ρ n1)), (2, .ref (ρ n2)), (3, .ref (ρ n3)), (4, .int (x23_4 + 7))]) [3, 4, 5, 6, 0] rfl ?_
                    exact ih _ _ _ (show _ + f23 * 1021 ≤ 601024 by omega) (show _ + f23 * 8931 ≤ 7293034 by omega) _ _ h hKK
                  · have h := h.2 c36
                    refine x_iconst (v := 0) hC dL_law_588 (by decide) ?_
                    exact h.elim
                · have h := h.2 c35
                  refine x_lconst (v := 1) hC dL_law_579 (by decide) ?_
                  refine x_goto (tgt := 584) hC dL_law_580 (by decide) ?_
                  refine x_lcmp hC dL_law_584 ?_
                  refine x_if_eq (tgt := 590) hC dL_law_585 (by decide) (fun c37 => ?_) (fun c37 => ?_)
                  · have h := h.1 c37
                    refine x_goto (tgt := 1555) hC dL_law_590 (by decide) ?_
                    refine x_iinc (v' := x23_4 + 7) (L' := [(4, .int (x23_4 + 7)), (6, .int r23), (5, .int r20), (0, .ref b), (1, .ref (ρ n1)), (2, .ref (ρ n2)), (3, .ref (ρ n3))]) hC 6 rfl dL_law_1555 rfl (by decide) (by first | rfl | simp (decide := true) [rv_cat, cat_ref, cat_int]) ?_
                    refine x_goto (tgt := 23) hC dL_law_1558 (by decide) ?_
                    refine xJ.sub (L' := [(0, .ref b), (1, .ref (ρ n1)), (2, .ref (ρ n2)), (3, .ref (ρ n3)), (4, .int (x23_4 + 7))]) [3, 4, 5, 6, 0] rfl ?_
                    exact ih _ _ _ (show _ + f23 * 1021 ≤ 601024 by omega) (show _ + f23 * 8931 ≤ 7293034 by omega) _ _ h hKK
                  · have h := h.2 c37
                    refine x_iconst (v := 0) hC dL_law_588 (by decide) ?_
                    exact h.elim
            · have h := h.2 c33
              refine x_iconst (v := 0) hC dL_law_564 (by decide) ?_
              exact h.elim
        · have h := h.2 c26
          refine x_iconst (v := 1) hC dL_law_518 (by decide) ?_
          refine x_goto (tgt := 523) hC dL_law_519 (by decide) ?_
          refine x_aload_n hC 3 rfl dL_law_523 ?_
          refine x_callSW (as := [.ref (ρ n1), .int (xs (Int32.toNatClampNeg (x23_4 + 1))), .int 1, .ref (ρ n3)]) (rest := []) hC (fun l hl => mL_setReporting l hl G ρ n1 (xs (Int32.toNatClampNeg (x23_4 + 1))) 1 n3 τ23 _ h) q421 q422 q0 q423 hdL_setReporting (by decide) ⟨(show _ + 1 ≤ 601024 by omega), (show _ + 6 ≤ 7293034 by omega)⟩ (by first | exact Nat.le_of_ble_eq_true rfl | (simp [rv_cat]; done) | (simp (decide := true) [rv_cat, cat_ref, cat_int]; done)) rfl dL_law_524 (fun E σ9 hx => False.elim hx) (fun v54 σ30 ρ30 hp27 hag27 => ?_)
          obtain ⟨e9, r25, e8, h⟩ := hp27
          rw [e8, e9]
          refine xJ.nrm (k' := k + 1) (n' := n + 6) (pc' := 527) (st' := [.int r25]) rfl rfl rfl rfl ?_
          refine x_istore (L' := [(5, .int r25), (0, .ref b), (1, .ref (ρ n1)), (2, .ref (ρ n2)), (3, .ref (ρ n3)), (4, .int x23_4)]) hC dL_law_527 (by decide) (by first | rfl | simp (decide := true) [rv_cat, cat_ref, cat_int]) ?_
          refine x_aload_n hC 3 rfl dL_law_529 ?_
          refine x_aload_n hC 1 rfl dL_law_530 ?_
          refine x_iload hC 5 rfl dL_law_531 ?_
          refine x_iconst (v := 1) hC dL_law_533 (by decide) ?_
          refine x_iadd hC dL_law_534 ?_
          refine x_sld hC hS v45 dL_law_535 ?_
          refine x_aload_n hC 1 rfl dL_law_536 ?_
          refine x_iload hC 5 rfl dL_law_537 ?_
          refine x_iconst (v := 2) hC dL_law_539 (by decide) ?_
          refine x_iadd hC dL_law_540 ?_
          refine x_sld hC hS v46 dL_law_541 ?_
          refine x_if_eq (tgt := 549) hC dL_law_542 (by decide) (fun c38 => ?_) (fun c38 => ?_)
          · have h := h.1 c38
            refine x_iconst (v := 0) hC dL_law_549 (by decide) ?_
            obtain ⟨k35, h⟩ := h
            refine x_callV (n0 := n2) (as := [.int (xs (Int32.toNatClampNeg (x23_4 + 1))), .int 0]) (rest := []) hC (ci := 7) (r := (RX7, TX7, 36)) k35 rfl (fun l hl => m7_setReporting l hl G ρ n2 (xs (Int32.toNatClampNeg (x23_4 + 1))) 0 σ30 _ h) q840 q841 q842 q3 q843 ⟨rfl, hd7_setReporting⟩ (by decide) ⟨(show _ + 0 ≤ 601024 by omega), (show _ + 0 ≤ 7293034 by omega)⟩ (by first | exact Nat.le_of_ble_eq_true rfl | (simp [rv_cat]; done) | (simp (decide := true) [rv_cat, cat_ref, cat_int]; done)) rfl dL_law_550 (fun E σ9 hx => False.elim hx) (fun v55 σ31 ρ31 hp28 hag28 => ?_)
            obtain ⟨e9, r26, e8, h⟩ := hp28
            rw [e8, e9]
            refine xJ.nrm (k' := k + 1) (n' := n + 6) (pc' := 553) (st' := [.int r26]) rfl rfl rfl rfl ?_
            refine x_istore (L' := [(6, .int r26), (5, .int r25), (0, .ref b), (1, .ref (ρ n1)), (2, .ref (ρ n2)), (3, .ref (ρ n3)), (4, .int x23_4)]) hC dL_law_553 (by decide) (by first | rfl | simp (decide := true) [rv_cat, cat_ref, cat_int]) ?_
            refine x_aload_n hC 4 rfl dL_law_555 ?_
            have k36 : hK σ31 n2 = 8 := (hag28 n2 (by rw [k35]; decide)).1.trans k35
            refine x_callV (n0 := n2) (as := []) (rest := []) hC (ci := 7) (r := (RX7, TX7, 36)) k36 rfl (fun l hl => m7_thrown l hl G ρ n2 σ31 _ h) q798 q799 q800 q3 q801 ⟨rfl, hd7_thrown⟩ (by decide) ⟨(show _ + 0 ≤ 601024 by omega), (show _ + 0 ≤ 7293034 by omega)⟩ (by first | exact Nat.le_of_ble_eq_true rfl | (simp [rv_cat]; done) | (simp (decide := true) [rv_cat, cat_ref, cat_int]; done)) rfl dL_law_556 (fun E σ9 hx => False.elim hx) (fun v56 σ32 ρ32 hp29 hag29 => ?_)
            obtain ⟨e9, r27, e8, h⟩ := hp29
            rw [e8, e9]
            refine xJ.nrm (k' := k + 1) (n' := n + 6) (pc' := 559) (st' := [.int r27]) rfl rfl rfl rfl ?_
            refine x_iload hC 1 rfl dL_law_559 ?_
            refine x_icmp_eq (tgt := 566) hC dL_law_561 (by decide) (fun c39 => ?_) (fun c39 => ?_)
            · have h := h.1 c39
              refine x_iload hC 1 rfl dL_law_566 ?_
              refine x_if_ne (tgt := 590) hC dL_law_568 (by decide) (fun c40 => ?_) (fun c40 => ?_)
              · have h := h.1 c40
                refine x_goto (tgt := 1555) hC dL_law_590 (by decide) ?_
                refine x_iinc (v' := x23_4 + 7) (L' := [(4, .int (x23_4 + 7)), (6, .int r26), (5, .int r25), (0, .ref b), (1, .ref (ρ n1)), (2, .ref (ρ n2)), (3, .ref (ρ n3))]) hC 6 rfl dL_law_1555 rfl (by decide) (by first | rfl | simp (decide := true) [rv_cat, cat_ref, cat_int]) ?_
                refine x_goto (tgt := 23) hC dL_law_1558 (by decide) ?_
                refine xJ.sub (L' := [(0, .ref b), (1, .ref (ρ n1)), (2, .ref (ρ n2)), (3, .ref (ρ n3)), (4, .int (x23_4 + 7))]) [3, 4, 5, 6, 0] rfl ?_
                exact ih _ _ _ (show _ + f23 * 1021 ≤ 601024 by omega) (show _ + f23 * 8931 ≤ 7293034 by omega) _ _ h hKK
              · have h := h.2 c40
                refine x_aload_n hC 5 rfl dL_law_571 ?_
                refine x_iconst (v := 0) hC dL_law_572 (by decide) ?_
                obtain ⟨k37, h⟩ := h
                obtain ⟨v57, h⟩ := h
                refine x_lald (a := n3) hC k37 v57 dL_law_573 ?_
                refine x_iload hC 0 rfl dL_law_574 ?_
                refine x_if_eq (tgt := 583) hC dL_law_576 (by decide) (fun c41 => ?_) (fun c41 => ?_)
                · have h := h.1 c41
                  refine x_lconst (v := 0) hC dL_law_583 (by decide) ?_
                  refine x_lcmp hC dL_law_584 ?_
                  refine x_if_eq (tgt := 590) hC dL_law_585 (by decide) (fun c42 => ?_) (fun c42 => ?_)
                  · have h := h.1 c42
                    refine x_goto (tgt := 1555) hC dL_law_590 (by decide) ?_
                    refine x_iinc (v' := x23_4 + 7) (L' := [(4, .int (x23_4 + 7)), (6, .int r26), (5, .int r25), (0, .ref b), (1, .ref (ρ n1)), (2, .ref (ρ n2)), (3, .ref (ρ n3))]) hC 6 rfl dL_law_1555 rfl (by decide) (by first | rfl | simp (decide := true) [rv_cat, cat_ref, cat_int]) ?_
                    refine x_goto (tgt := 23) hC dL_law_1558 (by decide) ?_
                    refine xJ.sub (L' := [(0, .ref b), (1, .ref (ρ n1)), (2, .ref (ρ n2)), (3, .ref (ρ n3)), (4, .int (x23_4 + 7))]) [3, 4, 5, 6, 0] rfl ?_
                    exact ih _ _ _ (show _ + f23 * 1021 ≤ 601024 by omega) (show _ + f23 * 8931 ≤ 7293034 by omega) _ _ h hKK
                  · have h := h.2 c42
                    refine x_iconst (v := 0) hC dL_law_588 (by decide) ?_
                    exact h.elim
                · have h := h.2 c41
                  refine x_lconst (v := 1) hC dL_law_579 (by decide) ?_
                  refine x_goto (tgt := 584) hC dL_law_580 (by decide) ?_
                  refine x_lcmp hC dL_law_584 ?_
                  refine x_if_eq (tgt := 590) hC dL_law_585 (by decide) (fun c43 => ?_) (fun c43 => ?_)
                  · have h := h.1 c43
                    refine x_goto (tgt := 1555) hC dL_law_590 (by decide) ?_
                    refine x_iinc (v' := x23_4 + 7) (L' := [(4, .int (x23_4 + 7)), (6, .int r26), (5, .int r25), (0, .ref b), (1, .ref (ρ n1)), (2, .ref (ρ n2)), (3, .ref (ρ n3))]) hC 6 rfl dL_law_1555 rfl (by decide) (by first | rfl | simp (decide := true) [rv_cat, cat_ref, cat_int]) ?_
                    refine x_goto (tgt := 23) hC dL_law_1558 (by decide) ?_
                    refine xJ.sub (L' := [(0, .ref b), (1, .ref (ρ n1)), (2, .ref (ρ n2)), (3, .ref (ρ n3)), (4, .int (x23_4 + 7))]) [3, 4, 5, 6, 0] rfl ?_
                    exact ih _ _ _ (show _ + f23 * 1021 ≤ 601024 by omega) (show _ + f23 * 8931 ≤ 7293034 by omega) _ _ h hKK
                  · have h := h.2 c43
                    refine x_iconst (v := 0) hC dL_law_588 (by decide) ?_
                    exact h.elim
            · have h := h.2 c39
              refine x_iconst (v := 0) hC dL_law_564 (by decide) ?_
              exact h.elim
          · have h := h.2 c38
            refine x_iconst (v := 1) hC dL_law_545 (by decide) ?_
            refine x_goto (tgt := 550) hC dL_law_546 (by decide) ?_
            obtain ⟨k38, h⟩ := h
            refine x_callV (n0 := n2) (as := [.int (xs (Int32.toNatClampNeg (x23_4 + 1))), .int 1]) (rest := []) hC (ci := 7) (r := (RX7, TX7, 36)) k38 rfl (fun l hl => m7_setReporting l hl G ρ n2 (xs (Int32.toNatClampNeg (x23_4 + 1))) 1 σ30 _ h) q840 q841 q842 q3 q843 ⟨rfl, hd7_setReporting⟩ (by decide) ⟨(show _ + 0 ≤ 601024 by omega), (show _ + 0 ≤ 7293034 by omega)⟩ (by first | exact Nat.le_of_ble_eq_true rfl | (simp [rv_cat]; done) | (simp (decide := true) [rv_cat, cat_ref, cat_int]; done)) rfl dL_law_550 (fun E σ9 hx => False.elim hx) (fun v58 σ33 ρ33 hp30 hag30 => ?_)
            obtain ⟨e9, r28, e8, h⟩ := hp30
            rw [e8, e9]
            refine xJ.nrm (k' := k + 1) (n' := n + 6) (pc' := 553) (st' := [.int r28]) rfl rfl rfl rfl ?_
            refine x_istore (L' := [(6, .int r28), (5, .int r25), (0, .ref b), (1, .ref (ρ n1)), (2, .ref (ρ n2)), (3, .ref (ρ n3)), (4, .int x23_4)]) hC dL_law_553 (by decide) (by first | rfl | simp (decide := true) [rv_cat, cat_ref, cat_int]) ?_
            refine x_aload_n hC 4 rfl dL_law_555 ?_
            have k39 : hK σ33 n2 = 8 := (hag30 n2 (by rw [k38]; decide)).1.trans k38
            refine x_callV (n0 := n2) (as := []) (rest := []) hC (ci := 7) (r := (RX7, TX7, 36)) k39 rfl (fun l hl => m7_thrown l hl G ρ n2 σ33 _ h) q798 q799 q800 q3 q801 ⟨rfl, hd7_thrown⟩ (by decide) ⟨(show _ + 0 ≤ 601024 by omega), (show _ + 0 ≤ 7293034 by omega)⟩ (by first | exact Nat.le_of_ble_eq_true rfl | (simp [rv_cat]; done) | (simp (decide := true) [rv_cat, cat_ref, cat_int]; done)) rfl dL_law_556 (fun E σ9 hx => False.elim hx) (fun v59 σ34 ρ34 hp31 hag31 => ?_)
            obtain ⟨e9, r29, e8, h⟩ := hp31
            rw [e8, e9]
            refine xJ.nrm (k' := k + 1) (n' := n + 6) (pc' := 559) (st' := [.int r29]) rfl rfl rfl rfl ?_
            refine x_iload hC 1 rfl dL_law_559 ?_
            refine x_icmp_eq (tgt := 566) hC dL_law_561 (by decide) (fun c44 => ?_) (fun c44 => ?_)
            · have h := h.1 c44
              refine x_iload hC 1 rfl dL_law_566 ?_
              refine x_if_ne (tgt := 590) hC dL_law_568 (by decide) (fun c45 => ?_) (fun c45 => ?_)
              · have h := h.1 c45
                refine x_goto (tgt := 1555) hC dL_law_590 (by decide) ?_
                refine x_iinc (v' := x23_4 + 7) (L' := [(4, .int (x23_4 + 7)), (6, .int r28), (5, .int r25), (0, .ref b), (1, .ref (ρ n1)), (2, .ref (ρ n2)), (3, .ref (ρ n3))]) hC 6 rfl dL_law_1555 rfl (by decide) (by first | rfl | simp (decide := true) [rv_cat, cat_ref, cat_int]) ?_
                refine x_goto (tgt := 23) hC dL_law_1558 (by decide) ?_
                refine xJ.sub (L' := [(0, .ref b), (1, .ref (ρ n1)), (2, .ref (ρ n2)), (3, .ref (ρ n3)), (4, .int (x23_4 + 7))]) [3, 4, 5, 6, 0] rfl ?_
                exact ih _ _ _ (show _ + f23 * 1021 ≤ 601024 by omega) (show _ + f23 * 8931 ≤ 7293034 by omega) _ _ h hKK
              · have h := h.2 c45
                refine x_aload_n hC 5 rfl dL_law_571 ?_
                refine x_iconst (v := 0) hC dL_law_572 (by decide) ?_
                obtain ⟨k40, h⟩ := h
                obtain ⟨v60, h⟩ := h
                refine x_lald (a := n3) hC k40 v60 dL_law_573 ?_
                refine x_iload hC 0 rfl dL_law_574 ?_
                refine x_if_eq (tgt := 583) hC dL_law_576 (by decide) (fun c46 => ?_) (fun c46 => ?_)
                · have h := h.1 c46
                  refine x_lconst (v := 0) hC dL_law_583 (by decide) ?_
                  refine x_lcmp hC dL_law_584 ?_
                  refine x_if_eq (tgt := 590) hC dL_law_585 (by decide) (fun c47 => ?_) (fun c47 => ?_)
                  · have h := h.1 c47
                    refine x_goto (tgt := 1555) hC dL_law_590 (by decide) ?_
                    refine x_iinc (v' := x23_4 + 7) (L' := [(4, .int (x23_4 + 7)), (6, .int r28), (5, .int r25), (0, .ref b), (1, .ref (ρ n1)), (2, .ref (ρ n2)), (3, .ref (ρ n3))]) hC 6 rfl dL_law_1555 rfl (by decide) (by first | rfl | simp (decide := true) [rv_cat, cat_ref, cat_int]) ?_
                    refine x_goto (tgt := 23) hC dL_law_1558 (by decide) ?_
                    refine xJ.sub (L' := [(0, .ref b), (1, .ref (ρ n1)), (2, .ref (ρ n2)), (3, .ref (ρ n3)), (4, .int (x23_4 + 7))]) [3, 4, 5, 6, 0] rfl ?_
                    exact ih _ _ _ (show _ + f23 * 1021 ≤ 601024 by omega) (show _ + f23 * 8931 ≤ 7293034 by omega) _ _ h hKK
                  · have h := h.2 c47
                    refine x_iconst (v := 0) hC dL_law_588 (by decide) ?_
                    exact h.elim
                · have h := h.2 c46
                  refine x_lconst (v := 1) hC dL_law_579 (by decide) ?_
                  refine x_goto (tgt := 584) hC dL_law_580 (by decide) ?_
                  refine x_lcmp hC dL_law_584 ?_
                  refine x_if_eq (tgt := 590) hC dL_law_585 (by decide) (fun c48 => ?_) (fun c48 => ?_)
                  · have h := h.1 c48
                    refine x_goto (tgt := 1555) hC dL_law_590 (by decide) ?_
                    refine x_iinc (v' := x23_4 + 7) (L' := [(4, .int (x23_4 + 7)), (6, .int r28), (5, .int r25), (0, .ref b), (1, .ref (ρ n1)), (2, .ref (ρ n2)), (3, .ref (ρ n3))]) hC 6 rfl dL_law_1555 rfl (by decide) (by first | rfl | simp (decide := true) [rv_cat, cat_ref, cat_int]) ?_
                    refine x_goto (tgt := 23) hC dL_law_1558 (by decide) ?_
                    refine xJ.sub (L' := [(0, .ref b), (1, .ref (ρ n1)), (2, .ref (ρ n2)), (3, .ref (ρ n3)), (4, .int (x23_4 + 7))]) [3, 4, 5, 6, 0] rfl ?_
                    exact ih _ _ _ (show _ + f23 * 1021 ≤ 601024 by omega) (show _ + f23 * 8931 ≤ 7293034 by omega) _ _ h hKK
                  · have h := h.2 c48
                    refine x_iconst (v := 0) hC dL_law_588 (by decide) ?_
                    exact h.elim
            · have h := h.2 c44
              refine x_iconst (v := 0) hC dL_law_564 (by decide) ?_
              exact h.elim
      · have h := h.2.2.2.2.2.1 he
        refine x_tabIn (tgt := 593) hC 5 he dL_law_40 (by decide) (by decide) rfl (by decide) ?_
        refine x_aload_n hC 1 rfl dL_law_593 ?_
        refine x_aload_n hC 0 rfl dL_law_594 ?_
        refine x_iload hC 4 rfl dL_law_595 ?_
        refine x_iconst (v := 1) hC dL_law_597 (by decide) ?_
        refine x_iadd hC dL_law_598 ?_
        obtain ⟨v61, h⟩ := h
        refine x_sld hC hS v61 dL_law_599 ?_
        refine x_aload_n hC 0 rfl dL_law_600 ?_
        refine x_iload hC 4 rfl dL_law_601 ?_
        refine x_iconst (v := 2) hC dL_law_603 (by decide) ?_
        refine x_iadd hC dL_law_604 ?_
        obtain ⟨v62, h⟩ := h
        refine x_sld hC hS v62 dL_law_605 ?_
        refine x_aload_n hC 0 rfl dL_law_606 ?_
        refine x_iload hC 4 rfl dL_law_607 ?_
        refine x_iconst (v := 3) hC dL_law_609 (by decide) ?_
        refine x_iadd hC dL_law_610 ?_
        obtain ⟨v63, h⟩ := h
        refine x_sld hC hS v63 dL_law_611 ?_
        refine x_if_eq (tgt := 619) hC dL_law_612 (by decide) (fun c49 => ?_) (fun c49 => ?_)
        · have h := h.1 c49
          refine x_iconst (v := 0) hC dL_law_619 (by decide) ?_
          refine x_aload_n hC 3 rfl dL_law_620 ?_
          refine x_callSW (as := [.ref (ρ n1), .int (xs (Int32.toNatClampNeg (x23_4 + 1))), .int (xs (Int32.toNatClampNeg (x23_4 + 2))), .int 0, .ref (ρ n3)]) (rest := []) hC (fun l hl => mL_link l hl G ρ n1 (xs (Int32.toNatClampNeg (x23_4 + 1))) (xs (Int32.toNatClampNeg (x23_4 + 2))) 0 n3 τ23 _ h) q434 q435 q0 q436 hdL_link (by decide) ⟨(show _ + 3 ≤ 601024 by omega), (show _ + 18 ≤ 7293034 by omega)⟩ (by first | exact Nat.le_of_ble_eq_true rfl | (simp [rv_cat]; done) | (simp (decide := true) [rv_cat, cat_ref, cat_int]; done)) rfl dL_law_621 (fun E σ9 hx => False.elim hx) (fun v64 σ35 ρ35 hp32 hag32 => ?_)
          obtain ⟨e9, r30, e8, h⟩ := hp32
          rw [e8, e9]
          refine xJ.nrm (k' := k + 3) (n' := n + 18) (pc' := 624) (st' := [.int r30]) rfl rfl rfl rfl ?_
          refine x_istore (L' := [(5, .int r30), (0, .ref b), (1, .ref (ρ n1)), (2, .ref (ρ n2)), (3, .ref (ρ n3)), (4, .int x23_4)]) hC dL_law_624 (by decide) (by first | rfl | simp (decide := true) [rv_cat, cat_ref, cat_int]) ?_
          refine x_aload_n hC 3 rfl dL_law_626 ?_
          refine x_aload_n hC 1 rfl dL_law_627 ?_
          refine x_iload hC 5 rfl dL_law_628 ?_
          refine x_iconst (v := 1) hC dL_law_630 (by decide) ?_
          refine x_iadd hC dL_law_631 ?_
          refine x_sld hC hS v61 dL_law_632 ?_
          refine x_aload_n hC 1 rfl dL_law_633 ?_
          refine x_iload hC 5 rfl dL_law_634 ?_
          refine x_iconst (v := 2) hC dL_law_636 (by decide) ?_
          refine x_iadd hC dL_law_637 ?_
          refine x_sld hC hS v62 dL_law_638 ?_
          refine x_aload_n hC 1 rfl dL_law_639 ?_
          refine x_iload hC 5 rfl dL_law_640 ?_
          refine x_iconst (v := 3) hC dL_law_642 (by decide) ?_
          refine x_iadd hC dL_law_643 ?_
          refine x_sld hC hS v63 dL_law_644 ?_
          refine x_if_eq (tgt := 652) hC dL_law_645 (by decide) (fun c50 => ?_) (fun c50 => ?_)
          · have h := h.1 c50
            refine x_iconst (v := 0) hC dL_law_652 (by decide) ?_
            obtain ⟨k41, h⟩ := h
            refine x_callV (n0 := n2) (as := [.int (xs (Int32.toNatClampNeg (x23_4 + 1))), .int (xs (Int32.toNatClampNeg (x23_4 + 2))), .int 0]) (rest := []) hC (ci := 7) (r := (RX7, TX7, 36)) k41 rfl (fun l hl => m7_link l hl G ρ n2 (xs (Int32.toNatClampNeg (x23_4 + 1))) (xs (Int32.toNatClampNeg (x23_4 + 2))) 0 σ35 _ h) q848 q849 q850 q3 q851 ⟨rfl, hd7_link⟩ (by decide) ⟨(show _ + 0 ≤ 601024 by omega), (show _ + 0 ≤ 7293034 by omega)⟩ (by first | exact Nat.le_of_ble_eq_true rfl | (simp [rv_cat]; done) | (simp (decide := true) [rv_cat, cat_ref, cat_int]; done)) rfl dL_law_653 (fun E σ9 hx => False.elim hx) (fun v65 σ36 ρ36 hp33 hag33 => ?_)
            obtain ⟨e9, r31, e8, h⟩ := hp33
            rw [e8, e9]
            refine xJ.nrm (k' := k + 3) (n' := n + 18) (pc' := 656) (st' := [.int r31]) rfl rfl rfl rfl ?_
            refine x_istore (L' := [(6, .int r31), (5, .int r30), (0, .ref b), (1, .ref (ρ n1)), (2, .ref (ρ n2)), (3, .ref (ρ n3)), (4, .int x23_4)]) hC dL_law_656 (by decide) (by first | rfl | simp (decide := true) [rv_cat, cat_ref, cat_int]) ?_
            refine x_aload_n hC 4 rfl dL_law_658 ?_
            have k42 : hK σ36 n2 = 8 := (hag33 n2 (by rw [k41]; decide)).1.trans k41
            refine x_callV (n0 := n2) (as := []) (rest := []) hC (ci := 7) (r := (RX7, TX7, 36)) k42 rfl (fun l hl => m7_thrown l hl G ρ n2 σ36 _ h) q798 q799 q800 q3 q801 ⟨rfl, hd7_thrown⟩ (by decide) ⟨(show _ + 0 ≤ 601024 by omega), (show _ + 0 ≤ 7293034 by omega)⟩ (by first | exact Nat.le_of_ble_eq_true rfl | (simp [rv_cat]; done) | (simp (decide := true) [rv_cat, cat_ref, cat_int]; done)) rfl dL_law_659 (fun E σ9 hx => False.elim hx) (fun v66 σ37 ρ37 hp34 hag34 => ?_)
            obtain ⟨e9, r32, e8, h⟩ := hp34
            rw [e8, e9]
            refine xJ.nrm (k' := k + 3) (n' := n + 18) (pc' := 662) (st' := [.int r32]) rfl rfl rfl rfl ?_
            refine x_iload hC 1 rfl dL_law_662 ?_
            refine x_icmp_eq (tgt := 669) hC dL_law_664 (by decide) (fun c51 => ?_) (fun c51 => ?_)
            · have h := h.1 c51
              refine x_iload hC 1 rfl dL_law_669 ?_
              refine x_if_ne (tgt := 693) hC dL_law_671 (by decide) (fun c52 => ?_) (fun c52 => ?_)
              · have h := h.1 c52
                refine x_goto (tgt := 1555) hC dL_law_693 (by decide) ?_
                refine x_iinc (v' := x23_4 + 7) (L' := [(4, .int (x23_4 + 7)), (6, .int r31), (5, .int r30), (0, .ref b), (1, .ref (ρ n1)), (2, .ref (ρ n2)), (3, .ref (ρ n3))]) hC 6 rfl dL_law_1555 rfl (by decide) (by first | rfl | simp (decide := true) [rv_cat, cat_ref, cat_int]) ?_
                refine x_goto (tgt := 23) hC dL_law_1558 (by decide) ?_
                refine xJ.sub (L' := [(0, .ref b), (1, .ref (ρ n1)), (2, .ref (ρ n2)), (3, .ref (ρ n3)), (4, .int (x23_4 + 7))]) [3, 4, 5, 6, 0] rfl ?_
                exact ih _ _ _ (show _ + f23 * 1021 ≤ 601024 by omega) (show _ + f23 * 8931 ≤ 7293034 by omega) _ _ h hKK
              · have h := h.2 c52
                refine x_aload_n hC 5 rfl dL_law_674 ?_
                refine x_iconst (v := 0) hC dL_law_675 (by decide) ?_
                obtain ⟨k43, h⟩ := h
                obtain ⟨v67, h⟩ := h
                refine x_lald (a := n3) hC k43 v67 dL_law_676 ?_
                refine x_iload hC 0 rfl dL_law_677 ?_
                refine x_if_eq (tgt := 686) hC dL_law_679 (by decide) (fun c53 => ?_) (fun c53 => ?_)
                · have h := h.1 c53
                  refine x_lconst (v := 0) hC dL_law_686 (by decide) ?_
                  refine x_lcmp hC dL_law_687 ?_
                  refine x_if_eq (tgt := 693) hC dL_law_688 (by decide) (fun c54 => ?_) (fun c54 => ?_)
                  · have h := h.1 c54
                    refine x_goto (tgt := 1555) hC dL_law_693 (by decide) ?_
                    refine x_iinc (v' := x23_4 + 7) (L' := [(4, .int (x23_4 + 7)), (6, .int r31), (5, .int r30), (0, .ref b), (1, .ref (ρ n1)), (2, .ref (ρ n2)), (3, .ref (ρ n3))]) hC 6 rfl dL_law_1555 rfl (by decide) (by first | rfl | simp (decide := true) [rv_cat, cat_ref, cat_int]) ?_
                    refine x_goto (tgt := 23) hC dL_law_1558 (by decide) ?_
                    refine xJ.sub (L' := [(0, .ref b), (1, .ref (ρ n1)), (2, .ref (ρ n2)), (3, .ref (ρ n3)), (4, .int (x23_4 + 7))]) [3, 4, 5, 6, 0] rfl ?_
                    exact ih _ _ _ (show _ + f23 * 1021 ≤ 601024 by omega) (show _ + f23 * 8931 ≤ 7293034 by omega) _ _ h hKK
                  · have h := h.2 c54
                    refine x_iconst (v := 0) hC dL_law_691 (by decide) ?_
                    exact h.elim
                · have h := h.2 c53
                  refine x_lconst (v := 1) hC dL_law_682 (by decide) ?_
                  refine x_goto (tgt := 687) hC dL_law_683 (by decide) ?_
                  refine x_lcmp hC dL_law_687 ?_
                  refine x_if_eq (tgt := 693) hC dL_law_688 (by decide) (fun c55 => ?_) (fun c55 => ?_)
                  · have h := h.1 c55
                    refine x_goto (tgt := 1555) hC dL_law_693 (by decide) ?_
                    refine x_iinc (v' := x23_4 + 7) (L' := [(4, .int (x23_4 + 7)), (6, .int r31), (5, .int r30), (0, .ref b), (1, .ref (ρ n1)), (2, .ref (ρ n2)), (3, .ref (ρ n3))]) hC 6 rfl dL_law_1555 rfl (by decide) (by first | rfl | simp (decide := true) [rv_cat, cat_ref, cat_int]) ?_
                    refine x_goto (tgt := 23) hC dL_law_1558 (by decide) ?_
                    refine xJ.sub (L' := [(0, .ref b), (1, .ref (ρ n1)), (2, .ref (ρ n2)), (3, .ref (ρ n3)), (4, .int (x23_4 + 7))]) [3, 4, 5, 6, 0] rfl ?_
                    exact ih _ _ _ (show _ + f23 * 1021 ≤ 601024 by omega) (show _ + f23 * 8931 ≤ 7293034 by omega) _ _ h hKK
                  · have h := h.2 c55
                    refine x_iconst (v := 0) hC dL_law_691 (by decide) ?_
                    exact h.elim
            · have h := h.2 c51
              refine x_iconst (v := 0) hC dL_law_667 (by decide) ?_
              exact h.elim
          · have h := h.2 c50
            refine x_iconst (v := 1) hC dL_law_648 (by decide) ?_
            refine x_goto (tgt := 653) hC dL_law_649 (by decide) ?_
            obtain ⟨k44, h⟩ := h
            refine x_callV (n0 := n2) (as := [.int (xs (Int32.toNatClampNeg (x23_4 + 1))), .int (xs (Int32.toNatClampNeg (x23_4 + 2))), .int 1]) (rest := []) hC (ci := 7) (r := (RX7, TX7, 36)) k44 rfl (fun l hl => m7_link l hl G ρ n2 (xs (Int32.toNatClampNeg (x23_4 + 1))) (xs (Int32.toNatClampNeg (x23_4 + 2))) 1 σ35 _ h) q848 q849 q850 q3 q851 ⟨rfl, hd7_link⟩ (by decide) ⟨(show _ + 0 ≤ 601024 by omega), (show _ + 0 ≤ 7293034 by omega)⟩ (by first | exact Nat.le_of_ble_eq_true rfl | (simp [rv_cat]; done) | (simp (decide := true) [rv_cat, cat_ref, cat_int]; done)) rfl dL_law_653 (fun E σ9 hx => False.elim hx) (fun v68 σ38 ρ38 hp35 hag35 => ?_)
            obtain ⟨e9, r33, e8, h⟩ := hp35
            rw [e8, e9]
            refine xJ.nrm (k' := k + 3) (n' := n + 18) (pc' := 656) (st' := [.int r33]) rfl rfl rfl rfl ?_
            refine x_istore (L' := [(6, .int r33), (5, .int r30), (0, .ref b), (1, .ref (ρ n1)), (2, .ref (ρ n2)), (3, .ref (ρ n3)), (4, .int x23_4)]) hC dL_law_656 (by decide) (by first | rfl | simp (decide := true) [rv_cat, cat_ref, cat_int]) ?_
            refine x_aload_n hC 4 rfl dL_law_658 ?_
            have k45 : hK σ38 n2 = 8 := (hag35 n2 (by rw [k44]; decide)).1.trans k44
            refine x_callV (n0 := n2) (as := []) (rest := []) hC (ci := 7) (r := (RX7, TX7, 36)) k45 rfl (fun l hl => m7_thrown l hl G ρ n2 σ38 _ h) q798 q799 q800 q3 q801 ⟨rfl, hd7_thrown⟩ (by decide) ⟨(show _ + 0 ≤ 601024 by omega), (show _ + 0 ≤ 7293034 by omega)⟩ (by first | exact Nat.le_of_ble_eq_true rfl | (simp [rv_cat]; done) | (simp (decide := true) [rv_cat, cat_ref, cat_int]; done)) rfl dL_law_659 (fun E σ9 hx => False.elim hx) (fun v69 σ39 ρ39 hp36 hag36 => ?_)
            obtain ⟨e9, r34, e8, h⟩ := hp36
            rw [e8, e9]
            refine xJ.nrm (k' := k + 3) (n' := n + 18) (pc' := 662) (st' := [.int r34]) rfl rfl rfl rfl ?_
            refine x_iload hC 1 rfl dL_law_662 ?_
            refine x_icmp_eq (tgt := 669) hC dL_law_664 (by decide) (fun c56 => ?_) (fun c56 => ?_)
            · have h := h.1 c56
              refine x_iload hC 1 rfl dL_law_669 ?_
              refine x_if_ne (tgt := 693) hC dL_law_671 (by decide) (fun c57 => ?_) (fun c57 => ?_)
              · have h := h.1 c57
                refine x_goto (tgt := 1555) hC dL_law_693 (by decide) ?_
                refine x_iinc (v' := x23_4 + 7) (L' := [(4, .int (x23_4 + 7)), (6, .int r33), (5, .int r30), (0, .ref b), (1, .ref (ρ n1)), (2, .ref (ρ n2)), (3, .ref (ρ n3))]) hC 6 rfl dL_law_1555 rfl (by decide) (by first | rfl | simp (decide := true) [rv_cat, cat_ref, cat_int]) ?_
                refine x_goto (tgt := 23) hC dL_law_1558 (by decide) ?_
                refine xJ.sub (L' := [(0, .ref b), (1, .ref (ρ n1)), (2, .ref (ρ n2)), (3, .ref (ρ n3)), (4, .int (x23_4 + 7))]) [3, 4, 5, 6, 0] rfl ?_
                exact ih _ _ _ (show _ + f23 * 1021 ≤ 601024 by omega) (show _ + f23 * 8931 ≤ 7293034 by omega) _ _ h hKK
              · have h := h.2 c57
                refine x_aload_n hC 5 rfl dL_law_674 ?_
                refine x_iconst (v := 0) hC dL_law_675 (by decide) ?_
                obtain ⟨k46, h⟩ := h
                obtain ⟨v70, h⟩ := h
                refine x_lald (a := n3) hC k46 v70 dL_law_676 ?_
                refine x_iload hC 0 rfl dL_law_677 ?_
                refine x_if_eq (tgt := 686) hC dL_law_679 (by decide) (fun c58 => ?_) (fun c58 => ?_)
                · have h := h.1 c58
                  refine x_lconst (v := 0) hC dL_law_686 (by decide) ?_
                  refine x_lcmp hC dL_law_687 ?_
                  refine x_if_eq (tgt := 693) hC dL_law_688 (by decide) (fun c59 => ?_) (fun c59 => ?_)
                  · have h := h.1 c59
                    refine x_goto (tgt := 1555) hC dL_law_693 (by decide) ?_
                    refine x_iinc (v' := x23_4 + 7) (L' := [(4, .int (x23_4 + 7)), (6, .int r33), (5, .int r30), (0, .ref b), (1, .ref (ρ n1)), (2, .ref (ρ n2)), (3, .ref (ρ n3))]) hC 6 rfl dL_law_1555 rfl (by decide) (by first | rfl | simp (decide := true) [rv_cat, cat_ref, cat_int]) ?_
                    refine x_goto (tgt := 23) hC dL_law_1558 (by decide) ?_
                    refine xJ.sub (L' := [(0, .ref b), (1, .ref (ρ n1)), (2, .ref (ρ n2)), (3, .ref (ρ n3)), (4, .int (x23_4 + 7))]) [3, 4, 5, 6, 0] rfl ?_
                    exact ih _ _ _ (show _ + f23 * 1021 ≤ 601024 by omega) (show _ + f23 * 8931 ≤ 7293034 by omega) _ _ h hKK
                  · have h := h.2 c59
                    refine x_iconst (v := 0) hC dL_law_691 (by decide) ?_
                    exact h.elim
                · have h := h.2 c58
                  refine x_lconst (v := 1) hC dL_law_682 (by decide) ?_
                  refine x_goto (tgt := 687) hC dL_law_683 (by decide) ?_
                  refine x_lcmp hC dL_law_687 ?_
                  refine x_if_eq (tgt := 693) hC dL_law_688 (by decide) (fun c60 => ?_) (fun c60 => ?_)
                  · have h := h.1 c60
                    refine x_goto (tgt := 1555) hC dL_law_693 (by decide) ?_
                    refine x_iinc (v' := x23_4 + 7) (L' := [(4, .int (x23_4 + 7)), (6, .int r33), (5, .int r30), (0, .ref b), (1, .ref (ρ n1)), (2, .ref (ρ n2)), (3, .ref (ρ n3))]) hC 6 rfl dL_law_1555 rfl (by decide) (by first | rfl | simp (decide := true) [rv_cat, cat_ref, cat_int]) ?_
                    refine x_goto (tgt := 23) hC dL_law_1558 (by decide) ?_
                    refine xJ.sub (L' := [(0, .ref b), (1, .ref (ρ n1)), (2, .ref (ρ n2)), (3, .ref (ρ n3)), (4, .int (x23_4 + 7))]) [3, 4, 5, 6, 0] rfl ?_
                    exact ih _ _ _ (show _ + f23 * 1021 ≤ 601024 by omega) (show _ + f23 * 8931 ≤ 7293034 by omega) _ _ h hKK
                  · have h := h.2 c60
                    refine x_iconst (v := 0) hC dL_law_691 (by decide) ?_
                    exact h.elim
            · have h := h.2 c56
              refine x_iconst (v := 0) hC dL_law_667 (by decide) ?_
              exact h.elim
        · have h := h.2 c49
          refine x_iconst (v := 1) hC dL_law_615 (by decide) ?_
          refine x_goto (tgt := 620) hC dL_law_616 (by decide) ?_
          refine x_aload_n hC 3 rfl dL_law_620 ?_
          refine x_callSW (as := [.ref (ρ n1), .int (xs (Int32.toNatClampNeg (x23_4 + 1))), .int (xs (Int32.toNatClampNeg (x23_4 + 2))), .int 1, .ref (ρ n3)]) (rest := []) hC (fun l hl => mL_link l hl G ρ n1 (xs (Int32.toNatClampNeg (x23_4 + 1))) (xs (Int32.toNatClampNeg (x23_4 + 2))) 1 n3 τ23 _ h) q434 q435 q0 q436 hdL_link (by decide) ⟨(show _ + 3 ≤ 601024 by omega), (show _ + 18 ≤ 7293034 by omega)⟩ (by first | exact Nat.le_of_ble_eq_true rfl | (simp [rv_cat]; done) | (simp (decide := true) [rv_cat, cat_ref, cat_int]; done)) rfl dL_law_621 (fun E σ9 hx => False.elim hx) (fun v71 σ40 ρ40 hp37 hag37 => ?_)
          obtain ⟨e9, r35, e8, h⟩ := hp37
          rw [e8, e9]
          refine xJ.nrm (k' := k + 3) (n' := n + 18) (pc' := 624) (st' := [.int r35]) rfl rfl rfl rfl ?_
          refine x_istore (L' := [(5, .int r35), (0, .ref b), (1, .ref (ρ n1)), (2, .ref (ρ n2)), (3, .ref (ρ n3)), (4, .int x23_4)]) hC dL_law_624 (by decide) (by first | rfl | simp (decide := true) [rv_cat, cat_ref, cat_int]) ?_
          refine x_aload_n hC 3 rfl dL_law_626 ?_
          refine x_aload_n hC 1 rfl dL_law_627 ?_
          refine x_iload hC 5 rfl dL_law_628 ?_
          refine x_iconst (v := 1) hC dL_law_630 (by decide) ?_
          refine x_iadd hC dL_law_631 ?_
          refine x_sld hC hS v61 dL_law_632 ?_
          refine x_aload_n hC 1 rfl dL_law_633 ?_
          refine x_iload hC 5 rfl dL_law_634 ?_
          refine x_iconst (v := 2) hC dL_law_636 (by decide) ?_
          refine x_iadd hC dL_law_637 ?_
          refine x_sld hC hS v62 dL_law_638 ?_
          refine x_aload_n hC 1 rfl dL_law_639 ?_
          refine x_iload hC 5 rfl dL_law_640 ?_
          refine x_iconst (v := 3) hC dL_law_642 (by decide) ?_
          refine x_iadd hC dL_law_643 ?_
          refine x_sld hC hS v63 dL_law_644 ?_
          refine x_if_eq (tgt := 652) hC dL_law_645 (by decide) (fun c61 => ?_) (fun c61 => ?_)
          · have h := h.1 c61
            refine x_iconst (v := 0) hC dL_law_652 (by decide) ?_
            obtain ⟨k47, h⟩ := h
            refine x_callV (n0 := n2) (as := [.int (xs (Int32.toNatClampNeg (x23_4 + 1))), .int (xs (Int32.toNatClampNeg (x23_4 + 2))), .int 0]) (rest := []) hC (ci := 7) (r := (RX7, TX7, 36)) k47 rfl (fun l hl => m7_link l hl G ρ n2 (xs (Int32.toNatClampNeg (x23_4 + 1))) (xs (Int32.toNatClampNeg (x23_4 + 2))) 0 σ40 _ h) q848 q849 q850 q3 q851 ⟨rfl, hd7_link⟩ (by decide) ⟨(show _ + 0 ≤ 601024 by omega), (show _ + 0 ≤ 7293034 by omega)⟩ (by first | exact Nat.le_of_ble_eq_true rfl | (simp [rv_cat]; done) | (simp (decide := true) [rv_cat, cat_ref, cat_int]; done)) rfl dL_law_653 (fun E σ9 hx => False.elim hx) (fun v72 σ41 ρ41 hp38 hag38 => ?_)
            obtain ⟨e9, r36, e8, h⟩ := hp38
            rw [e8, e9]
            refine xJ.nrm (k' := k + 3) (n' := n + 18) (pc' := 656) (st' := [.int r36]) rfl rfl rfl rfl ?_
            refine x_istore (L' := [(6, .int r36), (5, .int r35), (0, .ref b), (1, .ref (ρ n1)), (2, .ref (ρ n2)), (3, .ref (ρ n3)), (4, .int x23_4)]) hC dL_law_656 (by decide) (by first | rfl | simp (decide := true) [rv_cat, cat_ref, cat_int]) ?_
            refine x_aload_n hC 4 rfl dL_law_658 ?_
            have k48 : hK σ41 n2 = 8 := (hag38 n2 (by rw [k47]; decide)).1.trans k47
            refine x_callV (n0 := n2) (as := []) (rest := []) hC (ci := 7) (r := (RX7, TX7, 36)) k48 rfl (fun l hl => m7_thrown l hl G ρ n2 σ41 _ h) q798 q799 q800 q3 q801 ⟨rfl, hd7_thrown⟩ (by decide) ⟨(show _ + 0 ≤ 601024 by omega), (show _ + 0 ≤ 7293034 by omega)⟩ (by first | exact Nat.le_of_ble_eq_true rfl | (simp [rv_cat]; done) | (simp (decide := true) [rv_cat, cat_ref, cat_int]; done)) rfl dL_law_659 (fun E σ9 hx => False.elim hx) (fun v73 σ42 ρ42 hp39 hag39 => ?_)
            obtain ⟨e9, r37, e8, h⟩ := hp39
            rw [e8, e9]
            refine xJ.nrm (k' := k + 3) (n' := n + 18) (pc' := 662) (st' := [.int r37]) rfl rfl rfl rfl ?_
            refine x_iload hC 1 rfl dL_law_662 ?_
            refine x_icmp_eq (tgt := 669) hC dL_law_664 (by decide) (fun c62 => ?_) (fun c62 => ?_)
            · have h := h.1 c62
              refine x_iload hC 1 rfl dL_law_669 ?_
              refine x_if_ne (tgt := 693) hC dL_law_671 (by decide) (fun c63 => ?_) (fun c63 => ?_)
              · have h := h.1 c63
                refine x_goto (tgt := 1555) hC dL_law_693 (by decide) ?_
                refine x_iinc (v' := x23_4 + 7) (L' := [(4, .int (x23_4 + 7)), (6, .int r36), (5, .int r35), (0, .ref b), (1, .ref (ρ n1)), (2, .ref (ρ n2)), (3, .ref (ρ n3))]) hC 6 rfl dL_law_1555 rfl (by decide) (by first | rfl | simp (decide := true) [rv_cat, cat_ref, cat_int]) ?_
                refine x_goto (tgt := 23) hC dL_law_1558 (by decide) ?_
                refine xJ.sub (L' := [(0, .ref b), (1, .ref (ρ n1)), (2, .ref (ρ n2)), (3, .ref (ρ n3)), (4, .int (x23_4 + 7))]) [3, 4, 5, 6, 0] rfl ?_
                exact ih _ _ _ (show _ + f23 * 1021 ≤ 601024 by omega) (show _ + f23 * 8931 ≤ 7293034 by omega) _ _ h hKK
              · have h := h.2 c63
                refine x_aload_n hC 5 rfl dL_law_674 ?_
                refine x_iconst (v := 0) hC dL_law_675 (by decide) ?_
                obtain ⟨k49, h⟩ := h
                obtain ⟨v74, h⟩ := h
                refine x_lald (a := n3) hC k49 v74 dL_law_676 ?_
                refine x_iload hC 0 rfl dL_law_677 ?_
                refine x_if_eq (tgt := 686) hC dL_law_679 (by decide) (fun c64 => ?_) (fun c64 => ?_)
                · have h := h.1 c64
                  refine x_lconst (v := 0) hC dL_law_686 (by decide) ?_
                  refine x_lcmp hC dL_law_687 ?_
                  refine x_if_eq (tgt := 693) hC dL_law_688 (by decide) (fun c65 => ?_) (fun c65 => ?_)
                  · have h := h.1 c65
                    refine x_goto (tgt := 1555) hC dL_law_693 (by decide) ?_
                    refine x_iinc (v' := x23_4 + 7) (L' := [(4, .int (x23_4 + 7)), (6, .int r36), (5, .int r35), (0, .ref b), (1, .ref (ρ n1)), (2, .ref (ρ n2)), (3, .ref (ρ n3))]) hC 6 rfl dL_law_1555 rfl (by decide) (by first | rfl | simp (decide := true) [rv_cat, cat_ref, cat_int]) ?_
                    refine x_goto (tgt := 23) hC dL_law_1558 (by decide) ?_
                    refine xJ.sub (L' := [(0, .ref b), (1, .ref (ρ n1)), (2, .ref (ρ n2)), (3, .ref (ρ n3)), (4, .int (x23_4 + 7))]) [3, 4, 5, 6, 0] rfl ?_
                    exact ih _ _ _ (show _ + f23 * 1021 ≤ 601024 by omega) (show _ + f23 * 8931 ≤ 7293034 by omega) _ _ h hKK
                  · have h := h.2 c65
                    refine x_iconst (v := 0) hC dL_law_691 (by decide) ?_
                    exact h.elim
                · have h := h.2 c64
                  refine x_lconst (v := 1) hC dL_law_682 (by decide) ?_
                  refine x_goto (tgt := 687) hC dL_law_683 (by decide) ?_
                  refine x_lcmp hC dL_law_687 ?_
                  refine x_if_eq (tgt := 693) hC dL_law_688 (by decide) (fun c66 => ?_) (fun c66 => ?_)
                  · have h := h.1 c66
                    refine x_goto (tgt := 1555) hC dL_law_693 (by decide) ?_
                    refine x_iinc (v' := x23_4 + 7) (L' := [(4, .int (x23_4 + 7)), (6, .int r36), (5, .int r35), (0, .ref b), (1, .ref (ρ n1)), (2, .ref (ρ n2)), (3, .ref (ρ n3))]) hC 6 rfl dL_law_1555 rfl (by decide) (by first | rfl | simp (decide := true) [rv_cat, cat_ref, cat_int]) ?_
                    refine x_goto (tgt := 23) hC dL_law_1558 (by decide) ?_
                    refine xJ.sub (L' := [(0, .ref b), (1, .ref (ρ n1)), (2, .ref (ρ n2)), (3, .ref (ρ n3)), (4, .int (x23_4 + 7))]) [3, 4, 5, 6, 0] rfl ?_
                    exact ih _ _ _ (show _ + f23 * 1021 ≤ 601024 by omega) (show _ + f23 * 8931 ≤ 7293034 by omega) _ _ h hKK
                  · have h := h.2 c66
                    refine x_iconst (v := 0) hC dL_law_691 (by decide) ?_
                    exact h.elim
            · have h := h.2 c62
              refine x_iconst (v := 0) hC dL_law_667 (by decide) ?_
              exact h.elim
          · have h := h.2 c61
            refine x_iconst (v := 1) hC dL_law_648 (by decide) ?_
            refine x_goto (tgt := 653) hC dL_law_649 (by decide) ?_
            obtain ⟨k50, h⟩ := h
            refine x_callV (n0 := n2) (as := [.int (xs (Int32.toNatClampNeg (x23_4 + 1))), .int (xs (Int32.toNatClampNeg (x23_4 + 2))), .int 1]) (rest := []) hC (ci := 7) (r := (RX7, TX7, 36)) k50 rfl (fun l hl => m7_link l hl G ρ n2 (xs (Int32.toNatClampNeg (x23_4 + 1))) (xs (Int32.toNatClampNeg (x23_4 + 2))) 1 σ40 _ h) q848 q849 q850 q3 q851 ⟨rfl, hd7_link⟩ (by decide) ⟨(show _ + 0 ≤ 601024 by omega), (show _ + 0 ≤ 7293034 by omega)⟩ (by first | exact Nat.le_of_ble_eq_true rfl | (simp [rv_cat]; done) | (simp (decide := true) [rv_cat, cat_ref, cat_int]; done)) rfl dL_law_653 (fun E σ9 hx => False.elim hx) (fun v75 σ43 ρ43 hp40 hag40 => ?_)
            obtain ⟨e9, r38, e8, h⟩ := hp40
            rw [e8, e9]
            refine xJ.nrm (k' := k + 3) (n' := n + 18) (pc' := 656) (st' := [.int r38]) rfl rfl rfl rfl ?_
            refine x_istore (L' := [(6, .int r38), (5, .int r35), (0, .ref b), (1, .ref (ρ n1)), (2, .ref (ρ n2)), (3, .ref (ρ n3)), (4, .int x23_4)]) hC dL_law_656 (by decide) (by first | rfl | simp (decide := true) [rv_cat, cat_ref, cat_int]) ?_
            refine x_aload_n hC 4 rfl dL_law_658 ?_
            have k51 : hK σ43 n2 = 8 := (hag40 n2 (by rw [k50]; decide)).1.trans k50
            refine x_callV (n0 := n2) (as := []) (rest := []) hC (ci := 7) (r := (RX7, TX7, 36)) k51 rfl (fun l hl => m7_thrown l hl G ρ n2 σ43 _ h) q798 q799 q800 q3 q801 ⟨rfl, hd7_thrown⟩ (by decide) ⟨(show _ + 0 ≤ 601024 by omega), (show _ + 0 ≤ 7293034 by omega)⟩ (by first | exact Nat.le_of_ble_eq_true rfl | (simp [rv_cat]; done) | (simp (decide := true) [rv_cat, cat_ref, cat_int]; done)) rfl dL_law_659 (fun E σ9 hx => False.elim hx) (fun v76 σ44 ρ44 hp41 hag41 => ?_)
            obtain ⟨e9, r39, e8, h⟩ := hp41
            rw [e8, e9]
            refine xJ.nrm (k' := k + 3) (n' := n + 18) (pc' := 662) (st' := [.int r39]) rfl rfl rfl rfl ?_
            refine x_iload hC 1 rfl dL_law_662 ?_
            refine x_icmp_eq (tgt := 669) hC dL_law_664 (by decide) (fun c67 => ?_) (fun c67 => ?_)
            · have h := h.1 c67
              refine x_iload hC 1 rfl dL_law_669 ?_
              refine x_if_ne (tgt := 693) hC dL_law_671 (by decide) (fun c68 => ?_) (fun c68 => ?_)
              · have h := h.1 c68
                refine x_goto (tgt := 1555) hC dL_law_693 (by decide) ?_
                refine x_iinc (v' := x23_4 + 7) (L' := [(4, .int (x23_4 + 7)), (6, .int r38), (5, .int r35), (0, .ref b), (1, .ref (ρ n1)), (2, .ref (ρ n2)), (3, .ref (ρ n3))]) hC 6 rfl dL_law_1555 rfl (by decide) (by first | rfl | simp (decide := true) [rv_cat, cat_ref, cat_int]) ?_
                refine x_goto (tgt := 23) hC dL_law_1558 (by decide) ?_
                refine xJ.sub (L' := [(0, .ref b), (1, .ref (ρ n1)), (2, .ref (ρ n2)), (3, .ref (ρ n3)), (4, .int (x23_4 + 7))]) [3, 4, 5, 6, 0] rfl ?_
                exact ih _ _ _ (show _ + f23 * 1021 ≤ 601024 by omega) (show _ + f23 * 8931 ≤ 7293034 by omega) _ _ h hKK
              · have h := h.2 c68
                refine x_aload_n hC 5 rfl dL_law_674 ?_
                refine x_iconst (v := 0) hC dL_law_675 (by decide) ?_
                obtain ⟨k52, h⟩ := h
                obtain ⟨v77, h⟩ := h
                refine x_lald (a := n3) hC k52 v77 dL_law_676 ?_
                refine x_iload hC 0 rfl dL_law_677 ?_
                refine x_if_eq (tgt := 686) hC dL_law_679 (by decide) (fun c69 => ?_) (fun c69 => ?_)
                · have h := h.1 c69
                  refine x_lconst (v := 0) hC dL_law_686 (by decide) ?_
                  refine x_lcmp hC dL_law_687 ?_
                  refine x_if_eq (tgt := 693) hC dL_law_688 (by decide) (fun c70 => ?_) (fun c70 => ?_)
                  · have h := h.1 c70
                    refine x_goto (tgt := 1555) hC dL_law_693 (by decide) ?_
                    refine x_iinc (v' := x23_4 + 7) (L' := [(4, .int (x23_4 + 7)), (6, .int r38), (5, .int r35), (0, .ref b), (1, .ref (ρ n1)), (2, .ref (ρ n2)), (3, .ref (ρ n3))]) hC 6 rfl dL_law_1555 rfl (by decide) (by first | rfl | simp (decide := true) [rv_cat, cat_ref, cat_int]) ?_
                    refine x_goto (tgt := 23) hC dL_law_1558 (by decide) ?_
                    refine xJ.sub (L' := [(0, .ref b), (1, .ref (ρ n1)), (2, .ref (ρ n2)), (3, .ref (ρ n3)), (4, .int (x23_4 + 7))]) [3, 4, 5, 6, 0] rfl ?_
                    exact ih _ _ _ (show _ + f23 * 1021 ≤ 601024 by omega) (show _ + f23 * 8931 ≤ 7293034 by omega) _ _ h hKK
                  · have h := h.2 c70
                    refine x_iconst (v := 0) hC dL_law_691 (by decide) ?_
                    exact h.elim
                · have h := h.2 c69
                  refine x_lconst (v := 1) hC dL_law_682 (by decide) ?_
                  refine x_goto (tgt := 687) hC dL_law_683 (by decide) ?_
                  refine x_lcmp hC dL_law_687 ?_
                  refine x_if_eq (tgt := 693) hC dL_law_688 (by decide) (fun c71 => ?_) (fun c71 => ?_)
                  · have h := h.1 c71
                    refine x_goto (tgt := 1555) hC dL_law_693 (by decide) ?_
                    refine x_iinc (v' := x23_4 + 7) (L' := [(4, .int (x23_4 + 7)), (6, .int r38), (5, .int r35), (0, .ref b), (1, .ref (ρ n1)), (2, .ref (ρ n2)), (3, .ref (ρ n3))]) hC 6 rfl dL_law_1555 rfl (by decide) (by first | rfl | simp (decide := true) [rv_cat, cat_ref, cat_int]) ?_
                    refine x_goto (tgt := 23) hC dL_law_1558 (by decide) ?_
                    refine xJ.sub (L' := [(0, .ref b), (1, .ref (ρ n1)), (2, .ref (ρ n2)), (3, .ref (ρ n3)), (4, .int (x23_4 + 7))]) [3, 4, 5, 6, 0] rfl ?_
                    exact ih _ _ _ (show _ + f23 * 1021 ≤ 601024 by omega) (show _ + f23 * 8931 ≤ 7293034 by omega) _ _ h hKK
                  · have h := h.2 c71
                    refine x_iconst (v := 0) hC dL_law_691 (by decide) ?_
                    exact h.elim
            · have h := h.2 c67
              refine x_iconst (v := 0) hC dL_law_667 (by decide) ?_
              exact h.elim
      · have h := h.2.2.2.2.2.2.1 he
        refine x_tabIn (tgt := 696) hC 6 he dL_law_40 (by decide) (by decide) rfl (by decide) ?_
        refine x_aload_n hC 1 rfl dL_law_696 ?_
        refine x_aload_n hC 3 rfl dL_law_697 ?_
        refine x_callSW (as := [.ref (ρ n1), .ref (ρ n3)]) (rest := []) hC (fun l hl => mL_request l hl G ρ n1 n3 τ23 _ h) q447 q448 q0 q449 hdL_request (by decide) ⟨(show _ + 1 ≤ 601024 by omega), (show _ + 6 ≤ 7293034 by omega)⟩ (by first | exact Nat.le_of_ble_eq_true rfl | (simp [rv_cat]; done) | (simp (decide := true) [rv_cat, cat_ref, cat_int]; done)) rfl dL_law_698 (fun E σ9 hx => False.elim hx) (fun v78 σ45 ρ45 hp42 hag42 => ?_)
        obtain ⟨e9, r40, e8, h⟩ := hp42
        rw [e8, e9]
        refine xJ.nrm (k' := k + 1) (n' := n + 6) (pc' := 701) (st' := [.int r40]) rfl rfl rfl rfl ?_
        refine x_istore (L' := [(5, .int r40), (0, .ref b), (1, .ref (ρ n1)), (2, .ref (ρ n2)), (3, .ref (ρ n3)), (4, .int x23_4)]) hC dL_law_701 (by decide) (by first | rfl | simp (decide := true) [rv_cat, cat_ref, cat_int]) ?_
        refine x_aload_n hC 3 rfl dL_law_703 ?_
        obtain ⟨k53, h⟩ := h
        refine x_callV (n0 := n2) (as := []) (rest := []) hC (ci := 7) (r := (RX7, TX7, 36)) k53 rfl (fun l hl => m7_request l hl G ρ n2 σ45 _ h) q852 q853 q854 q3 q855 ⟨rfl, hd7_request⟩ (by decide) ⟨(show _ + 0 ≤ 601024 by omega), (show _ + 0 ≤ 7293034 by omega)⟩ (by first | exact Nat.le_of_ble_eq_true rfl | (simp [rv_cat]; done) | (simp (decide := true) [rv_cat, cat_ref, cat_int]; done)) rfl dL_law_704 (fun E σ9 hx => False.elim hx) (fun v79 σ46 ρ46 hp43 hag43 => ?_)
        obtain ⟨e9, r41, e8, h⟩ := hp43
        rw [e8, e9]
        refine xJ.nrm (k' := k + 1) (n' := n + 6) (pc' := 707) (st' := [.int r41]) rfl rfl rfl rfl ?_
        refine x_istore (L' := [(6, .int r41), (5, .int r40), (0, .ref b), (1, .ref (ρ n1)), (2, .ref (ρ n2)), (3, .ref (ρ n3)), (4, .int x23_4)]) hC dL_law_707 (by decide) (by first | rfl | simp (decide := true) [rv_cat, cat_ref, cat_int]) ?_
        refine x_aload_n hC 4 rfl dL_law_709 ?_
        have k54 : hK σ46 n2 = 8 := (hag43 n2 (by rw [k53]; decide)).1.trans k53
        refine x_callV (n0 := n2) (as := []) (rest := []) hC (ci := 7) (r := (RX7, TX7, 36)) k54 rfl (fun l hl => m7_thrown l hl G ρ n2 σ46 _ h) q798 q799 q800 q3 q801 ⟨rfl, hd7_thrown⟩ (by decide) ⟨(show _ + 0 ≤ 601024 by omega), (show _ + 0 ≤ 7293034 by omega)⟩ (by first | exact Nat.le_of_ble_eq_true rfl | (simp [rv_cat]; done) | (simp (decide := true) [rv_cat, cat_ref, cat_int]; done)) rfl dL_law_710 (fun E σ9 hx => False.elim hx) (fun v80 σ47 ρ47 hp44 hag44 => ?_)
        obtain ⟨e9, r42, e8, h⟩ := hp44
        rw [e8, e9]
        refine xJ.nrm (k' := k + 1) (n' := n + 6) (pc' := 713) (st' := [.int r42]) rfl rfl rfl rfl ?_
        refine x_iload hC 1 rfl dL_law_713 ?_
        refine x_icmp_eq (tgt := 720) hC dL_law_715 (by decide) (fun c72 => ?_) (fun c72 => ?_)
        · have h := h.1 c72
          refine x_iload hC 1 rfl dL_law_720 ?_
          refine x_if_ne (tgt := 737) hC dL_law_722 (by decide) (fun c73 => ?_) (fun c73 => ?_)
          · have h := h.1 c73
            refine x_goto (tgt := 1555) hC dL_law_737 (by decide) ?_
            refine x_iinc (v' := x23_4 + 7) (L' := [(4, .int (x23_4 + 7)), (6, .int r41), (5, .int r40), (0, .ref b), (1, .ref (ρ n1)), (2, .ref (ρ n2)), (3, .ref (ρ n3))]) hC 6 rfl dL_law_1555 rfl (by decide) (by first | rfl | simp (decide := true) [rv_cat, cat_ref, cat_int]) ?_
            refine x_goto (tgt := 23) hC dL_law_1558 (by decide) ?_
            refine xJ.sub (L' := [(0, .ref b), (1, .ref (ρ n1)), (2, .ref (ρ n2)), (3, .ref (ρ n3)), (4, .int (x23_4 + 7))]) [3, 4, 5, 6, 0] rfl ?_
            exact ih _ _ _ (show _ + f23 * 1021 ≤ 601024 by omega) (show _ + f23 * 8931 ≤ 7293034 by omega) _ _ h hKK
          · have h := h.2 c73
            refine x_aload_n hC 5 rfl dL_law_725 ?_
            refine x_iconst (v := 0) hC dL_law_726 (by decide) ?_
            obtain ⟨k55, h⟩ := h
            obtain ⟨v81, h⟩ := h
            refine x_lald (a := n3) hC k55 v81 dL_law_727 ?_
            refine x_iload hC 0 rfl dL_law_728 ?_
            refine x_i2l hC dL_law_730 ?_
            refine x_lcmp hC dL_law_731 ?_
            refine x_if_eq (tgt := 737) hC dL_law_732 (by decide) (fun c74 => ?_) (fun c74 => ?_)
            · have h := h.1 c74
              refine x_goto (tgt := 1555) hC dL_law_737 (by decide) ?_
              refine x_iinc (v' := x23_4 + 7) (L' := [(4, .int (x23_4 + 7)), (6, .int r41), (5, .int r40), (0, .ref b), (1, .ref (ρ n1)), (2, .ref (ρ n2)), (3, .ref (ρ n3))]) hC 6 rfl dL_law_1555 rfl (by decide) (by first | rfl | simp (decide := true) [rv_cat, cat_ref, cat_int]) ?_
              refine x_goto (tgt := 23) hC dL_law_1558 (by decide) ?_
              refine xJ.sub (L' := [(0, .ref b), (1, .ref (ρ n1)), (2, .ref (ρ n2)), (3, .ref (ρ n3)), (4, .int (x23_4 + 7))]) [3, 4, 5, 6, 0] rfl ?_
              exact ih _ _ _ (show _ + f23 * 1021 ≤ 601024 by omega) (show _ + f23 * 8931 ≤ 7293034 by omega) _ _ h hKK
            · have h := h.2 c74
              refine x_iconst (v := 0) hC dL_law_735 (by decide) ?_
              exact h.elim
        · have h := h.2 c72
          refine x_iconst (v := 0) hC dL_law_718 (by decide) ?_
          exact h.elim
      · have h := h.2.2.2.2.2.2.2.1 he
        refine x_tabIn (tgt := 740) hC 7 he dL_law_40 (by decide) (by decide) rfl (by decide) ?_
        refine x_aload_n hC 1 rfl dL_law_740 ?_
        refine x_aload_n hC 0 rfl dL_law_741 ?_
        refine x_iload hC 4 rfl dL_law_742 ?_
        refine x_iconst (v := 1) hC dL_law_744 (by decide) ?_
        refine x_iadd hC dL_law_745 ?_
        obtain ⟨v82, h⟩ := h
        refine x_sld hC hS v82 dL_law_746 ?_
        refine x_aload_n hC 3 rfl dL_law_747 ?_
        obtain ⟨z10, h⟩ := h
        obtain ⟨z11, h⟩ := h
        obtain ⟨z12, h⟩ := h
        refine x_callSW (as := [.ref (ρ n1), .int (xs (Int32.toNatClampNeg (x23_4 + 1))), .ref (ρ n3)]) (rest := []) hC (fun l hl => mL_pass l hl G ρ n1 (xs (Int32.toNatClampNeg (x23_4 + 1))) n3 τ23 _ h) q455 q456 q0 q457 hdL_pass (by decide) ⟨(show _ + 1021 ≤ 601024 by omega), (show _ + 8931 ≤ 7293034 by omega)⟩ (by first | exact Nat.le_of_ble_eq_true rfl | (simp [rv_cat]; done) | (simp (decide := true) [rv_cat, cat_ref, cat_int]; done)) rfl dL_law_748 (fun E σ9 hx => False.elim hx) (fun v83 σ48 ρ48 hp45 hag45 => ?_)
        obtain ⟨r43, e8, h⟩ := hp45
        rw [e8]
        rw [← (hag45 n1 z10).2, ← (hag45 n2 z11).2, ← (hag45 n3 z12).2]
        refine xJ.nrm (k' := k + 1021) (n' := n + 8931) (pc' := 751) (st' := [.int r43]) rfl rfl rfl rfl ?_
        refine x_istore (L' := [(5, .int r43), (0, .ref b), (1, .ref (ρ48 n1)), (2, .ref (ρ48 n2)), (3, .ref (ρ48 n3)), (4, .int x23_4)]) hC dL_law_751 (by decide) (by first | rfl | simp (decide := true) [rv_cat, cat_ref, cat_int]) ?_
        refine x_aload_n hC 3 rfl dL_law_753 ?_
        refine x_aload_n hC 1 rfl dL_law_754 ?_
        refine x_iload hC 5 rfl dL_law_755 ?_
        refine x_iconst (v := 1) hC dL_law_757 (by decide) ?_
        refine x_iadd hC dL_law_758 ?_
        refine x_sld hC hS v82 dL_law_759 ?_
        obtain ⟨k56, h⟩ := h
        refine x_callV (n0 := n2) (as := [.int (xs (Int32.toNatClampNeg (x23_4 + 1)))]) (rest := []) hC (ci := 7) (r := (RX7, TX7, 36)) k56 rfl (fun l hl => m7_pass l hl G ρ48 n2 (xs (Int32.toNatClampNeg (x23_4 + 1))) σ48 _ h) q856 q857 q858 q3 q859 ⟨rfl, hd7_pass⟩ (by decide) ⟨(show _ + 0 ≤ 601024 by omega), (show _ + 0 ≤ 7293034 by omega)⟩ (by first | exact Nat.le_of_ble_eq_true rfl | (simp [rv_cat]; done) | (simp (decide := true) [rv_cat, cat_ref, cat_int]; done)) rfl dL_law_760 (fun E σ9 hx => False.elim hx) (fun v84 σ49 ρ49 hp46 hag46 => ?_)
        obtain ⟨e9, r44, e8, h⟩ := hp46
        rw [e8, e9]
        refine xJ.nrm (k' := k + 1021) (n' := n + 8931) (pc' := 763) (st' := [.int r44]) rfl rfl rfl rfl ?_
        refine x_istore (L' := [(6, .int r44), (5, .int r43), (0, .ref b), (1, .ref (ρ48 n1)), (2, .ref (ρ48 n2)), (3, .ref (ρ48 n3)), (4, .int x23_4)]) hC dL_law_763 (by decide) (by first | rfl | simp (decide := true) [rv_cat, cat_ref, cat_int]) ?_
        refine x_aload_n hC 4 rfl dL_law_765 ?_
        have k57 : hK σ49 n2 = 8 := (hag46 n2 (by rw [k56]; decide)).1.trans k56
        refine x_callV (n0 := n2) (as := []) (rest := []) hC (ci := 7) (r := (RX7, TX7, 36)) k57 rfl (fun l hl => m7_thrown l hl G ρ48 n2 σ49 _ h) q798 q799 q800 q3 q801 ⟨rfl, hd7_thrown⟩ (by decide) ⟨(show _ + 0 ≤ 601024 by omega), (show _ + 0 ≤ 7293034 by omega)⟩ (by first | exact Nat.le_of_ble_eq_true rfl | (simp [rv_cat]; done) | (simp (decide := true) [rv_cat, cat_ref, cat_int]; done)) rfl dL_law_766 (fun E σ9 hx => False.elim hx) (fun v85 σ50 ρ50 hp47 hag47 => ?_)
        obtain ⟨e9, r45, e8, h⟩ := hp47
        rw [e8, e9]
        refine xJ.nrm (k' := k + 1021) (n' := n + 8931) (pc' := 769) (st' := [.int r45]) rfl rfl rfl rfl ?_
        refine x_iload hC 1 rfl dL_law_769 ?_
        refine x_icmp_eq (tgt := 776) hC dL_law_771 (by decide) (fun c75 => ?_) (fun c75 => ?_)
        · have h := h.1 c75
          refine x_iload hC 1 rfl dL_law_776 ?_
          refine x_if_ne (tgt := 793) hC dL_law_778 (by decide) (fun c76 => ?_) (fun c76 => ?_)
          · have h := h.1 c76
            refine x_goto (tgt := 1555) hC dL_law_793 (by decide) ?_
            refine x_iinc (v' := x23_4 + 7) (L' := [(4, .int (x23_4 + 7)), (6, .int r44), (5, .int r43), (0, .ref b), (1, .ref (ρ48 n1)), (2, .ref (ρ48 n2)), (3, .ref (ρ48 n3))]) hC 6 rfl dL_law_1555 rfl (by decide) (by first | rfl | simp (decide := true) [rv_cat, cat_ref, cat_int]) ?_
            refine x_goto (tgt := 23) hC dL_law_1558 (by decide) ?_
            refine xJ.sub (L' := [(0, .ref b), (1, .ref (ρ48 n1)), (2, .ref (ρ48 n2)), (3, .ref (ρ48 n3)), (4, .int (x23_4 + 7))]) [3, 4, 5, 6, 0] rfl ?_
            exact ih _ _ _ (show _ + f23 * 1021 ≤ 601024 by omega) (show _ + f23 * 8931 ≤ 7293034 by omega) _ _ h hKK
          · have h := h.2 c76
            refine x_aload_n hC 5 rfl dL_law_781 ?_
            refine x_iconst (v := 0) hC dL_law_782 (by decide) ?_
            obtain ⟨k58, h⟩ := h
            obtain ⟨v86, h⟩ := h
            refine x_lald (a := n3) hC k58 v86 dL_law_783 ?_
            refine x_iload hC 0 rfl dL_law_784 ?_
            refine x_i2l hC dL_law_786 ?_
            refine x_lcmp hC dL_law_787 ?_
            refine x_if_eq (tgt := 793) hC dL_law_788 (by decide) (fun c77 => ?_) (fun c77 => ?_)
            · have h := h.1 c77
              refine x_goto (tgt := 1555) hC dL_law_793 (by decide) ?_
              refine x_iinc (v' := x23_4 + 7) (L' := [(4, .int (x23_4 + 7)), (6, .int r44), (5, .int r43), (0, .ref b), (1, .ref (ρ48 n1)), (2, .ref (ρ48 n2)), (3, .ref (ρ48 n3))]) hC 6 rfl dL_law_1555 rfl (by decide) (by first | rfl | simp (decide := true) [rv_cat, cat_ref, cat_int]) ?_
              refine x_goto (tgt := 23) hC dL_law_1558 (by decide) ?_
              refine xJ.sub (L' := [(0, .ref b), (1, .ref (ρ48 n1)), (2, .ref (ρ48 n2)), (3, .ref (ρ48 n3)), (4, .int (x23_4 + 7))]) [3, 4, 5, 6, 0] rfl ?_
              exact ih _ _ _ (show _ + f23 * 1021 ≤ 601024 by omega) (show _ + f23 * 8931 ≤ 7293034 by omega) _ _ h hKK
            · have h := h.2 c77
              refine x_iconst (v := 0) hC dL_law_791 (by decide) ?_
              exact h.elim
        · have h := h.2 c75
          refine x_iconst (v := 0) hC dL_law_774 (by decide) ?_
          exact h.elim
      · have h := h.2.2.2.2.2.2.2.2.1 he
        refine x_tabIn (tgt := 796) hC 8 he dL_law_40 (by decide) (by decide) rfl (by decide) ?_
        refine x_aload_n hC 1 rfl dL_law_796 ?_
        obtain ⟨k59, h⟩ := h
        refine x_callV (n0 := n1) (as := []) (rest := []) hC (ci := 6) (r := (RX6, TX6, 9)) k59 rfl (fun l hl => m6_requests l hl G ρ n1 τ23 _ h) q78 q79 q80 q1 q81 ⟨rfl, hd6_requests⟩ (by decide) ⟨(show _ + 0 ≤ 601024 by omega), (show _ + 0 ≤ 7293034 by omega)⟩ (by first | exact Nat.le_of_ble_eq_true rfl | (simp [rv_cat]; done) | (simp (decide := true) [rv_cat, cat_ref, cat_int]; done)) rfl dL_law_797 (fun E σ9 hx => False.elim hx) (fun v87 σ51 ρ51 hp48 hag48 => ?_)
        obtain ⟨e9, r46, e8, h⟩ := hp48
        rw [e8, e9]
        refine xJ.nrm (k' := k + 0) (n' := n + 0) (pc' := 800) (st' := [.int r46]) rfl rfl rfl rfl ?_
        refine x_aload_n hC 2 rfl dL_law_800 ?_
        obtain ⟨k60, h⟩ := h
        refine x_callV (n0 := n2) (as := []) (rest := [.int r46]) hC (ci := 7) (r := (RX7, TX7, 36)) k60 rfl (fun l hl => m7_requests l hl G ρ n2 σ51 _ h) q888 q889 q890 q3 q891 ⟨rfl, hd7_requests⟩ (by decide) ⟨(show _ + 0 ≤ 601024 by omega), (show _ + 0 ≤ 7293034 by omega)⟩ (by first | exact Nat.le_of_ble_eq_true rfl | (simp [rv_cat]; done) | (simp (decide := true) [rv_cat, cat_ref, cat_int]; done)) rfl dL_law_801 (fun E σ9 hx => False.elim hx) (fun v88 σ52 ρ52 hp49 hag49 => ?_)
        obtain ⟨e9, r47, e8, h⟩ := hp49
        rw [e8, e9]
        refine xJ.nrm (k' := k + 0) (n' := n + 0) (pc' := 804) (st' := [.int r47, .int r46]) rfl rfl rfl rfl ?_
        refine x_icmp_eq (tgt := 1555) hC dL_law_804 (by decide) (fun c78 => ?_) (fun c78 => ?_)
        · have h := h.1 c78
          refine x_iinc (v' := x23_4 + 7) (L' := [(4, .int (x23_4 + 7)), (0, .ref b), (1, .ref (ρ n1)), (2, .ref (ρ n2)), (3, .ref (ρ n3))]) hC 4 rfl dL_law_1555 rfl (by decide) (by first | rfl | simp (decide := true) [rv_cat, cat_ref, cat_int]) ?_
          refine x_goto (tgt := 23) hC dL_law_1558 (by decide) ?_
          refine xJ.sub (L' := [(0, .ref b), (1, .ref (ρ n1)), (2, .ref (ρ n2)), (3, .ref (ρ n3)), (4, .int (x23_4 + 7))]) [1, 2, 3, 4, 0] rfl ?_
          exact ih _ _ _ (show _ + f23 * 1021 ≤ 601024 by omega) (show _ + f23 * 8931 ≤ 7293034 by omega) _ _ h hKK
        · have h := h.2 c78
          refine x_iconst (v := 0) hC dL_law_807 (by decide) ?_
          exact h.elim
      · have h := h.2.2.2.2.2.2.2.2.2.1 he
        refine x_tabIn (tgt := 809) hC 9 he dL_law_40 (by decide) (by decide) rfl (by decide) ?_
        refine x_aload_n hC 1 rfl dL_law_809 ?_
        obtain ⟨k61, h⟩ := h
        refine x_callV (n0 := n1) (as := []) (rest := []) hC (ci := 6) (r := (RX6, TX6, 9)) k61 rfl (fun l hl => m6_tick l hl G ρ n1 τ23 _ h) q82 q83 q84 q1 q85 ⟨rfl, hd6_tick⟩ (by decide) ⟨(show _ + 0 ≤ 601024 by omega), (show _ + 0 ≤ 7293034 by omega)⟩ (by first | exact Nat.le_of_ble_eq_true rfl | (simp [rv_cat]; done) | (simp (decide := true) [rv_cat, cat_ref, cat_int]; done)) rfl dL_law_810 (fun E σ9 hx => False.elim hx) (fun v89 σ53 ρ53 hp50 hag50 => ?_)
        obtain ⟨e9, r48, e8, h⟩ := hp50
        rw [e8, e9]
        refine xJ.nrm (k' := k + 0) (n' := n + 0) (pc' := 813) (st' := [.int r48]) rfl rfl rfl rfl ?_
        refine x_aload_n hC 2 rfl dL_law_813 ?_
        obtain ⟨k62, h⟩ := h
        refine x_callV (n0 := n2) (as := []) (rest := [.int r48]) hC (ci := 7) (r := (RX7, TX7, 36)) k62 rfl (fun l hl => m7_tick l hl G ρ n2 σ53 _ h) q892 q893 q894 q3 q895 ⟨rfl, hd7_tick⟩ (by decide) ⟨(show _ + 0 ≤ 601024 by omega), (show _ + 0 ≤ 7293034 by omega)⟩ (by first | exact Nat.le_of_ble_eq_true rfl | (simp [rv_cat]; done) | (simp (decide := true) [rv_cat, cat_ref, cat_int]; done)) rfl dL_law_814 (fun E σ9 hx => False.elim hx) (fun v90 σ54 ρ54 hp51 hag51 => ?_)
        obtain ⟨e9, r49, e8, h⟩ := hp51
        rw [e8, e9]
        refine xJ.nrm (k' := k + 0) (n' := n + 0) (pc' := 817) (st' := [.int r49, .int r48]) rfl rfl rfl rfl ?_
        refine x_icmp_eq (tgt := 1555) hC dL_law_817 (by decide) (fun c79 => ?_) (fun c79 => ?_)
        · have h := h.1 c79
          refine x_iinc (v' := x23_4 + 7) (L' := [(4, .int (x23_4 + 7)), (0, .ref b), (1, .ref (ρ n1)), (2, .ref (ρ n2)), (3, .ref (ρ n3))]) hC 4 rfl dL_law_1555 rfl (by decide) (by first | rfl | simp (decide := true) [rv_cat, cat_ref, cat_int]) ?_
          refine x_goto (tgt := 23) hC dL_law_1558 (by decide) ?_
          refine xJ.sub (L' := [(0, .ref b), (1, .ref (ρ n1)), (2, .ref (ρ n2)), (3, .ref (ρ n3)), (4, .int (x23_4 + 7))]) [1, 2, 3, 4, 0] rfl ?_
          exact ih _ _ _ (show _ + f23 * 1021 ≤ 601024 by omega) (show _ + f23 * 8931 ≤ 7293034 by omega) _ _ h hKK
        · have h := h.2 c79
          refine x_iconst (v := 0) hC dL_law_820 (by decide) ?_
          exact h.elim
      · have h := h.2.2.2.2.2.2.2.2.2.2.1 he
        refine x_tabIn (tgt := 822) hC 10 he dL_law_40 (by decide) (by decide) rfl (by decide) ?_
        refine x_aload_n hC 1 rfl dL_law_822 ?_
        refine x_aload_n hC 0 rfl dL_law_823 ?_
        refine x_iload hC 4 rfl dL_law_824 ?_
        refine x_iconst (v := 1) hC dL_law_826 (by decide) ?_
        refine x_iadd hC dL_law_827 ?_
        obtain ⟨v91, h⟩ := h
        refine x_sld hC hS v91 dL_law_828 ?_
        refine x_aload_n hC 0 rfl dL_law_829 ?_
        refine x_iload hC 4 rfl dL_law_830 ?_
        refine x_iconst (v := 2) hC dL_law_832 (by decide) ?_
        refine x_iadd hC dL_law_833 ?_
        obtain ⟨v92, h⟩ := h
        refine x_sld hC hS v92 dL_law_834 ?_
        refine x_aload_n hC 3 rfl dL_law_835 ?_
        refine x_callSW (as := [.ref (ρ n1), .int (xs (Int32.toNatClampNeg (x23_4 + 1))), .int (xs (Int32.toNatClampNeg (x23_4 + 2))), .ref (ρ n3)]) (rest := []) hC (fun l hl => mL_acknowledge l hl G ρ n1 (xs (Int32.toNatClampNeg (x23_4 + 1))) (xs (Int32.toNatClampNeg (x23_4 + 2))) n3 τ23 _ h) q561 q562 q0 q563 hdL_acknowledge (by decide) ⟨(show _ + 1 ≤ 601024 by omega), (show _ + 6 ≤ 7293034 by omega)⟩ (by first | exact Nat.le_of_ble_eq_true rfl | (simp [rv_cat]; done) | (simp (decide := true) [rv_cat, cat_ref, cat_int]; done)) rfl dL_law_836 (fun E σ9 hx => False.elim hx) (fun v93 σ55 ρ55 hp52 hag52 => ?_)
        obtain ⟨e9, r50, e8, h⟩ := hp52
        rw [e8, e9]
        refine xJ.nrm (k' := k + 1) (n' := n + 6) (pc' := 839) (st' := [.int r50]) rfl rfl rfl rfl ?_
        refine x_istore (L' := [(5, .int r50), (0, .ref b), (1, .ref (ρ n1)), (2, .ref (ρ n2)), (3, .ref (ρ n3)), (4, .int x23_4)]) hC dL_law_839 (by decide) (by first | rfl | simp (decide := true) [rv_cat, cat_ref, cat_int]) ?_
        refine x_aload_n hC 3 rfl dL_law_841 ?_
        refine x_aload_n hC 1 rfl dL_law_842 ?_
        refine x_iload hC 5 rfl dL_law_843 ?_
        refine x_iconst (v := 1) hC dL_law_845 (by decide) ?_
        refine x_iadd hC dL_law_846 ?_
        refine x_sld hC hS v91 dL_law_847 ?_
        refine x_aload_n hC 1 rfl dL_law_848 ?_
        refine x_iload hC 5 rfl dL_law_849 ?_
        refine x_iconst (v := 2) hC dL_law_851 (by decide) ?_
        refine x_iadd hC dL_law_852 ?_
        refine x_sld hC hS v92 dL_law_853 ?_
        obtain ⟨k63, h⟩ := h
        refine x_callV (n0 := n2) (as := [.int (xs (Int32.toNatClampNeg (x23_4 + 1))), .int (xs (Int32.toNatClampNeg (x23_4 + 2)))]) (rest := []) hC (ci := 7) (r := (RX7, TX7, 36)) k63 rfl (fun l hl => m7_acknowledge l hl G ρ n2 (xs (Int32.toNatClampNeg (x23_4 + 1))) (xs (Int32.toNatClampNeg (x23_4 + 2))) σ55 _ h) q896 q897 q898 q3 q899 ⟨rfl, hd7_acknowledge⟩ (by decide) ⟨(show _ + 0 ≤ 601024 by omega), (show _ + 0 ≤ 7293034 by omega)⟩ (by first | exact Nat.le_of_ble_eq_true rfl | (simp [rv_cat]; done) | (simp (decide := true) [rv_cat, cat_ref, cat_int]; done)) rfl dL_law_854 (fun E σ9 hx => False.elim hx) (fun v94 σ56 ρ56 hp53 hag53 => ?_)
        obtain ⟨e9, r51, e8, h⟩ := hp53
        rw [e8, e9]
        refine xJ.nrm (k' := k + 1) (n' := n + 6) (pc' := 857) (st' := [.int r51]) rfl rfl rfl rfl ?_
        refine x_istore (L' := [(6, .int r51), (5, .int r50), (0, .ref b), (1, .ref (ρ n1)), (2, .ref (ρ n2)), (3, .ref (ρ n3)), (4, .int x23_4)]) hC dL_law_857 (by decide) (by first | rfl | simp (decide := true) [rv_cat, cat_ref, cat_int]) ?_
        refine x_aload_n hC 4 rfl dL_law_859 ?_
        have k64 : hK σ56 n2 = 8 := (hag53 n2 (by rw [k63]; decide)).1.trans k63
        refine x_callV (n0 := n2) (as := []) (rest := []) hC (ci := 7) (r := (RX7, TX7, 36)) k64 rfl (fun l hl => m7_thrown l hl G ρ n2 σ56 _ h) q798 q799 q800 q3 q801 ⟨rfl, hd7_thrown⟩ (by decide) ⟨(show _ + 0 ≤ 601024 by omega), (show _ + 0 ≤ 7293034 by omega)⟩ (by first | exact Nat.le_of_ble_eq_true rfl | (simp [rv_cat]; done) | (simp (decide := true) [rv_cat, cat_ref, cat_int]; done)) rfl dL_law_860 (fun E σ9 hx => False.elim hx) (fun v95 σ57 ρ57 hp54 hag54 => ?_)
        obtain ⟨e9, r52, e8, h⟩ := hp54
        rw [e8, e9]
        refine xJ.nrm (k' := k + 1) (n' := n + 6) (pc' := 863) (st' := [.int r52]) rfl rfl rfl rfl ?_
        refine x_iload hC 1 rfl dL_law_863 ?_
        refine x_icmp_eq (tgt := 870) hC dL_law_865 (by decide) (fun c80 => ?_) (fun c80 => ?_)
        · have h := h.1 c80
          refine x_iload hC 1 rfl dL_law_870 ?_
          refine x_if_ne (tgt := 894) hC dL_law_872 (by decide) (fun c81 => ?_) (fun c81 => ?_)
          · have h := h.1 c81
            refine x_goto (tgt := 1555) hC dL_law_894 (by decide) ?_
            refine x_iinc (v' := x23_4 + 7) (L' := [(4, .int (x23_4 + 7)), (6, .int r51), (5, .int r50), (0, .ref b), (1, .ref (ρ n1)), (2, .ref (ρ n2)), (3, .ref (ρ n3))]) hC 6 rfl dL_law_1555 rfl (by decide) (by first | rfl | simp (decide := true) [rv_cat, cat_ref, cat_int]) ?_
            refine x_goto (tgt := 23) hC dL_law_1558 (by decide) ?_
            refine xJ.sub (L' := [(0, .ref b), (1, .ref (ρ n1)), (2, .ref (ρ n2)), (3, .ref (ρ n3)), (4, .int (x23_4 + 7))]) [3, 4, 5, 6, 0] rfl ?_
            exact ih _ _ _ (show _ + f23 * 1021 ≤ 601024 by omega) (show _ + f23 * 8931 ≤ 7293034 by omega) _ _ h hKK
          · have h := h.2 c81
            refine x_aload_n hC 5 rfl dL_law_875 ?_
            refine x_iconst (v := 0) hC dL_law_876 (by decide) ?_
            obtain ⟨k65, h⟩ := h
            obtain ⟨v96, h⟩ := h
            refine x_lald (a := n3) hC k65 v96 dL_law_877 ?_
            refine x_iload hC 0 rfl dL_law_878 ?_
            refine x_if_eq (tgt := 887) hC dL_law_880 (by decide) (fun c82 => ?_) (fun c82 => ?_)
            · have h := h.1 c82
              refine x_lconst (v := 0) hC dL_law_887 (by decide) ?_
              refine x_lcmp hC dL_law_888 ?_
              refine x_if_eq (tgt := 894) hC dL_law_889 (by decide) (fun c83 => ?_) (fun c83 => ?_)
              · have h := h.1 c83
                refine x_goto (tgt := 1555) hC dL_law_894 (by decide) ?_
                refine x_iinc (v' := x23_4 + 7) (L' := [(4, .int (x23_4 + 7)), (6, .int r51), (5, .int r50), (0, .ref b), (1, .ref (ρ n1)), (2, .ref (ρ n2)), (3, .ref (ρ n3))]) hC 6 rfl dL_law_1555 rfl (by decide) (by first | rfl | simp (decide := true) [rv_cat, cat_ref, cat_int]) ?_
                refine x_goto (tgt := 23) hC dL_law_1558 (by decide) ?_
                refine xJ.sub (L' := [(0, .ref b), (1, .ref (ρ n1)), (2, .ref (ρ n2)), (3, .ref (ρ n3)), (4, .int (x23_4 + 7))]) [3, 4, 5, 6, 0] rfl ?_
                exact ih _ _ _ (show _ + f23 * 1021 ≤ 601024 by omega) (show _ + f23 * 8931 ≤ 7293034 by omega) _ _ h hKK
              · have h := h.2 c83
                refine x_iconst (v := 0) hC dL_law_892 (by decide) ?_
                exact h.elim
            · have h := h.2 c82
              refine x_lconst (v := 1) hC dL_law_883 (by decide) ?_
              refine x_goto (tgt := 888) hC dL_law_884 (by decide) ?_
              refine x_lcmp hC dL_law_888 ?_
              refine x_if_eq (tgt := 894) hC dL_law_889 (by decide) (fun c84 => ?_) (fun c84 => ?_)
              · have h := h.1 c84
                refine x_goto (tgt := 1555) hC dL_law_894 (by decide) ?_
                refine x_iinc (v' := x23_4 + 7) (L' := [(4, .int (x23_4 + 7)), (6, .int r51), (5, .int r50), (0, .ref b), (1, .ref (ρ n1)), (2, .ref (ρ n2)), (3, .ref (ρ n3))]) hC 6 rfl dL_law_1555 rfl (by decide) (by first | rfl | simp (decide := true) [rv_cat, cat_ref, cat_int]) ?_
                refine x_goto (tgt := 23) hC dL_law_1558 (by decide) ?_
                refine xJ.sub (L' := [(0, .ref b), (1, .ref (ρ n1)), (2, .ref (ρ n2)), (3, .ref (ρ n3)), (4, .int (x23_4 + 7))]) [3, 4, 5, 6, 0] rfl ?_
                exact ih _ _ _ (show _ + f23 * 1021 ≤ 601024 by omega) (show _ + f23 * 8931 ≤ 7293034 by omega) _ _ h hKK
              · have h := h.2 c84
                refine x_iconst (v := 0) hC dL_law_892 (by decide) ?_
                exact h.elim
        · have h := h.2 c80
          refine x_iconst (v := 0) hC dL_law_868 (by decide) ?_
          exact h.elim
      · have h := h.2.2.2.2.2.2.2.2.2.2.2.1 he
        refine x_tabIn (tgt := 897) hC 11 he dL_law_40 (by decide) (by decide) rfl (by decide) ?_
        refine x_aload_n hC 1 rfl dL_law_897 ?_
        refine x_aload_n hC 0 rfl dL_law_898 ?_
        refine x_iload hC 4 rfl dL_law_899 ?_
        refine x_iconst (v := 1) hC dL_law_901 (by decide) ?_
        refine x_iadd hC dL_law_902 ?_
        obtain ⟨v97, h⟩ := h
        refine x_sld hC hS v97 dL_law_903 ?_
        refine x_aload_n hC 0 rfl dL_law_904 ?_
        refine x_iload hC 4 rfl dL_law_905 ?_
        refine x_iconst (v := 2) hC dL_law_907 (by decide) ?_
        refine x_iadd hC dL_law_908 ?_
        obtain ⟨v98, h⟩ := h
        refine x_sld hC hS v98 dL_law_909 ?_
        refine x_aload_n hC 3 rfl dL_law_910 ?_
        refine x_callSW (as := [.ref (ρ n1), .int (xs (Int32.toNatClampNeg (x23_4 + 1))), .int (xs (Int32.toNatClampNeg (x23_4 + 2))), .ref (ρ n3)]) (rest := []) hC (fun l hl => mL_size l hl G ρ n1 (xs (Int32.toNatClampNeg (x23_4 + 1))) (xs (Int32.toNatClampNeg (x23_4 + 2))) n3 τ23 _ h) q573 q574 q0 q575 hdL_size (by decide) ⟨(show _ + 1 ≤ 601024 by omega), (show _ + 6 ≤ 7293034 by omega)⟩ (by first | exact Nat.le_of_ble_eq_true rfl | (simp [rv_cat]; done) | (simp (decide := true) [rv_cat, cat_ref, cat_int]; done)) rfl dL_law_911 (fun E σ9 hx => False.elim hx) (fun v99 σ58 ρ58 hp55 hag55 => ?_)
        obtain ⟨e9, r53, e8, h⟩ := hp55
        rw [e8, e9]
        refine xJ.nrm (k' := k + 1) (n' := n + 6) (pc' := 914) (st' := [.int r53]) rfl rfl rfl rfl ?_
        refine x_istore (L' := [(5, .int r53), (0, .ref b), (1, .ref (ρ n1)), (2, .ref (ρ n2)), (3, .ref (ρ n3)), (4, .int x23_4)]) hC dL_law_914 (by decide) (by first | rfl | simp (decide := true) [rv_cat, cat_ref, cat_int]) ?_
        refine x_aload_n hC 3 rfl dL_law_916 ?_
        refine x_aload_n hC 1 rfl dL_law_917 ?_
        refine x_iload hC 5 rfl dL_law_918 ?_
        refine x_iconst (v := 1) hC dL_law_920 (by decide) ?_
        refine x_iadd hC dL_law_921 ?_
        refine x_sld hC hS v97 dL_law_922 ?_
        refine x_aload_n hC 1 rfl dL_law_923 ?_
        refine x_iload hC 5 rfl dL_law_924 ?_
        refine x_iconst (v := 2) hC dL_law_926 (by decide) ?_
        refine x_iadd hC dL_law_927 ?_
        refine x_sld hC hS v98 dL_law_928 ?_
        obtain ⟨k66, h⟩ := h
        refine x_callV (n0 := n2) (as := [.int (xs (Int32.toNatClampNeg (x23_4 + 1))), .int (xs (Int32.toNatClampNeg (x23_4 + 2)))]) (rest := []) hC (ci := 7) (r := (RX7, TX7, 36)) k66 rfl (fun l hl => m7_size l hl G ρ n2 (xs (Int32.toNatClampNeg (x23_4 + 1))) (xs (Int32.toNatClampNeg (x23_4 + 2))) σ58 _ h) q908 q909 q910 q3 q911 ⟨rfl, hd7_size⟩ (by decide) ⟨(show _ + 0 ≤ 601024 by omega), (show _ + 0 ≤ 7293034 by omega)⟩ (by first | exact Nat.le_of_ble_eq_true rfl | (simp [rv_cat]; done) | (simp (decide := true) [rv_cat, cat_ref, cat_int]; done)) rfl dL_law_929 (fun E σ9 hx => False.elim hx) (fun v100 σ59 ρ59 hp56 hag56 => ?_)
        obtain ⟨e9, r54, e8, h⟩ := hp56
        rw [e8, e9]
        refine xJ.nrm (k' := k + 1) (n' := n + 6) (pc' := 932) (st' := [.int r54]) rfl rfl rfl rfl ?_
        refine x_istore (L' := [(6, .int r54), (5, .int r53), (0, .ref b), (1, .ref (ρ n1)), (2, .ref (ρ n2)), (3, .ref (ρ n3)), (4, .int x23_4)]) hC dL_law_932 (by decide) (by first | rfl | simp (decide := true) [rv_cat, cat_ref, cat_int]) ?_
        refine x_aload_n hC 4 rfl dL_law_934 ?_
        have k67 : hK σ59 n2 = 8 := (hag56 n2 (by rw [k66]; decide)).1.trans k66
        refine x_callV (n0 := n2) (as := []) (rest := []) hC (ci := 7) (r := (RX7, TX7, 36)) k67 rfl (fun l hl => m7_thrown l hl G ρ n2 σ59 _ h) q798 q799 q800 q3 q801 ⟨rfl, hd7_thrown⟩ (by decide) ⟨(show _ + 0 ≤ 601024 by omega), (show _ + 0 ≤ 7293034 by omega)⟩ (by first | exact Nat.le_of_ble_eq_true rfl | (simp [rv_cat]; done) | (simp (decide := true) [rv_cat, cat_ref, cat_int]; done)) rfl dL_law_935 (fun E σ9 hx => False.elim hx) (fun v101 σ60 ρ60 hp57 hag57 => ?_)
        obtain ⟨e9, r55, e8, h⟩ := hp57
        rw [e8, e9]
        refine xJ.nrm (k' := k + 1) (n' := n + 6) (pc' := 938) (st' := [.int r55]) rfl rfl rfl rfl ?_
        refine x_iload hC 1 rfl dL_law_938 ?_
        refine x_icmp_eq (tgt := 945) hC dL_law_940 (by decide) (fun c85 => ?_) (fun c85 => ?_)
        · have h := h.1 c85
          refine x_iload hC 1 rfl dL_law_945 ?_
          refine x_if_ne (tgt := 962) hC dL_law_947 (by decide) (fun c86 => ?_) (fun c86 => ?_)
          · have h := h.1 c86
            refine x_goto (tgt := 1555) hC dL_law_962 (by decide) ?_
            refine x_iinc (v' := x23_4 + 7) (L' := [(4, .int (x23_4 + 7)), (6, .int r54), (5, .int r53), (0, .ref b), (1, .ref (ρ n1)), (2, .ref (ρ n2)), (3, .ref (ρ n3))]) hC 6 rfl dL_law_1555 rfl (by decide) (by first | rfl | simp (decide := true) [rv_cat, cat_ref, cat_int]) ?_
            refine x_goto (tgt := 23) hC dL_law_1558 (by decide) ?_
            refine xJ.sub (L' := [(0, .ref b), (1, .ref (ρ n1)), (2, .ref (ρ n2)), (3, .ref (ρ n3)), (4, .int (x23_4 + 7))]) [3, 4, 5, 6, 0] rfl ?_
            exact ih _ _ _ (show _ + f23 * 1021 ≤ 601024 by omega) (show _ + f23 * 8931 ≤ 7293034 by omega) _ _ h hKK
          · have h := h.2 c86
            refine x_aload_n hC 5 rfl dL_law_950 ?_
            refine x_iconst (v := 0) hC dL_law_951 (by decide) ?_
            obtain ⟨k68, h⟩ := h
            obtain ⟨v102, h⟩ := h
            refine x_lald (a := n3) hC k68 v102 dL_law_952 ?_
            refine x_iload hC 0 rfl dL_law_953 ?_
            refine x_i2l hC dL_law_955 ?_
            refine x_lcmp hC dL_law_956 ?_
            refine x_if_eq (tgt := 962) hC dL_law_957 (by decide) (fun c87 => ?_) (fun c87 => ?_)
            · have h := h.1 c87
              refine x_goto (tgt := 1555) hC dL_law_962 (by decide) ?_
              refine x_iinc (v' := x23_4 + 7) (L' := [(4, .int (x23_4 + 7)), (6, .int r54), (5, .int r53), (0, .ref b), (1, .ref (ρ n1)), (2, .ref (ρ n2)), (3, .ref (ρ n3))]) hC 6 rfl dL_law_1555 rfl (by decide) (by first | rfl | simp (decide := true) [rv_cat, cat_ref, cat_int]) ?_
              refine x_goto (tgt := 23) hC dL_law_1558 (by decide) ?_
              refine xJ.sub (L' := [(0, .ref b), (1, .ref (ρ n1)), (2, .ref (ρ n2)), (3, .ref (ρ n3)), (4, .int (x23_4 + 7))]) [3, 4, 5, 6, 0] rfl ?_
              exact ih _ _ _ (show _ + f23 * 1021 ≤ 601024 by omega) (show _ + f23 * 8931 ≤ 7293034 by omega) _ _ h hKK
            · have h := h.2 c87
              refine x_iconst (v := 0) hC dL_law_960 (by decide) ?_
              exact h.elim
        · have h := h.2 c85
          refine x_iconst (v := 0) hC dL_law_943 (by decide) ?_
          exact h.elim
      · have h := h.2.2.2.2.2.2.2.2.2.2.2.2.1 he
        refine x_tabIn (tgt := 965) hC 12 he dL_law_40 (by decide) (by decide) rfl (by decide) ?_
        refine x_aload_n hC 1 rfl dL_law_965 ?_
        refine x_aload_n hC 0 rfl dL_law_966 ?_
        refine x_iload hC 4 rfl dL_law_967 ?_
        refine x_iconst (v := 1) hC dL_law_969 (by decide) ?_
        refine x_iadd hC dL_law_970 ?_
        obtain ⟨v103, h⟩ := h
        refine x_sld hC hS v103 dL_law_971 ?_
        refine x_aload_n hC 0 rfl dL_law_972 ?_
        refine x_iload hC 4 rfl dL_law_973 ?_
        refine x_iconst (v := 2) hC dL_law_975 (by decide) ?_
        refine x_iadd hC dL_law_976 ?_
        obtain ⟨v104, h⟩ := h
        refine x_sld hC hS v104 dL_law_977 ?_
        refine x_aload_n hC 0 rfl dL_law_978 ?_
        refine x_iload hC 4 rfl dL_law_979 ?_
        refine x_iconst (v := 3) hC dL_law_981 (by decide) ?_
        refine x_iadd hC dL_law_982 ?_
        obtain ⟨v105, h⟩ := h
        refine x_sld hC hS v105 dL_law_983 ?_
        refine x_aload_n hC 3 rfl dL_law_984 ?_
        refine x_callSW (as := [.ref (ρ n1), .int (xs (Int32.toNatClampNeg (x23_4 + 1))), .int (xs (Int32.toNatClampNeg (x23_4 + 2))), .int (xs (Int32.toNatClampNeg (x23_4 + 3))), .ref (ρ n3)]) (rest := []) hC (fun l hl => mL_valueAt l hl G ρ n1 (xs (Int32.toNatClampNeg (x23_4 + 1))) (xs (Int32.toNatClampNeg (x23_4 + 2))) (xs (Int32.toNatClampNeg (x23_4 + 3))) n3 τ23 _ h) q585 q586 q0 q587 hdL_valueAt (by decide) ⟨(show _ + 2 ≤ 601024 by omega), (show _ + 12 ≤ 7293034 by omega)⟩ (by first | exact Nat.le_of_ble_eq_true rfl | (simp [rv_cat]; done) | (simp (decide := true) [rv_cat, cat_ref, cat_int]; done)) rfl dL_law_985 (fun E σ9 hx => False.elim hx) (fun v106 σ61 ρ61 hp58 hag58 => ?_)
        obtain ⟨e9, r56, e8, h⟩ := hp58
        rw [e8, e9]
        refine xJ.nrm (k' := k + 2) (n' := n + 12) (pc' := 988) (st' := [.int r56]) rfl rfl rfl rfl ?_
        refine x_istore (L' := [(5, .int r56), (0, .ref b), (1, .ref (ρ n1)), (2, .ref (ρ n2)), (3, .ref (ρ n3)), (4, .int x23_4)]) hC dL_law_988 (by decide) (by first | rfl | simp (decide := true) [rv_cat, cat_ref, cat_int]) ?_
        refine x_aload_n hC 3 rfl dL_law_990 ?_
        refine x_aload_n hC 1 rfl dL_law_991 ?_
        refine x_iload hC 5 rfl dL_law_992 ?_
        refine x_iconst (v := 1) hC dL_law_994 (by decide) ?_
        refine x_iadd hC dL_law_995 ?_
        refine x_sld hC hS v103 dL_law_996 ?_
        refine x_aload_n hC 1 rfl dL_law_997 ?_
        refine x_iload hC 5 rfl dL_law_998 ?_
        refine x_iconst (v := 2) hC dL_law_1000 (by decide) ?_
        refine x_iadd hC dL_law_1001 ?_
        refine x_sld hC hS v104 dL_law_1002 ?_
        refine x_aload_n hC 1 rfl dL_law_1003 ?_
        refine x_iload hC 5 rfl dL_law_1004 ?_
        refine x_iconst (v := 3) hC dL_law_1006 (by decide) ?_
        refine x_iadd hC dL_law_1007 ?_
        refine x_sld hC hS v105 dL_law_1008 ?_
        obtain ⟨k69, h⟩ := h
        refine x_callV (n0 := n2) (as := [.int (xs (Int32.toNatClampNeg (x23_4 + 1))), .int (xs (Int32.toNatClampNeg (x23_4 + 2))), .int (xs (Int32.toNatClampNeg (x23_4 + 3)))]) (rest := []) hC (ci := 7) (r := (RX7, TX7, 36)) k69 rfl (fun l hl => m7_valueAt l hl G ρ n2 (xs (Int32.toNatClampNeg (x23_4 + 1))) (xs (Int32.toNatClampNeg (x23_4 + 2))) (xs (Int32.toNatClampNeg (x23_4 + 3))) σ61 _ h) q912 q913 q914 q3 q915 ⟨rfl, hd7_valueAt⟩ (by decide) ⟨(show _ + 0 ≤ 601024 by omega), (show _ + 0 ≤ 7293034 by omega)⟩ (by first | exact Nat.le_of_ble_eq_true rfl | (simp [rv_cat]; done) | (simp (decide := true) [rv_cat, cat_ref, cat_int]; done)) rfl dL_law_1009 (fun E σ9 hx => False.elim hx) (fun v107 σ62 ρ62 hp59 hag59 => ?_)
        obtain ⟨e9, r57, e8, h⟩ := hp59
        rw [e8, e9]
        refine xJ.nrm (k' := k + 2) (n' := n + 12) (pc' := 1012) (st' := [.int r57]) rfl rfl rfl rfl ?_
        refine x_istore (L' := [(6, .int r57), (5, .int r56), (0, .ref b), (1, .ref (ρ n1)), (2, .ref (ρ n2)), (3, .ref (ρ n3)), (4, .int x23_4)]) hC dL_law_1012 (by decide) (by first | rfl | simp (decide := true) [rv_cat, cat_ref, cat_int]) ?_
        refine x_aload_n hC 4 rfl dL_law_1014 ?_
        have k70 : hK σ62 n2 = 8 := (hag59 n2 (by rw [k69]; decide)).1.trans k69
        refine x_callV (n0 := n2) (as := []) (rest := []) hC (ci := 7) (r := (RX7, TX7, 36)) k70 rfl (fun l hl => m7_thrown l hl G ρ n2 σ62 _ h) q798 q799 q800 q3 q801 ⟨rfl, hd7_thrown⟩ (by decide) ⟨(show _ + 0 ≤ 601024 by omega), (show _ + 0 ≤ 7293034 by omega)⟩ (by first | exact Nat.le_of_ble_eq_true rfl | (simp [rv_cat]; done) | (simp (decide := true) [rv_cat, cat_ref, cat_int]; done)) rfl dL_law_1015 (fun E σ9 hx => False.elim hx) (fun v108 σ63 ρ63 hp60 hag60 => ?_)
        obtain ⟨e9, r58, e8, h⟩ := hp60
        rw [e8, e9]
        refine xJ.nrm (k' := k + 2) (n' := n + 12) (pc' := 1018) (st' := [.int r58]) rfl rfl rfl rfl ?_
        refine x_iload hC 1 rfl dL_law_1018 ?_
        refine x_icmp_eq (tgt := 1025) hC dL_law_1020 (by decide) (fun c88 => ?_) (fun c88 => ?_)
        · have h := h.1 c88
          refine x_iload hC 1 rfl dL_law_1025 ?_
          refine x_if_ne (tgt := 1042) hC dL_law_1027 (by decide) (fun c89 => ?_) (fun c89 => ?_)
          · have h := h.1 c89
            refine x_goto (tgt := 1555) hC dL_law_1042 (by decide) ?_
            refine x_iinc (v' := x23_4 + 7) (L' := [(4, .int (x23_4 + 7)), (6, .int r57), (5, .int r56), (0, .ref b), (1, .ref (ρ n1)), (2, .ref (ρ n2)), (3, .ref (ρ n3))]) hC 6 rfl dL_law_1555 rfl (by decide) (by first | rfl | simp (decide := true) [rv_cat, cat_ref, cat_int]) ?_
            refine x_goto (tgt := 23) hC dL_law_1558 (by decide) ?_
            refine xJ.sub (L' := [(0, .ref b), (1, .ref (ρ n1)), (2, .ref (ρ n2)), (3, .ref (ρ n3)), (4, .int (x23_4 + 7))]) [3, 4, 5, 6, 0] rfl ?_
            exact ih _ _ _ (show _ + f23 * 1021 ≤ 601024 by omega) (show _ + f23 * 8931 ≤ 7293034 by omega) _ _ h hKK
          · have h := h.2 c89
            refine x_aload_n hC 5 rfl dL_law_1030 ?_
            refine x_iconst (v := 0) hC dL_law_1031 (by decide) ?_
            obtain ⟨k71, h⟩ := h
            obtain ⟨v109, h⟩ := h
            refine x_lald (a := n3) hC k71 v109 dL_law_1032 ?_
            refine x_iload hC 0 rfl dL_law_1033 ?_
            refine x_i2l hC dL_law_1035 ?_
            refine x_lcmp hC dL_law_1036 ?_
            refine x_if_eq (tgt := 1042) hC dL_law_1037 (by decide) (fun c90 => ?_) (fun c90 => ?_)
            · have h := h.1 c90
              refine x_goto (tgt := 1555) hC dL_law_1042 (by decide) ?_
              refine x_iinc (v' := x23_4 + 7) (L' := [(4, .int (x23_4 + 7)), (6, .int r57), (5, .int r56), (0, .ref b), (1, .ref (ρ n1)), (2, .ref (ρ n2)), (3, .ref (ρ n3))]) hC 6 rfl dL_law_1555 rfl (by decide) (by first | rfl | simp (decide := true) [rv_cat, cat_ref, cat_int]) ?_
              refine x_goto (tgt := 23) hC dL_law_1558 (by decide) ?_
              refine xJ.sub (L' := [(0, .ref b), (1, .ref (ρ n1)), (2, .ref (ρ n2)), (3, .ref (ρ n3)), (4, .int (x23_4 + 7))]) [3, 4, 5, 6, 0] rfl ?_
              exact ih _ _ _ (show _ + f23 * 1021 ≤ 601024 by omega) (show _ + f23 * 8931 ≤ 7293034 by omega) _ _ h hKK
            · have h := h.2 c90
              refine x_iconst (v := 0) hC dL_law_1040 (by decide) ?_
              exact h.elim
        · have h := h.2 c88
          refine x_iconst (v := 0) hC dL_law_1023 (by decide) ?_
          exact h.elim
      · have h := h.2.2.2.2.2.2.2.2.2.2.2.2.2.1 he
        refine x_tabIn (tgt := 1045) hC 13 he dL_law_40 (by decide) (by decide) rfl (by decide) ?_
        refine x_aload_n hC 1 rfl dL_law_1045 ?_
        refine x_aload_n hC 0 rfl dL_law_1046 ?_
        refine x_iload hC 4 rfl dL_law_1047 ?_
        refine x_iconst (v := 1) hC dL_law_1049 (by decide) ?_
        refine x_iadd hC dL_law_1050 ?_
        obtain ⟨v110, h⟩ := h
        refine x_sld hC hS v110 dL_law_1051 ?_
        refine x_aload_n hC 0 rfl dL_law_1052 ?_
        refine x_iload hC 4 rfl dL_law_1053 ?_
        refine x_iconst (v := 2) hC dL_law_1055 (by decide) ?_
        refine x_iadd hC dL_law_1056 ?_
        obtain ⟨v111, h⟩ := h
        refine x_sld hC hS v111 dL_law_1057 ?_
        refine x_aload_n hC 0 rfl dL_law_1058 ?_
        refine x_iload hC 4 rfl dL_law_1059 ?_
        refine x_iconst (v := 3) hC dL_law_1061 (by decide) ?_
        refine x_iadd hC dL_law_1062 ?_
        obtain ⟨v112, h⟩ := h
        refine x_sld hC hS v112 dL_law_1063 ?_
        refine x_aload_n hC 3 rfl dL_law_1064 ?_
        refine x_callSW (as := [.ref (ρ n1), .int (xs (Int32.toNatClampNeg (x23_4 + 1))), .int (xs (Int32.toNatClampNeg (x23_4 + 2))), .int (xs (Int32.toNatClampNeg (x23_4 + 3))), .ref (ρ n3)]) (rest := []) hC (fun l hl => mL_itemAt l hl G ρ n1 (xs (Int32.toNatClampNeg (x23_4 + 1))) (xs (Int32.toNatClampNeg (x23_4 + 2))) (xs (Int32.toNatClampNeg (x23_4 + 3))) n3 τ23 _ h) q614 q615 q0 q616 hdL_itemAt (by decide) ⟨(show _ + 2 ≤ 601024 by omega), (show _ + 12 ≤ 7293034 by omega)⟩ (by first | exact Nat.le_of_ble_eq_true rfl | (simp [rv_cat]; done) | (simp (decide := true) [rv_cat, cat_ref, cat_int]; done)) rfl dL_law_1065 (fun E σ9 hx => False.elim hx) (fun v113 σ64 ρ64 hp61 hag61 => ?_)
        obtain ⟨e9, r59, e8, h⟩ := hp61
        rw [e8, e9]
        refine xJ.nrm (k' := k + 2) (n' := n + 12) (pc' := 1068) (st' := [.int r59]) rfl rfl rfl rfl ?_
        refine x_istore (L' := [(5, .int r59), (0, .ref b), (1, .ref (ρ n1)), (2, .ref (ρ n2)), (3, .ref (ρ n3)), (4, .int x23_4)]) hC dL_law_1068 (by decide) (by first | rfl | simp (decide := true) [rv_cat, cat_ref, cat_int]) ?_
        refine x_aload_n hC 3 rfl dL_law_1070 ?_
        refine x_aload_n hC 1 rfl dL_law_1071 ?_
        refine x_iload hC 5 rfl dL_law_1072 ?_
        refine x_iconst (v := 1) hC dL_law_1074 (by decide) ?_
        refine x_iadd hC dL_law_1075 ?_
        refine x_sld hC hS v110 dL_law_1076 ?_
        refine x_aload_n hC 1 rfl dL_law_1077 ?_
        refine x_iload hC 5 rfl dL_law_1078 ?_
        refine x_iconst (v := 2) hC dL_law_1080 (by decide) ?_
        refine x_iadd hC dL_law_1081 ?_
        refine x_sld hC hS v111 dL_law_1082 ?_
        refine x_aload_n hC 1 rfl dL_law_1083 ?_
        refine x_iload hC 5 rfl dL_law_1084 ?_
        refine x_iconst (v := 3) hC dL_law_1086 (by decide) ?_
        refine x_iadd hC dL_law_1087 ?_
        refine x_sld hC hS v112 dL_law_1088 ?_
        obtain ⟨k72, h⟩ := h
        refine x_callV (n0 := n2) (as := [.int (xs (Int32.toNatClampNeg (x23_4 + 1))), .int (xs (Int32.toNatClampNeg (x23_4 + 2))), .int (xs (Int32.toNatClampNeg (x23_4 + 3)))]) (rest := []) hC (ci := 7) (r := (RX7, TX7, 36)) k72 rfl (fun l hl => m7_itemAt l hl G ρ n2 (xs (Int32.toNatClampNeg (x23_4 + 1))) (xs (Int32.toNatClampNeg (x23_4 + 2))) (xs (Int32.toNatClampNeg (x23_4 + 3))) σ64 _ h) q920 q921 q922 q3 q923 ⟨rfl, hd7_itemAt⟩ (by decide) ⟨(show _ + 0 ≤ 601024 by omega), (show _ + 0 ≤ 7293034 by omega)⟩ (by first | exact Nat.le_of_ble_eq_true rfl | (simp [rv_cat]; done) | (simp (decide := true) [rv_cat, cat_ref, cat_int]; done)) rfl dL_law_1089 (fun E σ9 hx => False.elim hx) (fun v114 σ65 ρ65 hp62 hag62 => ?_)
        obtain ⟨e9, r60, e8, h⟩ := hp62
        rw [e8, e9]
        refine xJ.nrm (k' := k + 2) (n' := n + 12) (pc' := 1092) (st' := [.int r60]) rfl rfl rfl rfl ?_
        refine x_istore (L' := [(6, .int r60), (5, .int r59), (0, .ref b), (1, .ref (ρ n1)), (2, .ref (ρ n2)), (3, .ref (ρ n3)), (4, .int x23_4)]) hC dL_law_1092 (by decide) (by first | rfl | simp (decide := true) [rv_cat, cat_ref, cat_int]) ?_
        refine x_aload_n hC 4 rfl dL_law_1094 ?_
        have k73 : hK σ65 n2 = 8 := (hag62 n2 (by rw [k72]; decide)).1.trans k72
        refine x_callV (n0 := n2) (as := []) (rest := []) hC (ci := 7) (r := (RX7, TX7, 36)) k73 rfl (fun l hl => m7_thrown l hl G ρ n2 σ65 _ h) q798 q799 q800 q3 q801 ⟨rfl, hd7_thrown⟩ (by decide) ⟨(show _ + 0 ≤ 601024 by omega), (show _ + 0 ≤ 7293034 by omega)⟩ (by first | exact Nat.le_of_ble_eq_true rfl | (simp [rv_cat]; done) | (simp (decide := true) [rv_cat, cat_ref, cat_int]; done)) rfl dL_law_1095 (fun E σ9 hx => False.elim hx) (fun v115 σ66 ρ66 hp63 hag63 => ?_)
        obtain ⟨e9, r61, e8, h⟩ := hp63
        rw [e8, e9]
        refine xJ.nrm (k' := k + 2) (n' := n + 12) (pc' := 1098) (st' := [.int r61]) rfl rfl rfl rfl ?_
        refine x_iload hC 1 rfl dL_law_1098 ?_
        refine x_icmp_eq (tgt := 1105) hC dL_law_1100 (by decide) (fun c91 => ?_) (fun c91 => ?_)
        · have h := h.1 c91
          refine x_iload hC 1 rfl dL_law_1105 ?_
          refine x_if_ne (tgt := 1122) hC dL_law_1107 (by decide) (fun c92 => ?_) (fun c92 => ?_)
          · have h := h.1 c92
            refine x_goto (tgt := 1555) hC dL_law_1122 (by decide) ?_
            refine x_iinc (v' := x23_4 + 7) (L' := [(4, .int (x23_4 + 7)), (6, .int r60), (5, .int r59), (0, .ref b), (1, .ref (ρ n1)), (2, .ref (ρ n2)), (3, .ref (ρ n3))]) hC 6 rfl dL_law_1555 rfl (by decide) (by first | rfl | simp (decide := true) [rv_cat, cat_ref, cat_int]) ?_
            refine x_goto (tgt := 23) hC dL_law_1558 (by decide) ?_
            refine xJ.sub (L' := [(0, .ref b), (1, .ref (ρ n1)), (2, .ref (ρ n2)), (3, .ref (ρ n3)), (4, .int (x23_4 + 7))]) [3, 4, 5, 6, 0] rfl ?_
            exact ih _ _ _ (show _ + f23 * 1021 ≤ 601024 by omega) (show _ + f23 * 8931 ≤ 7293034 by omega) _ _ h hKK
          · have h := h.2 c92
            refine x_aload_n hC 5 rfl dL_law_1110 ?_
            refine x_iconst (v := 0) hC dL_law_1111 (by decide) ?_
            obtain ⟨k74, h⟩ := h
            obtain ⟨v116, h⟩ := h
            refine x_lald (a := n3) hC k74 v116 dL_law_1112 ?_
            refine x_iload hC 0 rfl dL_law_1113 ?_
            refine x_i2l hC dL_law_1115 ?_
            refine x_lcmp hC dL_law_1116 ?_
            refine x_if_eq (tgt := 1122) hC dL_law_1117 (by decide) (fun c93 => ?_) (fun c93 => ?_)
            · have h := h.1 c93
              refine x_goto (tgt := 1555) hC dL_law_1122 (by decide) ?_
              refine x_iinc (v' := x23_4 + 7) (L' := [(4, .int (x23_4 + 7)), (6, .int r60), (5, .int r59), (0, .ref b), (1, .ref (ρ n1)), (2, .ref (ρ n2)), (3, .ref (ρ n3))]) hC 6 rfl dL_law_1555 rfl (by decide) (by first | rfl | simp (decide := true) [rv_cat, cat_ref, cat_int]) ?_
              refine x_goto (tgt := 23) hC dL_law_1558 (by decide) ?_
              refine xJ.sub (L' := [(0, .ref b), (1, .ref (ρ n1)), (2, .ref (ρ n2)), (3, .ref (ρ n3)), (4, .int (x23_4 + 7))]) [3, 4, 5, 6, 0] rfl ?_
              exact ih _ _ _ (show _ + f23 * 1021 ≤ 601024 by omega) (show _ + f23 * 8931 ≤ 7293034 by omega) _ _ h hKK
            · have h := h.2 c93
              refine x_iconst (v := 0) hC dL_law_1120 (by decide) ?_
              exact h.elim
        · have h := h.2 c91
          refine x_iconst (v := 0) hC dL_law_1103 (by decide) ?_
          exact h.elim
      · have h := h.2.2.2.2.2.2.2.2.2.2.2.2.2.2.1 he
        refine x_tabIn (tgt := 1125) hC 14 he dL_law_40 (by decide) (by decide) rfl (by decide) ?_
        refine x_aload_n hC 1 rfl dL_law_1125 ?_
        refine x_aload_n hC 0 rfl dL_law_1126 ?_
        refine x_iload hC 4 rfl dL_law_1127 ?_
        refine x_iconst (v := 1) hC dL_law_1129 (by decide) ?_
        refine x_iadd hC dL_law_1130 ?_
        obtain ⟨v117, h⟩ := h
        refine x_sld hC hS v117 dL_law_1131 ?_
        refine x_aload_n hC 0 rfl dL_law_1132 ?_
        refine x_iload hC 4 rfl dL_law_1133 ?_
        refine x_iconst (v := 2) hC dL_law_1135 (by decide) ?_
        refine x_iadd hC dL_law_1136 ?_
        obtain ⟨v118, h⟩ := h
        refine x_sld hC hS v118 dL_law_1137 ?_
        refine x_aload_n hC 0 rfl dL_law_1138 ?_
        refine x_iload hC 4 rfl dL_law_1139 ?_
        refine x_iconst (v := 3) hC dL_law_1141 (by decide) ?_
        refine x_iadd hC dL_law_1142 ?_
        obtain ⟨v119, h⟩ := h
        refine x_sld hC hS v119 dL_law_1143 ?_
        refine x_aload_n hC 3 rfl dL_law_1144 ?_
        refine x_callSW (as := [.ref (ρ n1), .int (xs (Int32.toNatClampNeg (x23_4 + 1))), .int (xs (Int32.toNatClampNeg (x23_4 + 2))), .int (xs (Int32.toNatClampNeg (x23_4 + 3))), .ref (ρ n3)]) (rest := []) hC (fun l hl => mL_isMarked l hl G ρ n1 (xs (Int32.toNatClampNeg (x23_4 + 1))) (xs (Int32.toNatClampNeg (x23_4 + 2))) (xs (Int32.toNatClampNeg (x23_4 + 3))) n3 τ23 _ h) q621 q622 q0 q623 hdL_isMarked (by decide) ⟨(show _ + 2 ≤ 601024 by omega), (show _ + 12 ≤ 7293034 by omega)⟩ (by first | exact Nat.le_of_ble_eq_true rfl | (simp [rv_cat]; done) | (simp (decide := true) [rv_cat, cat_ref, cat_int]; done)) rfl dL_law_1145 (fun E σ9 hx => False.elim hx) (fun v120 σ67 ρ67 hp64 hag64 => ?_)
        obtain ⟨e9, r62, e8, h⟩ := hp64
        rw [e8, e9]
        refine xJ.nrm (k' := k + 2) (n' := n + 12) (pc' := 1148) (st' := [.int r62]) rfl rfl rfl rfl ?_
        refine x_istore (L' := [(5, .int r62), (0, .ref b), (1, .ref (ρ n1)), (2, .ref (ρ n2)), (3, .ref (ρ n3)), (4, .int x23_4)]) hC dL_law_1148 (by decide) (by first | rfl | simp (decide := true) [rv_cat, cat_ref, cat_int]) ?_
        refine x_aload_n hC 3 rfl dL_law_1150 ?_
        refine x_aload_n hC 1 rfl dL_law_1151 ?_
        refine x_iload hC 5 rfl dL_law_1152 ?_
        refine x_iconst (v := 1) hC dL_law_1154 (by decide) ?_
        refine x_iadd hC dL_law_1155 ?_
        refine x_sld hC hS v117 dL_law_1156 ?_
        refine x_aload_n hC 1 rfl dL_law_1157 ?_
        refine x_iload hC 5 rfl dL_law_1158 ?_
        refine x_iconst (v := 2) hC dL_law_1160 (by decide) ?_
        refine x_iadd hC dL_law_1161 ?_
        refine x_sld hC hS v118 dL_law_1162 ?_
        refine x_aload_n hC 1 rfl dL_law_1163 ?_
        refine x_iload hC 5 rfl dL_law_1164 ?_
        refine x_iconst (v := 3) hC dL_law_1166 (by decide) ?_
        refine x_iadd hC dL_law_1167 ?_
        refine x_sld hC hS v119 dL_law_1168 ?_
        obtain ⟨k75, h⟩ := h
        refine x_callV (n0 := n2) (as := [.int (xs (Int32.toNatClampNeg (x23_4 + 1))), .int (xs (Int32.toNatClampNeg (x23_4 + 2))), .int (xs (Int32.toNatClampNeg (x23_4 + 3)))]) (rest := []) hC (ci := 7) (r := (RX7, TX7, 36)) k75 rfl (fun l hl => m7_isMarked l hl G ρ n2 (xs (Int32.toNatClampNeg (x23_4 + 1))) (xs (Int32.toNatClampNeg (x23_4 + 2))) (xs (Int32.toNatClampNeg (x23_4 + 3))) σ67 _ h) q924 q925 q926 q3 q927 ⟨rfl, hd7_isMarked⟩ (by decide) ⟨(show _ + 0 ≤ 601024 by omega), (show _ + 0 ≤ 7293034 by omega)⟩ (by first | exact Nat.le_of_ble_eq_true rfl | (simp [rv_cat]; done) | (simp (decide := true) [rv_cat, cat_ref, cat_int]; done)) rfl dL_law_1169 (fun E σ9 hx => False.elim hx) (fun v121 σ68 ρ68 hp65 hag65 => ?_)
        obtain ⟨e9, r63, e8, h⟩ := hp65
        rw [e8, e9]
        refine xJ.nrm (k' := k + 2) (n' := n + 12) (pc' := 1172) (st' := [.int r63]) rfl rfl rfl rfl ?_
        refine x_istore (L' := [(6, .int r63), (5, .int r62), (0, .ref b), (1, .ref (ρ n1)), (2, .ref (ρ n2)), (3, .ref (ρ n3)), (4, .int x23_4)]) hC dL_law_1172 (by decide) (by first | rfl | simp (decide := true) [rv_cat, cat_ref, cat_int]) ?_
        refine x_aload_n hC 4 rfl dL_law_1174 ?_
        have k76 : hK σ68 n2 = 8 := (hag65 n2 (by rw [k75]; decide)).1.trans k75
        refine x_callV (n0 := n2) (as := []) (rest := []) hC (ci := 7) (r := (RX7, TX7, 36)) k76 rfl (fun l hl => m7_thrown l hl G ρ n2 σ68 _ h) q798 q799 q800 q3 q801 ⟨rfl, hd7_thrown⟩ (by decide) ⟨(show _ + 0 ≤ 601024 by omega), (show _ + 0 ≤ 7293034 by omega)⟩ (by first | exact Nat.le_of_ble_eq_true rfl | (simp [rv_cat]; done) | (simp (decide := true) [rv_cat, cat_ref, cat_int]; done)) rfl dL_law_1175 (fun E σ9 hx => False.elim hx) (fun v122 σ69 ρ69 hp66 hag66 => ?_)
        obtain ⟨e9, r64, e8, h⟩ := hp66
        rw [e8, e9]
        refine xJ.nrm (k' := k + 2) (n' := n + 12) (pc' := 1178) (st' := [.int r64]) rfl rfl rfl rfl ?_
        refine x_iload hC 1 rfl dL_law_1178 ?_
        refine x_icmp_eq (tgt := 1185) hC dL_law_1180 (by decide) (fun c94 => ?_) (fun c94 => ?_)
        · have h := h.1 c94
          refine x_iload hC 1 rfl dL_law_1185 ?_
          refine x_if_ne (tgt := 1209) hC dL_law_1187 (by decide) (fun c95 => ?_) (fun c95 => ?_)
          · have h := h.1 c95
            refine x_goto (tgt := 1555) hC dL_law_1209 (by decide) ?_
            refine x_iinc (v' := x23_4 + 7) (L' := [(4, .int (x23_4 + 7)), (6, .int r63), (5, .int r62), (0, .ref b), (1, .ref (ρ n1)), (2, .ref (ρ n2)), (3, .ref (ρ n3))]) hC 6 rfl dL_law_1555 rfl (by decide) (by first | rfl | simp (decide := true) [rv_cat, cat_ref, cat_int]) ?_
            refine x_goto (tgt := 23) hC dL_law_1558 (by decide) ?_
            refine xJ.sub (L' := [(0, .ref b), (1, .ref (ρ n1)), (2, .ref (ρ n2)), (3, .ref (ρ n3)), (4, .int (x23_4 + 7))]) [3, 4, 5, 6, 0] rfl ?_
            exact ih _ _ _ (show _ + f23 * 1021 ≤ 601024 by omega) (show _ + f23 * 8931 ≤ 7293034 by omega) _ _ h hKK
          · have h := h.2 c95
            refine x_aload_n hC 5 rfl dL_law_1190 ?_
            refine x_iconst (v := 0) hC dL_law_1191 (by decide) ?_
            obtain ⟨k77, h⟩ := h
            obtain ⟨v123, h⟩ := h
            refine x_lald (a := n3) hC k77 v123 dL_law_1192 ?_
            refine x_iload hC 0 rfl dL_law_1193 ?_
            refine x_if_eq (tgt := 1202) hC dL_law_1195 (by decide) (fun c96 => ?_) (fun c96 => ?_)
            · have h := h.1 c96
              refine x_lconst (v := 0) hC dL_law_1202 (by decide) ?_
              refine x_lcmp hC dL_law_1203 ?_
              refine x_if_eq (tgt := 1209) hC dL_law_1204 (by decide) (fun c97 => ?_) (fun c97 => ?_)
              · have h := h.1 c97
                refine x_goto (tgt := 1555) hC dL_law_1209 (by decide) ?_
                refine x_iinc (v' := x23_4 + 7) (L' := [(4, .int (x23_4 + 7)), (6, .int r63), (5, .int r62), (0, .ref b), (1, .ref (ρ n1)), (2, .ref (ρ n2)), (3, .ref (ρ n3))]) hC 6 rfl dL_law_1555 rfl (by decide) (by first | rfl | simp (decide := true) [rv_cat, cat_ref, cat_int]) ?_
                refine x_goto (tgt := 23) hC dL_law_1558 (by decide) ?_
                refine xJ.sub (L' := [(0, .ref b), (1, .ref (ρ n1)), (2, .ref (ρ n2)), (3, .ref (ρ n3)), (4, .int (x23_4 + 7))]) [3, 4, 5, 6, 0] rfl ?_
                exact ih _ _ _ (show _ + f23 * 1021 ≤ 601024 by omega) (show _ + f23 * 8931 ≤ 7293034 by omega) _ _ h hKK
              · have h := h.2 c97
                refine x_iconst (v := 0) hC dL_law_1207 (by decide) ?_
                exact h.elim
            · have h := h.2 c96
              refine x_lconst (v := 1) hC dL_law_1198 (by decide) ?_
              refine x_goto (tgt := 1203) hC dL_law_1199 (by decide) ?_
              refine x_lcmp hC dL_law_1203 ?_
              refine x_if_eq (tgt := 1209) hC dL_law_1204 (by decide) (fun c98 => ?_) (fun c98 => ?_)
              · have h := h.1 c98
                refine x_goto (tgt := 1555) hC dL_law_1209 (by decide) ?_
                refine x_iinc (v' := x23_4 + 7) (L' := [(4, .int (x23_4 + 7)), (6, .int r63), (5, .int r62), (0, .ref b), (1, .ref (ρ n1)), (2, .ref (ρ n2)), (3, .ref (ρ n3))]) hC 6 rfl dL_law_1555 rfl (by decide) (by first | rfl | simp (decide := true) [rv_cat, cat_ref, cat_int]) ?_
                refine x_goto (tgt := 23) hC dL_law_1558 (by decide) ?_
                refine xJ.sub (L' := [(0, .ref b), (1, .ref (ρ n1)), (2, .ref (ρ n2)), (3, .ref (ρ n3)), (4, .int (x23_4 + 7))]) [3, 4, 5, 6, 0] rfl ?_
                exact ih _ _ _ (show _ + f23 * 1021 ≤ 601024 by omega) (show _ + f23 * 8931 ≤ 7293034 by omega) _ _ h hKK
              · have h := h.2 c98
                refine x_iconst (v := 0) hC dL_law_1207 (by decide) ?_
                exact h.elim
        · have h := h.2 c94
          refine x_iconst (v := 0) hC dL_law_1183 (by decide) ?_
          exact h.elim
      · have h := h.2.2.2.2.2.2.2.2.2.2.2.2.2.2.2.1 he
        refine x_tabIn (tgt := 1212) hC 15 he dL_law_40 (by decide) (by decide) rfl (by decide) ?_
        refine x_aload_n hC 1 rfl dL_law_1212 ?_
        refine x_aload_n hC 0 rfl dL_law_1213 ?_
        refine x_iload hC 4 rfl dL_law_1214 ?_
        refine x_iconst (v := 1) hC dL_law_1216 (by decide) ?_
        refine x_iadd hC dL_law_1217 ?_
        obtain ⟨v124, h⟩ := h
        refine x_sld hC hS v124 dL_law_1218 ?_
        refine x_aload_n hC 3 rfl dL_law_1219 ?_
        refine x_callSW (as := [.ref (ρ n1), .int (xs (Int32.toNatClampNeg (x23_4 + 1))), .ref (ρ n3)]) (rest := []) hC (fun l hl => mL_latest l hl G ρ n1 (xs (Int32.toNatClampNeg (x23_4 + 1))) n3 τ23 _ h) q628 q629 q0 q630 hdL_latest (by decide) ⟨(show _ + 1 ≤ 601024 by omega), (show _ + 6 ≤ 7293034 by omega)⟩ (by first | exact Nat.le_of_ble_eq_true rfl | (simp [rv_cat]; done) | (simp (decide := true) [rv_cat, cat_ref, cat_int]; done)) rfl dL_law_1220 (fun E σ9 hx => False.elim hx) (fun v125 σ70 ρ70 hp67 hag67 => ?_)
        obtain ⟨e9, r65, e8, h⟩ := hp67
        rw [e8, e9]
        refine xJ.nrm (k' := k + 1) (n' := n + 6) (pc' := 1223) (st' := [.int r65]) rfl rfl rfl rfl ?_
        refine x_istore (L' := [(5, .int r65), (0, .ref b), (1, .ref (ρ n1)), (2, .ref (ρ n2)), (3, .ref (ρ n3)), (4, .int x23_4)]) hC dL_law_1223 (by decide) (by first | rfl | simp (decide := true) [rv_cat, cat_ref, cat_int]) ?_
        refine x_aload_n hC 3 rfl dL_law_1225 ?_
        refine x_aload_n hC 1 rfl dL_law_1226 ?_
        refine x_iload hC 5 rfl dL_law_1227 ?_
        refine x_iconst (v := 1) hC dL_law_1229 (by decide) ?_
        refine x_iadd hC dL_law_1230 ?_
        refine x_sld hC hS v124 dL_law_1231 ?_
        obtain ⟨k78, h⟩ := h
        refine x_callV (n0 := n2) (as := [.int (xs (Int32.toNatClampNeg (x23_4 + 1)))]) (rest := []) hC (ci := 7) (r := (RX7, TX7, 36)) k78 rfl (fun l hl => m7_latest l hl G ρ n2 (xs (Int32.toNatClampNeg (x23_4 + 1))) σ70 _ h) q928 q929 q930 q3 q931 ⟨rfl, hd7_latest⟩ (by decide) ⟨(show _ + 0 ≤ 601024 by omega), (show _ + 0 ≤ 7293034 by omega)⟩ (by first | exact Nat.le_of_ble_eq_true rfl | (simp [rv_cat]; done) | (simp (decide := true) [rv_cat, cat_ref, cat_int]; done)) rfl dL_law_1232 (fun E σ9 hx => False.elim hx) (fun v126 σ71 ρ71 hp68 hag68 => ?_)
        obtain ⟨e9, r66, e8, h⟩ := hp68
        rw [e8, e9]
        refine xJ.nrm (k' := k + 1) (n' := n + 6) (pc' := 1235) (st' := [.int r66]) rfl rfl rfl rfl ?_
        refine x_istore (L' := [(6, .int r66), (5, .int r65), (0, .ref b), (1, .ref (ρ n1)), (2, .ref (ρ n2)), (3, .ref (ρ n3)), (4, .int x23_4)]) hC dL_law_1235 (by decide) (by first | rfl | simp (decide := true) [rv_cat, cat_ref, cat_int]) ?_
        refine x_aload_n hC 4 rfl dL_law_1237 ?_
        have k79 : hK σ71 n2 = 8 := (hag68 n2 (by rw [k78]; decide)).1.trans k78
        refine x_callV (n0 := n2) (as := []) (rest := []) hC (ci := 7) (r := (RX7, TX7, 36)) k79 rfl (fun l hl => m7_thrown l hl G ρ n2 σ71 _ h) q798 q799 q800 q3 q801 ⟨rfl, hd7_thrown⟩ (by decide) ⟨(show _ + 0 ≤ 601024 by omega), (show _ + 0 ≤ 7293034 by omega)⟩ (by first | exact Nat.le_of_ble_eq_true rfl | (simp [rv_cat]; done) | (simp (decide := true) [rv_cat, cat_ref, cat_int]; done)) rfl dL_law_1238 (fun E σ9 hx => False.elim hx) (fun v127 σ72 ρ72 hp69 hag69 => ?_)
        obtain ⟨e9, r67, e8, h⟩ := hp69
        rw [e8, e9]
        refine xJ.nrm (k' := k + 1) (n' := n + 6) (pc' := 1241) (st' := [.int r67]) rfl rfl rfl rfl ?_
        refine x_iload hC 1 rfl dL_law_1241 ?_
        refine x_icmp_eq (tgt := 1248) hC dL_law_1243 (by decide) (fun c99 => ?_) (fun c99 => ?_)
        · have h := h.1 c99
          refine x_iload hC 1 rfl dL_law_1248 ?_
          refine x_if_ne (tgt := 1265) hC dL_law_1250 (by decide) (fun c100 => ?_) (fun c100 => ?_)
          · have h := h.1 c100
            refine x_goto (tgt := 1555) hC dL_law_1265 (by decide) ?_
            refine x_iinc (v' := x23_4 + 7) (L' := [(4, .int (x23_4 + 7)), (6, .int r66), (5, .int r65), (0, .ref b), (1, .ref (ρ n1)), (2, .ref (ρ n2)), (3, .ref (ρ n3))]) hC 6 rfl dL_law_1555 rfl (by decide) (by first | rfl | simp (decide := true) [rv_cat, cat_ref, cat_int]) ?_
            refine x_goto (tgt := 23) hC dL_law_1558 (by decide) ?_
            refine xJ.sub (L' := [(0, .ref b), (1, .ref (ρ n1)), (2, .ref (ρ n2)), (3, .ref (ρ n3)), (4, .int (x23_4 + 7))]) [3, 4, 5, 6, 0] rfl ?_
            exact ih _ _ _ (show _ + f23 * 1021 ≤ 601024 by omega) (show _ + f23 * 8931 ≤ 7293034 by omega) _ _ h hKK
          · have h := h.2 c100
            refine x_aload_n hC 5 rfl dL_law_1253 ?_
            refine x_iconst (v := 0) hC dL_law_1254 (by decide) ?_
            obtain ⟨k80, h⟩ := h
            obtain ⟨v128, h⟩ := h
            refine x_lald (a := n3) hC k80 v128 dL_law_1255 ?_
            refine x_iload hC 0 rfl dL_law_1256 ?_
            refine x_i2l hC dL_law_1258 ?_
            refine x_lcmp hC dL_law_1259 ?_
            refine x_if_eq (tgt := 1265) hC dL_law_1260 (by decide) (fun c101 => ?_) (fun c101 => ?_)
            · have h := h.1 c101
              refine x_goto (tgt := 1555) hC dL_law_1265 (by decide) ?_
              refine x_iinc (v' := x23_4 + 7) (L' := [(4, .int (x23_4 + 7)), (6, .int r66), (5, .int r65), (0, .ref b), (1, .ref (ρ n1)), (2, .ref (ρ n2)), (3, .ref (ρ n3))]) hC 6 rfl dL_law_1555 rfl (by decide) (by first | rfl | simp (decide := true) [rv_cat, cat_ref, cat_int]) ?_
              refine x_goto (tgt := 23) hC dL_law_1558 (by decide) ?_
              refine xJ.sub (L' := [(0, .ref b), (1, .ref (ρ n1)), (2, .ref (ρ n2)), (3, .ref (ρ n3)), (4, .int (x23_4 + 7))]) [3, 4, 5, 6, 0] rfl ?_
              exact ih _ _ _ (show _ + f23 * 1021 ≤ 601024 by omega) (show _ + f23 * 8931 ≤ 7293034 by omega) _ _ h hKK
            · have h := h.2 c101
              refine x_iconst (v := 0) hC dL_law_1263 (by decide) ?_
              exact h.elim
        · have h := h.2 c99
          refine x_iconst (v := 0) hC dL_law_1246 (by decide) ?_
          exact h.elim
      · have h := h.2.2.2.2.2.2.2.2.2.2.2.2.2.2.2.2.1 he
        refine x_tabIn (tgt := 1268) hC 16 he dL_law_40 (by decide) (by decide) rfl (by decide) ?_
        refine x_aload_n hC 1 rfl dL_law_1268 ?_
        refine x_aload_n hC 0 rfl dL_law_1269 ?_
        refine x_iload hC 4 rfl dL_law_1270 ?_
        refine x_iconst (v := 1) hC dL_law_1272 (by decide) ?_
        refine x_iadd hC dL_law_1273 ?_
        obtain ⟨v129, h⟩ := h
        refine x_sld hC hS v129 dL_law_1274 ?_
        refine x_aload_n hC 3 rfl dL_law_1275 ?_
        refine x_callSW (as := [.ref (ρ n1), .int (xs (Int32.toNatClampNeg (x23_4 + 1))), .ref (ρ n3)]) (rest := []) hC (fun l hl => mL_keepAlives l hl G ρ n1 (xs (Int32.toNatClampNeg (x23_4 + 1))) n3 τ23 _ h) q635 q636 q0 q637 hdL_keepAlives (by decide) ⟨(show _ + 1 ≤ 601024 by omega), (show _ + 6 ≤ 7293034 by omega)⟩ (by first | exact Nat.le_of_ble_eq_true rfl | (simp [rv_cat]; done) | (simp (decide := true) [rv_cat, cat_ref, cat_int]; done)) rfl dL_law_1276 (fun E σ9 hx => False.elim hx) (fun v130 σ73 ρ73 hp70 hag70 => ?_)
        obtain ⟨e9, r68, e8, h⟩ := hp70
        rw [e8, e9]
        refine xJ.nrm (k' := k + 1) (n' := n + 6) (pc' := 1279) (st' := [.int r68]) rfl rfl rfl rfl ?_
        refine x_istore (L' := [(5, .int r68), (0, .ref b), (1, .ref (ρ n1)), (2, .ref (ρ n2)), (3, .ref (ρ n3)), (4, .int x23_4)]) hC dL_law_1279 (by decide) (by first | rfl | simp (decide := true) [rv_cat, cat_ref, cat_int]) ?_
        refine x_aload_n hC 3 rfl dL_law_1281 ?_
        refine x_aload_n hC 1 rfl dL_law_1282 ?_
        refine x_iload hC 5 rfl dL_law_1283 ?_
        refine x_iconst (v := 1) hC dL_law_1285 (by decide) ?_
        refine x_iadd hC dL_law_1286 ?_
        refine x_sld hC hS v129 dL_law_1287 ?_
        obtain ⟨k81, h⟩ := h
        refine x_callV (n0 := n2) (as := [.int (xs (Int32.toNatClampNeg (x23_4 + 1)))]) (rest := []) hC (ci := 7) (r := (RX7, TX7, 36)) k81 rfl (fun l hl => m7_keepAlives l hl G ρ n2 (xs (Int32.toNatClampNeg (x23_4 + 1))) σ73 _ h) q932 q933 q934 q3 q935 ⟨rfl, hd7_keepAlives⟩ (by decide) ⟨(show _ + 0 ≤ 601024 by omega), (show _ + 0 ≤ 7293034 by omega)⟩ (by first | exact Nat.le_of_ble_eq_true rfl | (simp [rv_cat]; done) | (simp (decide := true) [rv_cat, cat_ref, cat_int]; done)) rfl dL_law_1288 (fun E σ9 hx => False.elim hx) (fun v131 σ74 ρ74 hp71 hag71 => ?_)
        obtain ⟨e9, r69, e8, h⟩ := hp71
        rw [e8, e9]
        refine xJ.nrm (k' := k + 1) (n' := n + 6) (pc' := 1291) (st' := [.int r69]) rfl rfl rfl rfl ?_
        refine x_istore (L' := [(6, .int r69), (5, .int r68), (0, .ref b), (1, .ref (ρ n1)), (2, .ref (ρ n2)), (3, .ref (ρ n3)), (4, .int x23_4)]) hC dL_law_1291 (by decide) (by first | rfl | simp (decide := true) [rv_cat, cat_ref, cat_int]) ?_
        refine x_aload_n hC 4 rfl dL_law_1293 ?_
        have k82 : hK σ74 n2 = 8 := (hag71 n2 (by rw [k81]; decide)).1.trans k81
        refine x_callV (n0 := n2) (as := []) (rest := []) hC (ci := 7) (r := (RX7, TX7, 36)) k82 rfl (fun l hl => m7_thrown l hl G ρ n2 σ74 _ h) q798 q799 q800 q3 q801 ⟨rfl, hd7_thrown⟩ (by decide) ⟨(show _ + 0 ≤ 601024 by omega), (show _ + 0 ≤ 7293034 by omega)⟩ (by first | exact Nat.le_of_ble_eq_true rfl | (simp [rv_cat]; done) | (simp (decide := true) [rv_cat, cat_ref, cat_int]; done)) rfl dL_law_1294 (fun E σ9 hx => False.elim hx) (fun v132 σ75 ρ75 hp72 hag72 => ?_)
        obtain ⟨e9, r70, e8, h⟩ := hp72
        rw [e8, e9]
        refine xJ.nrm (k' := k + 1) (n' := n + 6) (pc' := 1297) (st' := [.int r70]) rfl rfl rfl rfl ?_
        refine x_iload hC 1 rfl dL_law_1297 ?_
        refine x_icmp_eq (tgt := 1304) hC dL_law_1299 (by decide) (fun c102 => ?_) (fun c102 => ?_)
        · have h := h.1 c102
          refine x_iload hC 1 rfl dL_law_1304 ?_
          refine x_if_ne (tgt := 1321) hC dL_law_1306 (by decide) (fun c103 => ?_) (fun c103 => ?_)
          · have h := h.1 c103
            refine x_goto (tgt := 1555) hC dL_law_1321 (by decide) ?_
            refine x_iinc (v' := x23_4 + 7) (L' := [(4, .int (x23_4 + 7)), (6, .int r69), (5, .int r68), (0, .ref b), (1, .ref (ρ n1)), (2, .ref (ρ n2)), (3, .ref (ρ n3))]) hC 6 rfl dL_law_1555 rfl (by decide) (by first | rfl | simp (decide := true) [rv_cat, cat_ref, cat_int]) ?_
            refine x_goto (tgt := 23) hC dL_law_1558 (by decide) ?_
            refine xJ.sub (L' := [(0, .ref b), (1, .ref (ρ n1)), (2, .ref (ρ n2)), (3, .ref (ρ n3)), (4, .int (x23_4 + 7))]) [3, 4, 5, 6, 0] rfl ?_
            exact ih _ _ _ (show _ + f23 * 1021 ≤ 601024 by omega) (show _ + f23 * 8931 ≤ 7293034 by omega) _ _ h hKK
          · have h := h.2 c103
            refine x_aload_n hC 5 rfl dL_law_1309 ?_
            refine x_iconst (v := 0) hC dL_law_1310 (by decide) ?_
            obtain ⟨k83, h⟩ := h
            obtain ⟨v133, h⟩ := h
            refine x_lald (a := n3) hC k83 v133 dL_law_1311 ?_
            refine x_iload hC 0 rfl dL_law_1312 ?_
            refine x_i2l hC dL_law_1314 ?_
            refine x_lcmp hC dL_law_1315 ?_
            refine x_if_eq (tgt := 1321) hC dL_law_1316 (by decide) (fun c104 => ?_) (fun c104 => ?_)
            · have h := h.1 c104
              refine x_goto (tgt := 1555) hC dL_law_1321 (by decide) ?_
              refine x_iinc (v' := x23_4 + 7) (L' := [(4, .int (x23_4 + 7)), (6, .int r69), (5, .int r68), (0, .ref b), (1, .ref (ρ n1)), (2, .ref (ρ n2)), (3, .ref (ρ n3))]) hC 6 rfl dL_law_1555 rfl (by decide) (by first | rfl | simp (decide := true) [rv_cat, cat_ref, cat_int]) ?_
              refine x_goto (tgt := 23) hC dL_law_1558 (by decide) ?_
              refine xJ.sub (L' := [(0, .ref b), (1, .ref (ρ n1)), (2, .ref (ρ n2)), (3, .ref (ρ n3)), (4, .int (x23_4 + 7))]) [3, 4, 5, 6, 0] rfl ?_
              exact ih _ _ _ (show _ + f23 * 1021 ≤ 601024 by omega) (show _ + f23 * 8931 ≤ 7293034 by omega) _ _ h hKK
            · have h := h.2 c104
              refine x_iconst (v := 0) hC dL_law_1319 (by decide) ?_
              exact h.elim
        · have h := h.2 c102
          refine x_iconst (v := 0) hC dL_law_1302 (by decide) ?_
          exact h.elim
      · have h := h.2.2.2.2.2.2.2.2.2.2.2.2.2.2.2.2.2.1 he
        refine x_tabIn (tgt := 1324) hC 17 he dL_law_40 (by decide) (by decide) rfl (by decide) ?_
        refine x_aload_n hC 1 rfl dL_law_1324 ?_
        refine x_aload_n hC 0 rfl dL_law_1325 ?_
        refine x_iload hC 4 rfl dL_law_1326 ?_
        refine x_iconst (v := 1) hC dL_law_1328 (by decide) ?_
        refine x_iadd hC dL_law_1329 ?_
        obtain ⟨v134, h⟩ := h
        refine x_sld hC hS v134 dL_law_1330 ?_
        refine x_aload_n hC 3 rfl dL_law_1331 ?_
        refine x_callSW (as := [.ref (ρ n1), .int (xs (Int32.toNatClampNeg (x23_4 + 1))), .ref (ρ n3)]) (rest := []) hC (fun l hl => mL_waiting l hl G ρ n1 (xs (Int32.toNatClampNeg (x23_4 + 1))) n3 τ23 _ h) q642 q643 q0 q644 hdL_waiting (by decide) ⟨(show _ + 1 ≤ 601024 by omega), (show _ + 6 ≤ 7293034 by omega)⟩ (by first | exact Nat.le_of_ble_eq_true rfl | (simp [rv_cat]; done) | (simp (decide := true) [rv_cat, cat_ref, cat_int]; done)) rfl dL_law_1332 (fun E σ9 hx => False.elim hx) (fun v135 σ76 ρ76 hp73 hag73 => ?_)
        obtain ⟨e9, r71, e8, h⟩ := hp73
        rw [e8, e9]
        refine xJ.nrm (k' := k + 1) (n' := n + 6) (pc' := 1335) (st' := [.int r71]) rfl rfl rfl rfl ?_
        refine x_istore (L' := [(5, .int r71), (0, .ref b), (1, .ref (ρ n1)), (2, .ref (ρ n2)), (3, .ref (ρ n3)), (4, .int x23_4)]) hC dL_law_1335 (by decide) (by first | rfl | simp (decide := true) [rv_cat, cat_ref, cat_int]) ?_
        refine x_aload_n hC 3 rfl dL_law_1337 ?_
        refine x_aload_n hC 1 rfl dL_law_1338 ?_
        refine x_iload hC 5 rfl dL_law_1339 ?_
        refine x_iconst (v := 1) hC dL_law_1341 (by decide) ?_
        refine x_iadd hC dL_law_1342 ?_
        refine x_sld hC hS v134 dL_law_1343 ?_
        obtain ⟨k84, h⟩ := h
        refine x_callV (n0 := n2) (as := [.int (xs (Int32.toNatClampNeg (x23_4 + 1)))]) (rest := []) hC (ci := 7) (r := (RX7, TX7, 36)) k84 rfl (fun l hl => m7_waiting l hl G ρ n2 (xs (Int32.toNatClampNeg (x23_4 + 1))) σ76 _ h) q936 q937 q938 q3 q939 ⟨rfl, hd7_waiting⟩ (by decide) ⟨(show _ + 0 ≤ 601024 by omega), (show _ + 0 ≤ 7293034 by omega)⟩ (by first | exact Nat.le_of_ble_eq_true rfl | (simp [rv_cat]; done) | (simp (decide := true) [rv_cat, cat_ref, cat_int]; done)) rfl dL_law_1344 (fun E σ9 hx => False.elim hx) (fun v136 σ77 ρ77 hp74 hag74 => ?_)
        obtain ⟨e9, r72, e8, h⟩ := hp74
        rw [e8, e9]
        refine xJ.nrm (k' := k + 1) (n' := n + 6) (pc' := 1347) (st' := [.int r72]) rfl rfl rfl rfl ?_
        refine x_istore (L' := [(6, .int r72), (5, .int r71), (0, .ref b), (1, .ref (ρ n1)), (2, .ref (ρ n2)), (3, .ref (ρ n3)), (4, .int x23_4)]) hC dL_law_1347 (by decide) (by first | rfl | simp (decide := true) [rv_cat, cat_ref, cat_int]) ?_
        refine x_aload_n hC 4 rfl dL_law_1349 ?_
        have k85 : hK σ77 n2 = 8 := (hag74 n2 (by rw [k84]; decide)).1.trans k84
        refine x_callV (n0 := n2) (as := []) (rest := []) hC (ci := 7) (r := (RX7, TX7, 36)) k85 rfl (fun l hl => m7_thrown l hl G ρ n2 σ77 _ h) q798 q799 q800 q3 q801 ⟨rfl, hd7_thrown⟩ (by decide) ⟨(show _ + 0 ≤ 601024 by omega), (show _ + 0 ≤ 7293034 by omega)⟩ (by first | exact Nat.le_of_ble_eq_true rfl | (simp [rv_cat]; done) | (simp (decide := true) [rv_cat, cat_ref, cat_int]; done)) rfl dL_law_1350 (fun E σ9 hx => False.elim hx) (fun v137 σ78 ρ78 hp75 hag75 => ?_)
        obtain ⟨e9, r73, e8, h⟩ := hp75
        rw [e8, e9]
        refine xJ.nrm (k' := k + 1) (n' := n + 6) (pc' := 1353) (st' := [.int r73]) rfl rfl rfl rfl ?_
        refine x_iload hC 1 rfl dL_law_1353 ?_
        refine x_icmp_eq (tgt := 1360) hC dL_law_1355 (by decide) (fun c105 => ?_) (fun c105 => ?_)
        · have h := h.1 c105
          refine x_iload hC 1 rfl dL_law_1360 ?_
          refine x_if_ne (tgt := 1377) hC dL_law_1362 (by decide) (fun c106 => ?_) (fun c106 => ?_)
          · have h := h.1 c106
            refine x_goto (tgt := 1555) hC dL_law_1377 (by decide) ?_
            refine x_iinc (v' := x23_4 + 7) (L' := [(4, .int (x23_4 + 7)), (6, .int r72), (5, .int r71), (0, .ref b), (1, .ref (ρ n1)), (2, .ref (ρ n2)), (3, .ref (ρ n3))]) hC 6 rfl dL_law_1555 rfl (by decide) (by first | rfl | simp (decide := true) [rv_cat, cat_ref, cat_int]) ?_
            refine x_goto (tgt := 23) hC dL_law_1558 (by decide) ?_
            refine xJ.sub (L' := [(0, .ref b), (1, .ref (ρ n1)), (2, .ref (ρ n2)), (3, .ref (ρ n3)), (4, .int (x23_4 + 7))]) [3, 4, 5, 6, 0] rfl ?_
            exact ih _ _ _ (show _ + f23 * 1021 ≤ 601024 by omega) (show _ + f23 * 8931 ≤ 7293034 by omega) _ _ h hKK
          · have h := h.2 c106
            refine x_aload_n hC 5 rfl dL_law_1365 ?_
            refine x_iconst (v := 0) hC dL_law_1366 (by decide) ?_
            obtain ⟨k86, h⟩ := h
            obtain ⟨v138, h⟩ := h
            refine x_lald (a := n3) hC k86 v138 dL_law_1367 ?_
            refine x_iload hC 0 rfl dL_law_1368 ?_
            refine x_i2l hC dL_law_1370 ?_
            refine x_lcmp hC dL_law_1371 ?_
            refine x_if_eq (tgt := 1377) hC dL_law_1372 (by decide) (fun c107 => ?_) (fun c107 => ?_)
            · have h := h.1 c107
              refine x_goto (tgt := 1555) hC dL_law_1377 (by decide) ?_
              refine x_iinc (v' := x23_4 + 7) (L' := [(4, .int (x23_4 + 7)), (6, .int r72), (5, .int r71), (0, .ref b), (1, .ref (ρ n1)), (2, .ref (ρ n2)), (3, .ref (ρ n3))]) hC 6 rfl dL_law_1555 rfl (by decide) (by first | rfl | simp (decide := true) [rv_cat, cat_ref, cat_int]) ?_
              refine x_goto (tgt := 23) hC dL_law_1558 (by decide) ?_
              refine xJ.sub (L' := [(0, .ref b), (1, .ref (ρ n1)), (2, .ref (ρ n2)), (3, .ref (ρ n3)), (4, .int (x23_4 + 7))]) [3, 4, 5, 6, 0] rfl ?_
              exact ih _ _ _ (show _ + f23 * 1021 ≤ 601024 by omega) (show _ + f23 * 8931 ≤ 7293034 by omega) _ _ h hKK
            · have h := h.2 c107
              refine x_iconst (v := 0) hC dL_law_1375 (by decide) ?_
              exact h.elim
        · have h := h.2 c105
          refine x_iconst (v := 0) hC dL_law_1358 (by decide) ?_
          exact h.elim
      · have h := h.2.2.2.2.2.2.2.2.2.2.2.2.2.2.2.2.2.2.1 he
        refine x_tabIn (tgt := 1380) hC 18 he dL_law_40 (by decide) (by decide) rfl (by decide) ?_
        refine x_aload_n hC 1 rfl dL_law_1380 ?_
        refine x_aload_n hC 0 rfl dL_law_1381 ?_
        refine x_iload hC 4 rfl dL_law_1382 ?_
        refine x_iconst (v := 1) hC dL_law_1384 (by decide) ?_
        refine x_iadd hC dL_law_1385 ?_
        obtain ⟨v139, h⟩ := h
        refine x_sld hC hS v139 dL_law_1386 ?_
        refine x_aload_n hC 3 rfl dL_law_1387 ?_
        refine x_callSW (as := [.ref (ρ n1), .int (xs (Int32.toNatClampNeg (x23_4 + 1))), .ref (ρ n3)]) (rest := []) hC (fun l hl => mL_queued l hl G ρ n1 (xs (Int32.toNatClampNeg (x23_4 + 1))) n3 τ23 _ h) q649 q650 q0 q651 hdL_queued (by decide) ⟨(show _ + 1 ≤ 601024 by omega), (show _ + 6 ≤ 7293034 by omega)⟩ (by first | exact Nat.le_of_ble_eq_true rfl | (simp [rv_cat]; done) | (simp (decide := true) [rv_cat, cat_ref, cat_int]; done)) rfl dL_law_1388 (fun E σ9 hx => False.elim hx) (fun v140 σ79 ρ79 hp76 hag76 => ?_)
        obtain ⟨e9, r74, e8, h⟩ := hp76
        rw [e8, e9]
        refine xJ.nrm (k' := k + 1) (n' := n + 6) (pc' := 1391) (st' := [.int r74]) rfl rfl rfl rfl ?_
        refine x_istore (L' := [(5, .int r74), (0, .ref b), (1, .ref (ρ n1)), (2, .ref (ρ n2)), (3, .ref (ρ n3)), (4, .int x23_4)]) hC dL_law_1391 (by decide) (by first | rfl | simp (decide := true) [rv_cat, cat_ref, cat_int]) ?_
        refine x_aload_n hC 3 rfl dL_law_1393 ?_
        refine x_aload_n hC 1 rfl dL_law_1394 ?_
        refine x_iload hC 5 rfl dL_law_1395 ?_
        refine x_iconst (v := 1) hC dL_law_1397 (by decide) ?_
        refine x_iadd hC dL_law_1398 ?_
        refine x_sld hC hS v139 dL_law_1399 ?_
        obtain ⟨k87, h⟩ := h
        refine x_callV (n0 := n2) (as := [.int (xs (Int32.toNatClampNeg (x23_4 + 1)))]) (rest := []) hC (ci := 7) (r := (RX7, TX7, 36)) k87 rfl (fun l hl => m7_queued l hl G ρ n2 (xs (Int32.toNatClampNeg (x23_4 + 1))) σ79 _ h) q944 q945 q946 q3 q947 ⟨rfl, hd7_queued⟩ (by decide) ⟨(show _ + 0 ≤ 601024 by omega), (show _ + 0 ≤ 7293034 by omega)⟩ (by first | exact Nat.le_of_ble_eq_true rfl | (simp [rv_cat]; done) | (simp (decide := true) [rv_cat, cat_ref, cat_int]; done)) rfl dL_law_1400 (fun E σ9 hx => False.elim hx) (fun v141 σ80 ρ80 hp77 hag77 => ?_)
        obtain ⟨e9, r75, e8, h⟩ := hp77
        rw [e8, e9]
        refine xJ.nrm (k' := k + 1) (n' := n + 6) (pc' := 1403) (st' := [.int r75]) rfl rfl rfl rfl ?_
        refine x_istore (L' := [(6, .int r75), (5, .int r74), (0, .ref b), (1, .ref (ρ n1)), (2, .ref (ρ n2)), (3, .ref (ρ n3)), (4, .int x23_4)]) hC dL_law_1403 (by decide) (by first | rfl | simp (decide := true) [rv_cat, cat_ref, cat_int]) ?_
        refine x_aload_n hC 4 rfl dL_law_1405 ?_
        have k88 : hK σ80 n2 = 8 := (hag77 n2 (by rw [k87]; decide)).1.trans k87
        refine x_callV (n0 := n2) (as := []) (rest := []) hC (ci := 7) (r := (RX7, TX7, 36)) k88 rfl (fun l hl => m7_thrown l hl G ρ n2 σ80 _ h) q798 q799 q800 q3 q801 ⟨rfl, hd7_thrown⟩ (by decide) ⟨(show _ + 0 ≤ 601024 by omega), (show _ + 0 ≤ 7293034 by omega)⟩ (by first | exact Nat.le_of_ble_eq_true rfl | (simp [rv_cat]; done) | (simp (decide := true) [rv_cat, cat_ref, cat_int]; done)) rfl dL_law_1406 (fun E σ9 hx => False.elim hx) (fun v142 σ81 ρ81 hp78 hag78 => ?_)
        obtain ⟨e9, r76, e8, h⟩ := hp78
        rw [e8, e9]
        refine xJ.nrm (k' := k + 1) (n' := n + 6) (pc' := 1409) (st' := [.int r76]) rfl rfl rfl rfl ?_
        refine x_iload hC 1 rfl dL_law_1409 ?_
        refine x_icmp_eq (tgt := 1416) hC dL_law_1411 (by decide) (fun c108 => ?_) (fun c108 => ?_)
        · have h := h.1 c108
          refine x_iload hC 1 rfl dL_law_1416 ?_
          refine x_if_ne (tgt := 1433) hC dL_law_1418 (by decide) (fun c109 => ?_) (fun c109 => ?_)
          · have h := h.1 c109
            refine x_goto (tgt := 1555) hC dL_law_1433 (by decide) ?_
            refine x_iinc (v' := x23_4 + 7) (L' := [(4, .int (x23_4 + 7)), (6, .int r75), (5, .int r74), (0, .ref b), (1, .ref (ρ n1)), (2, .ref (ρ n2)), (3, .ref (ρ n3))]) hC 6 rfl dL_law_1555 rfl (by decide) (by first | rfl | simp (decide := true) [rv_cat, cat_ref, cat_int]) ?_
            refine x_goto (tgt := 23) hC dL_law_1558 (by decide) ?_
            refine xJ.sub (L' := [(0, .ref b), (1, .ref (ρ n1)), (2, .ref (ρ n2)), (3, .ref (ρ n3)), (4, .int (x23_4 + 7))]) [3, 4, 5, 6, 0] rfl ?_
            exact ih _ _ _ (show _ + f23 * 1021 ≤ 601024 by omega) (show _ + f23 * 8931 ≤ 7293034 by omega) _ _ h hKK
          · have h := h.2 c109
            refine x_aload_n hC 5 rfl dL_law_1421 ?_
            refine x_iconst (v := 0) hC dL_law_1422 (by decide) ?_
            obtain ⟨k89, h⟩ := h
            obtain ⟨v143, h⟩ := h
            refine x_lald (a := n3) hC k89 v143 dL_law_1423 ?_
            refine x_iload hC 0 rfl dL_law_1424 ?_
            refine x_i2l hC dL_law_1426 ?_
            refine x_lcmp hC dL_law_1427 ?_
            refine x_if_eq (tgt := 1433) hC dL_law_1428 (by decide) (fun c110 => ?_) (fun c110 => ?_)
            · have h := h.1 c110
              refine x_goto (tgt := 1555) hC dL_law_1433 (by decide) ?_
              refine x_iinc (v' := x23_4 + 7) (L' := [(4, .int (x23_4 + 7)), (6, .int r75), (5, .int r74), (0, .ref b), (1, .ref (ρ n1)), (2, .ref (ρ n2)), (3, .ref (ρ n3))]) hC 6 rfl dL_law_1555 rfl (by decide) (by first | rfl | simp (decide := true) [rv_cat, cat_ref, cat_int]) ?_
              refine x_goto (tgt := 23) hC dL_law_1558 (by decide) ?_
              refine xJ.sub (L' := [(0, .ref b), (1, .ref (ρ n1)), (2, .ref (ρ n2)), (3, .ref (ρ n3)), (4, .int (x23_4 + 7))]) [3, 4, 5, 6, 0] rfl ?_
              exact ih _ _ _ (show _ + f23 * 1021 ≤ 601024 by omega) (show _ + f23 * 8931 ≤ 7293034 by omega) _ _ h hKK
            · have h := h.2 c110
              refine x_iconst (v := 0) hC dL_law_1431 (by decide) ?_
              exact h.elim
        · have h := h.2 c108
          refine x_iconst (v := 0) hC dL_law_1414 (by decide) ?_
          exact h.elim
      · have h := h.2.2.2.2.2.2.2.2.2.2.2.2.2.2.2.2.2.2.2.1 he
        refine x_tabIn (tgt := 1436) hC 19 he dL_law_40 (by decide) (by decide) rfl (by decide) ?_
        refine x_aload_n hC 1 rfl dL_law_1436 ?_
        refine x_aload_n hC 0 rfl dL_law_1437 ?_
        refine x_iload hC 4 rfl dL_law_1438 ?_
        refine x_iconst (v := 1) hC dL_law_1440 (by decide) ?_
        refine x_iadd hC dL_law_1441 ?_
        obtain ⟨v144, h⟩ := h
        refine x_sld hC hS v144 dL_law_1442 ?_
        refine x_aload_n hC 3 rfl dL_law_1443 ?_
        refine x_callSW (as := [.ref (ρ n1), .int (xs (Int32.toNatClampNeg (x23_4 + 1))), .ref (ρ n3)]) (rest := []) hC (fun l hl => mL_queuedByHistory l hl G ρ n1 (xs (Int32.toNatClampNeg (x23_4 + 1))) n3 τ23 _ h) q656 q657 q0 q658 hdL_queuedByHistory (by decide) ⟨(show _ + 1 ≤ 601024 by omega), (show _ + 6 ≤ 7293034 by omega)⟩ (by first | exact Nat.le_of_ble_eq_true rfl | (simp [rv_cat]; done) | (simp (decide := true) [rv_cat, cat_ref, cat_int]; done)) rfl dL_law_1444 (fun E σ9 hx => False.elim hx) (fun v145 σ82 ρ82 hp79 hag79 => ?_)
        obtain ⟨e9, r77, e8, h⟩ := hp79
        rw [e8, e9]
        refine xJ.nrm (k' := k + 1) (n' := n + 6) (pc' := 1447) (st' := [.int r77]) rfl rfl rfl rfl ?_
        refine x_istore (L' := [(5, .int r77), (0, .ref b), (1, .ref (ρ n1)), (2, .ref (ρ n2)), (3, .ref (ρ n3)), (4, .int x23_4)]) hC dL_law_1447 (by decide) (by first | rfl | simp (decide := true) [rv_cat, cat_ref, cat_int]) ?_
        refine x_aload_n hC 3 rfl dL_law_1449 ?_
        refine x_aload_n hC 1 rfl dL_law_1450 ?_
        refine x_iload hC 5 rfl dL_law_1451 ?_
        refine x_iconst (v := 1) hC dL_law_1453 (by decide) ?_
        refine x_iadd hC dL_law_1454 ?_
        refine x_sld hC hS v144 dL_law_1455 ?_
        obtain ⟨k90, h⟩ := h
        refine x_callV (n0 := n2) (as := [.int (xs (Int32.toNatClampNeg (x23_4 + 1)))]) (rest := []) hC (ci := 7) (r := (RX7, TX7, 36)) k90 rfl (fun l hl => m7_queuedByHistory l hl G ρ n2 (xs (Int32.toNatClampNeg (x23_4 + 1))) σ82 _ h) q948 q949 q950 q3 q951 ⟨rfl, hd7_queuedByHistory⟩ (by decide) ⟨(show _ + 0 ≤ 601024 by omega), (show _ + 0 ≤ 7293034 by omega)⟩ (by first | exact Nat.le_of_ble_eq_true rfl | (simp [rv_cat]; done) | (simp (decide := true) [rv_cat, cat_ref, cat_int]; done)) rfl dL_law_1456 (fun E σ9 hx => False.elim hx) (fun v146 σ83 ρ83 hp80 hag80 => ?_)
        obtain ⟨e9, r78, e8, h⟩ := hp80
        rw [e8, e9]
        refine xJ.nrm (k' := k + 1) (n' := n + 6) (pc' := 1459) (st' := [.int r78]) rfl rfl rfl rfl ?_
        refine x_istore (L' := [(6, .int r78), (5, .int r77), (0, .ref b), (1, .ref (ρ n1)), (2, .ref (ρ n2)), (3, .ref (ρ n3)), (4, .int x23_4)]) hC dL_law_1459 (by decide) (by first | rfl | simp (decide := true) [rv_cat, cat_ref, cat_int]) ?_
        refine x_aload_n hC 4 rfl dL_law_1461 ?_
        have k91 : hK σ83 n2 = 8 := (hag80 n2 (by rw [k90]; decide)).1.trans k90
        refine x_callV (n0 := n2) (as := []) (rest := []) hC (ci := 7) (r := (RX7, TX7, 36)) k91 rfl (fun l hl => m7_thrown l hl G ρ n2 σ83 _ h) q798 q799 q800 q3 q801 ⟨rfl, hd7_thrown⟩ (by decide) ⟨(show _ + 0 ≤ 601024 by omega), (show _ + 0 ≤ 7293034 by omega)⟩ (by first | exact Nat.le_of_ble_eq_true rfl | (simp [rv_cat]; done) | (simp (decide := true) [rv_cat, cat_ref, cat_int]; done)) rfl dL_law_1462 (fun E σ9 hx => False.elim hx) (fun v147 σ84 ρ84 hp81 hag81 => ?_)
        obtain ⟨e9, r79, e8, h⟩ := hp81
        rw [e8, e9]
        refine xJ.nrm (k' := k + 1) (n' := n + 6) (pc' := 1465) (st' := [.int r79]) rfl rfl rfl rfl ?_
        refine x_iload hC 1 rfl dL_law_1465 ?_
        refine x_icmp_eq (tgt := 1472) hC dL_law_1467 (by decide) (fun c111 => ?_) (fun c111 => ?_)
        · have h := h.1 c111
          refine x_iload hC 1 rfl dL_law_1472 ?_
          refine x_if_ne (tgt := 1489) hC dL_law_1474 (by decide) (fun c112 => ?_) (fun c112 => ?_)
          · have h := h.1 c112
            refine x_goto (tgt := 1555) hC dL_law_1489 (by decide) ?_
            refine x_iinc (v' := x23_4 + 7) (L' := [(4, .int (x23_4 + 7)), (6, .int r78), (5, .int r77), (0, .ref b), (1, .ref (ρ n1)), (2, .ref (ρ n2)), (3, .ref (ρ n3))]) hC 6 rfl dL_law_1555 rfl (by decide) (by first | rfl | simp (decide := true) [rv_cat, cat_ref, cat_int]) ?_
            refine x_goto (tgt := 23) hC dL_law_1558 (by decide) ?_
            refine xJ.sub (L' := [(0, .ref b), (1, .ref (ρ n1)), (2, .ref (ρ n2)), (3, .ref (ρ n3)), (4, .int (x23_4 + 7))]) [3, 4, 5, 6, 0] rfl ?_
            exact ih _ _ _ (show _ + f23 * 1021 ≤ 601024 by omega) (show _ + f23 * 8931 ≤ 7293034 by omega) _ _ h hKK
          · have h := h.2 c112
            refine x_aload_n hC 5 rfl dL_law_1477 ?_
            refine x_iconst (v := 0) hC dL_law_1478 (by decide) ?_
            obtain ⟨k92, h⟩ := h
            obtain ⟨v148, h⟩ := h
            refine x_lald (a := n3) hC k92 v148 dL_law_1479 ?_
            refine x_iload hC 0 rfl dL_law_1480 ?_
            refine x_i2l hC dL_law_1482 ?_
            refine x_lcmp hC dL_law_1483 ?_
            refine x_if_eq (tgt := 1489) hC dL_law_1484 (by decide) (fun c113 => ?_) (fun c113 => ?_)
            · have h := h.1 c113
              refine x_goto (tgt := 1555) hC dL_law_1489 (by decide) ?_
              refine x_iinc (v' := x23_4 + 7) (L' := [(4, .int (x23_4 + 7)), (6, .int r78), (5, .int r77), (0, .ref b), (1, .ref (ρ n1)), (2, .ref (ρ n2)), (3, .ref (ρ n3))]) hC 6 rfl dL_law_1555 rfl (by decide) (by first | rfl | simp (decide := true) [rv_cat, cat_ref, cat_int]) ?_
              refine x_goto (tgt := 23) hC dL_law_1558 (by decide) ?_
              refine xJ.sub (L' := [(0, .ref b), (1, .ref (ρ n1)), (2, .ref (ρ n2)), (3, .ref (ρ n3)), (4, .int (x23_4 + 7))]) [3, 4, 5, 6, 0] rfl ?_
              exact ih _ _ _ (show _ + f23 * 1021 ≤ 601024 by omega) (show _ + f23 * 8931 ≤ 7293034 by omega) _ _ h hKK
            · have h := h.2 c113
              refine x_iconst (v := 0) hC dL_law_1487 (by decide) ?_
              exact h.elim
        · have h := h.2 c111
          refine x_iconst (v := 0) hC dL_law_1470 (by decide) ?_
          exact h.elim
      · have h := h.2.2.2.2.2.2.2.2.2.2.2.2.2.2.2.2.2.2.2.2.1 he
        refine x_tabIn (tgt := 1492) hC 20 he dL_law_40 (by decide) (by decide) rfl (by decide) ?_
        refine x_aload_n hC 1 rfl dL_law_1492 ?_
        refine x_aload_n hC 0 rfl dL_law_1493 ?_
        refine x_iload hC 4 rfl dL_law_1494 ?_
        refine x_iconst (v := 1) hC dL_law_1496 (by decide) ?_
        refine x_iadd hC dL_law_1497 ?_
        obtain ⟨v149, h⟩ := h
        refine x_sld hC hS v149 dL_law_1498 ?_
        refine x_aload_n hC 3 rfl dL_law_1499 ?_
        refine x_callSW (as := [.ref (ρ n1), .int (xs (Int32.toNatClampNeg (x23_4 + 1))), .ref (ρ n3)]) (rest := []) hC (fun l hl => mL_isOpen l hl G ρ n1 (xs (Int32.toNatClampNeg (x23_4 + 1))) n3 τ23 _ h) q676 q677 q0 q678 hdL_isOpen (by decide) ⟨(show _ + 1 ≤ 601024 by omega), (show _ + 6 ≤ 7293034 by omega)⟩ (by first | exact Nat.le_of_ble_eq_true rfl | (simp [rv_cat]; done) | (simp (decide := true) [rv_cat, cat_ref, cat_int]; done)) rfl dL_law_1500 (fun E σ9 hx => False.elim hx) (fun v150 σ85 ρ85 hp82 hag82 => ?_)
        obtain ⟨e9, r80, e8, h⟩ := hp82
        rw [e8, e9]
        refine xJ.nrm (k' := k + 1) (n' := n + 6) (pc' := 1503) (st' := [.int r80]) rfl rfl rfl rfl ?_
        refine x_istore (L' := [(5, .int r80), (0, .ref b), (1, .ref (ρ n1)), (2, .ref (ρ n2)), (3, .ref (ρ n3)), (4, .int x23_4)]) hC dL_law_1503 (by decide) (by first | rfl | simp (decide := true) [rv_cat, cat_ref, cat_int]) ?_
        refine x_aload_n hC 3 rfl dL_law_1505 ?_
        refine x_aload_n hC 1 rfl dL_law_1506 ?_
        refine x_iload hC 5 rfl dL_law_1507 ?_
        refine x_iconst (v := 1) hC dL_law_1509 (by decide) ?_
        refine x_iadd hC dL_law_1510 ?_
        refine x_sld hC hS v149 dL_law_1511 ?_
        obtain ⟨k93, h⟩ := h
        refine x_callV (n0 := n2) (as := [.int (xs (Int32.toNatClampNeg (x23_4 + 1)))]) (rest := []) hC (ci := 7) (r := (RX7, TX7, 36)) k93 rfl (fun l hl => m7_isOpen l hl G ρ n2 (xs (Int32.toNatClampNeg (x23_4 + 1))) σ85 _ h) q952 q953 q954 q3 q955 ⟨rfl, hd7_isOpen⟩ (by decide) ⟨(show _ + 0 ≤ 601024 by omega), (show _ + 0 ≤ 7293034 by omega)⟩ (by first | exact Nat.le_of_ble_eq_true rfl | (simp [rv_cat]; done) | (simp (decide := true) [rv_cat, cat_ref, cat_int]; done)) rfl dL_law_1512 (fun E σ9 hx => False.elim hx) (fun v151 σ86 ρ86 hp83 hag83 => ?_)
        obtain ⟨e9, r81, e8, h⟩ := hp83
        rw [e8, e9]
        refine xJ.nrm (k' := k + 1) (n' := n + 6) (pc' := 1515) (st' := [.int r81]) rfl rfl rfl rfl ?_
        refine x_istore (L' := [(6, .int r81), (5, .int r80), (0, .ref b), (1, .ref (ρ n1)), (2, .ref (ρ n2)), (3, .ref (ρ n3)), (4, .int x23_4)]) hC dL_law_1515 (by decide) (by first | rfl | simp (decide := true) [rv_cat, cat_ref, cat_int]) ?_
        refine x_aload_n hC 4 rfl dL_law_1517 ?_
        have k94 : hK σ86 n2 = 8 := (hag83 n2 (by rw [k93]; decide)).1.trans k93
        refine x_callV (n0 := n2) (as := []) (rest := []) hC (ci := 7) (r := (RX7, TX7, 36)) k94 rfl (fun l hl => m7_thrown l hl G ρ n2 σ86 _ h) q798 q799 q800 q3 q801 ⟨rfl, hd7_thrown⟩ (by decide) ⟨(show _ + 0 ≤ 601024 by omega), (show _ + 0 ≤ 7293034 by omega)⟩ (by first | exact Nat.le_of_ble_eq_true rfl | (simp [rv_cat]; done) | (simp (decide := true) [rv_cat, cat_ref, cat_int]; done)) rfl dL_law_1518 (fun E σ9 hx => False.elim hx) (fun v152 σ87 ρ87 hp84 hag84 => ?_)
        obtain ⟨e9, r82, e8, h⟩ := hp84
        rw [e8, e9]
        refine xJ.nrm (k' := k + 1) (n' := n + 6) (pc' := 1521) (st' := [.int r82]) rfl rfl rfl rfl ?_
        refine x_iload hC 1 rfl dL_law_1521 ?_
        refine x_icmp_eq (tgt := 1528) hC dL_law_1523 (by decide) (fun c114 => ?_) (fun c114 => ?_)
        · have h := h.1 c114
          refine x_iload hC 1 rfl dL_law_1528 ?_
          refine x_if_ne (tgt := 1552) hC dL_law_1530 (by decide) (fun c115 => ?_) (fun c115 => ?_)
          · have h := h.1 c115
            refine x_goto (tgt := 1555) hC dL_law_1552 (by decide) ?_
            refine x_iinc (v' := x23_4 + 7) (L' := [(4, .int (x23_4 + 7)), (6, .int r81), (5, .int r80), (0, .ref b), (1, .ref (ρ n1)), (2, .ref (ρ n2)), (3, .ref (ρ n3))]) hC 6 rfl dL_law_1555 rfl (by decide) (by first | rfl | simp (decide := true) [rv_cat, cat_ref, cat_int]) ?_
            refine x_goto (tgt := 23) hC dL_law_1558 (by decide) ?_
            refine xJ.sub (L' := [(0, .ref b), (1, .ref (ρ n1)), (2, .ref (ρ n2)), (3, .ref (ρ n3)), (4, .int (x23_4 + 7))]) [3, 4, 5, 6, 0] rfl ?_
            exact ih _ _ _ (show _ + f23 * 1021 ≤ 601024 by omega) (show _ + f23 * 8931 ≤ 7293034 by omega) _ _ h hKK
          · have h := h.2 c115
            refine x_aload_n hC 5 rfl dL_law_1533 ?_
            refine x_iconst (v := 0) hC dL_law_1534 (by decide) ?_
            obtain ⟨k95, h⟩ := h
            obtain ⟨v153, h⟩ := h
            refine x_lald (a := n3) hC k95 v153 dL_law_1535 ?_
            refine x_iload hC 0 rfl dL_law_1536 ?_
            refine x_if_eq (tgt := 1545) hC dL_law_1538 (by decide) (fun c116 => ?_) (fun c116 => ?_)
            · have h := h.1 c116
              refine x_lconst (v := 0) hC dL_law_1545 (by decide) ?_
              refine x_lcmp hC dL_law_1546 ?_
              refine x_if_eq (tgt := 1552) hC dL_law_1547 (by decide) (fun c117 => ?_) (fun c117 => ?_)
              · have h := h.1 c117
                refine x_goto (tgt := 1555) hC dL_law_1552 (by decide) ?_
                refine x_iinc (v' := x23_4 + 7) (L' := [(4, .int (x23_4 + 7)), (6, .int r81), (5, .int r80), (0, .ref b), (1, .ref (ρ n1)), (2, .ref (ρ n2)), (3, .ref (ρ n3))]) hC 6 rfl dL_law_1555 rfl (by decide) (by first | rfl | simp (decide := true) [rv_cat, cat_ref, cat_int]) ?_
                refine x_goto (tgt := 23) hC dL_law_1558 (by decide) ?_
                refine xJ.sub (L' := [(0, .ref b), (1, .ref (ρ n1)), (2, .ref (ρ n2)), (3, .ref (ρ n3)), (4, .int (x23_4 + 7))]) [3, 4, 5, 6, 0] rfl ?_
                exact ih _ _ _ (show _ + f23 * 1021 ≤ 601024 by omega) (show _ + f23 * 8931 ≤ 7293034 by omega) _ _ h hKK
              · have h := h.2 c117
                refine x_iconst (v := 0) hC dL_law_1550 (by decide) ?_
                exact h.elim
            · have h := h.2 c116
              refine x_lconst (v := 1) hC dL_law_1541 (by decide) ?_
              refine x_goto (tgt := 1546) hC dL_law_1542 (by decide) ?_
              refine x_lcmp hC dL_law_1546 ?_
              refine x_if_eq (tgt := 1552) hC dL_law_1547 (by decide) (fun c118 => ?_) (fun c118 => ?_)
              · have h := h.1 c118
                refine x_goto (tgt := 1555) hC dL_law_1552 (by decide) ?_
                refine x_iinc (v' := x23_4 + 7) (L' := [(4, .int (x23_4 + 7)), (6, .int r81), (5, .int r80), (0, .ref b), (1, .ref (ρ n1)), (2, .ref (ρ n2)), (3, .ref (ρ n3))]) hC 6 rfl dL_law_1555 rfl (by decide) (by first | rfl | simp (decide := true) [rv_cat, cat_ref, cat_int]) ?_
                refine x_goto (tgt := 23) hC dL_law_1558 (by decide) ?_
                refine xJ.sub (L' := [(0, .ref b), (1, .ref (ρ n1)), (2, .ref (ρ n2)), (3, .ref (ρ n3)), (4, .int (x23_4 + 7))]) [3, 4, 5, 6, 0] rfl ?_
                exact ih _ _ _ (show _ + f23 * 1021 ≤ 601024 by omega) (show _ + f23 * 8931 ≤ 7293034 by omega) _ _ h hKK
              · have h := h.2 c118
                refine x_iconst (v := 0) hC dL_law_1550 (by decide) ?_
                exact h.elim
        · have h := h.2 c114
          refine x_iconst (v := 0) hC dL_law_1526 (by decide) ?_
          exact h.elim
      · have h := h.2.2.2.2.2.2.2.2.2.2.2.2.2.2.2.2.2.2.2.2.2 he.1
        refine x_tabOut (tgt := 1555) hC he.2 dL_law_40 (by decide) ?_
        refine x_iinc (v' := x23_4 + 7) (L' := [(4, .int (x23_4 + 7)), (0, .ref b), (1, .ref (ρ n1)), (2, .ref (ρ n2)), (3, .ref (ρ n3))]) hC 4 rfl dL_law_1555 rfl (by decide) (by first | rfl | simp (decide := true) [rv_cat, cat_ref, cat_int]) ?_
        refine x_goto (tgt := 23) hC dL_law_1558 (by decide) ?_
        refine xJ.sub (L' := [(0, .ref b), (1, .ref (ρ n1)), (2, .ref (ρ n2)), (3, .ref (ρ n3)), (4, .int (x23_4 + 7))]) [1, 2, 3, 4, 0] rfl ?_
        exact ih _ _ _ (show _ + f23 * 1021 ≤ 601024 by omega) (show _ + f23 * 8931 ≤ 7293034 by omega) _ _ h hKK
set_option maxHeartbeats 4000000 in
set_option maxRecDepth 20000 in
theorem mL_law {G : xG} {X : xX} (hC : xC G X "PlantServerLaw" cL_law 7 rmL_law) (hr : xRt X (some .boolean)) {b Lx : Nat} {xs : Nat → Int32} (hS : xScr G X b Lx xs) {Qz : State → Prop} {ρ : Nm → Nat} {σ : PH} (hZ : ∀ (ρ : Nm → Nat) (σ : PH) (k n : Nat) (L : List (Nat × Value)), k ≤ 601024 → n ≤ 7293034 → xJ G X Qz 7 ρ σ k n 1562 L [.int 1]) (Q : Int32 → PH → Prop) (h : wL_law Lx xs σ Q) : xJ G X Qz 7 ρ σ 0 0 0 [(0, .ref b)] [] := by
  unfold wL_law at h
  obtain ⟨n1, hz1, h⟩ := h
  refine x_new (ci := 6) (T := TX6) (N := 9) (C := RX6) hC n1 hz1 rfl xdf6 q17 q18 q1 (by decide) (by decide) dL_law_0 (fun ρ1 hρ1 => ?_)
  refine xJ.nmH (fun σ1 e1 => ?_)
  have h := h σ1 e1
  have k1 : hK σ1 n1 = 7 := by rw [e1]; exact sN_c
  refine x_dup hC (by first | rfl | exact rv_cat) dL_law_3 ?_
  refine x_callI (as := []) (rest := [.ref (ρ1 n1)]) hC (fun l hl => m6_init l hl G ρ1 n1 σ1 _ h) q19 q20 q1 q21 rfl hd6_init (by decide) ⟨(by decide), (by decide)⟩ (by first | exact Nat.le_of_ble_eq_true rfl | (simp [rv_cat]; done) | (simp (decide := true) [rv_cat, cat_ref, cat_int]; done)) rfl dL_law_4 (fun E σ9 hx => False.elim hx) (fun v1 σ2 ρ2 hp1 hag1 => ?_)
  obtain ⟨e8, h⟩ := hp1
  rw [e8]
  rw [← (hag1 n1 (by rw [k1]; decide)).2]
  refine xJ.nrm (k' := 9) (n' := 1583) (pc' := 7) (st' := [.ref (ρ2 n1)]) rfl rfl rfl rfl ?_
  refine x_astore_n (L' := [(1, .ref (ρ2 n1)), (0, .ref b)]) hC dL_law_7 (by decide) (by first | rfl | simp (decide := true) [rv_cat, cat_ref, cat_int]) ?_
  obtain ⟨n2, hz2, h⟩ := h
  have k2 : hK σ2 n1 = 7 := (hag1 n1 (by rw [k1]; decide)).1.trans k1
  refine x_new (ci := 7) (T := TX7) (N := 36) (C := RX7) hC n2 hz2 rfl xdf7 q683 q684 q3 (by decide) (by decide) dL_law_8 (fun ρ3 hρ2 => ?_)
  rw [← hρ2 n1 (by rw [k2]; decide)]
  refine xJ.nmH (fun σ3 e2 => ?_)
  have h := h σ3 e2
  have k3 : hK σ3 n2 = 8 := by rw [e2]; exact sN_c
  refine x_dup hC (by first | rfl | exact rv_cat) dL_law_11 ?_
  have k4 : hK σ3 n1 = 7 := by rw [e2]; exact sN_k hz2 k2 (by decide)
  refine x_callI (as := []) (rest := [.ref (ρ3 n2)]) hC (fun l hl => m7_init l hl G ρ3 n2 σ3 _ h) q685 q686 q3 q687 rfl hd7_init (by decide) ⟨(by decide), (by decide)⟩ (by first | exact Nat.le_of_ble_eq_true rfl | (simp [rv_cat]; done) | (simp (decide := true) [rv_cat, cat_ref, cat_int]; done)) rfl dL_law_12 (fun E σ9 hx => False.elim hx) (fun v2 σ4 ρ4 hp2 hag2 => ?_)
  obtain ⟨e8, h⟩ := hp2
  rw [e8]
  rw [← (hag2 n1 (by rw [k4]; decide)).2, ← (hag2 n2 (by rw [k3]; decide)).2]
  refine xJ.nrm (k' := 41) (n' := 2633) (pc' := 15) (st' := [.ref (ρ4 n2)]) rfl rfl rfl rfl ?_
  refine x_astore_n (L' := [(2, .ref (ρ4 n2)), (1, .ref (ρ4 n1)), (0, .ref b)]) hC dL_law_15 (by decide) (by first | rfl | simp (decide := true) [rv_cat, cat_ref, cat_int]) ?_
  refine x_iconst (v := 1) hC dL_law_16 (by decide) ?_
  obtain ⟨n3, hz3, h⟩ := h
  have k5 : hK σ4 n2 = 8 := (hag2 n2 (by rw [k3]; decide)).1.trans k3
  have k6 : hK σ4 n1 = 7 := (hag2 n1 (by rw [k4]; decide)).1.trans k4
  refine x_newa (kd := 14) (N := 1) (by decide) hC n3 hz3 .long rfl (by decide) (by decide) q956 (by decide) (by decide) dL_law_17 (fun ρ5 hρ3 => ?_)
  rw [← hρ3 n2 (by rw [k5]; decide), ← hρ3 n1 (by rw [k6]; decide)]
  refine xJ.nmH (fun σ5 e3 => ?_)
  have h := h σ5 e3
  have k7 : hK σ5 n3 = 14 := by rw [e3]; exact sN_c
  refine x_astore_n (L' := [(3, .ref (ρ5 n3)), (2, .ref (ρ5 n2)), (1, .ref (ρ5 n1)), (0, .ref b)]) hC dL_law_19 (by decide) (by first | rfl | simp (decide := true) [rv_cat, cat_ref, cat_int]) ?_
  refine x_iconst (v := 0) hC dL_law_20 (by decide) ?_
  refine x_istore (L' := [(4, .int 0), (3, .ref (ρ5 n3)), (2, .ref (ρ5 n2)), (1, .ref (ρ5 n1)), (0, .ref b)]) hC dL_law_21 (by decide) (by first | rfl | simp (decide := true) [rv_cat, cat_ref, cat_int]) ?_
  refine xJ.sub (L' := [(0, .ref b), (1, .ref (ρ5 n1)), (2, .ref (ρ5 n2)), (3, .ref (ρ5 n3)), (4, .int 0)]) [4, 3, 2, 1, 0] rfl ?_
  obtain ⟨f23, hf, h⟩ := h
  refine mlL_law_23 hC hr hS n1 n2 n3 _ Q xNo f23 ρ5 _ _ (show _ + f23 * 1021 ≤ 601024 by omega) (show _ + f23 * 8931 ≤ 7293034 by omega) _ _ h (fun y1 τ1 ρ88 kk1 nn1 h7 h8 h => ?_)
  refine x_iconst (v := 1) hC dL_law_1561 (by decide) ?_
  exact hZ _ _ _ _ _ (show _ ≤ 601024 by omega) (show _ ≤ 7293034 by omega)
