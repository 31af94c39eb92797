/-! PlantServerModel.isTold -/
theorem dX7_isTold_0 : decode cX7_isTold 0 = .ok (.aload_n 0, 1) := by decide +kernel
theorem dX7_isTold_1 : decode cX7_isTold 1 = .ok (.iload_n 2, 1) := by decide +kernel
theorem dX7_isTold_2 : decode cX7_isTold 2 = .ok (.invokevirtual 142, 3) := by decide +kernel
theorem dX7_isTold_5 : decode cX7_isTold 5 = .ok (.istore_n 3, 1) := by decide +kernel
theorem dX7_isTold_6 : decode cX7_isTold 6 = .ok (.iconst 0, 1) := by decide +kernel
theorem dX7_isTold_7 : decode cX7_isTold 7 = .ok (.istore 4, 2) := by decide +kernel
theorem dX7_isTold_9 : decode cX7_isTold 9 = .ok (.iload 4, 2) := by decide +kernel
theorem dX7_isTold_11 : decode cX7_isTold 11 = .ok (.aload_n 0, 1) := by decide +kernel
theorem dX7_isTold_12 : decode cX7_isTold 12 = .ok (.getfield 115, 3) := by decide +kernel
theorem dX7_isTold_15 : decode cX7_isTold 15 = .ok (.if_icmp .ge 54, 3) := by decide +kernel
theorem dX7_isTold_18 : decode cX7_isTold 18 = .ok (.iload_n 3, 1) := by decide +kernel
theorem dX7_isTold_19 : decode cX7_isTold 19 = .ok (.ifCond .ne 38, 3) := by decide +kernel
theorem dX7_isTold_22 : decode cX7_isTold 22 = .ok (.aload_n 0, 1) := by decide +kernel
theorem dX7_isTold_23 : decode cX7_isTold 23 = .ok (.getfield 47, 3) := by decide +kernel
theorem dX7_isTold_26 : decode cX7_isTold 26 = .ok (.iload 4, 2) := by decide +kernel
theorem dX7_isTold_28 : decode cX7_isTold 28 = .ok (.iaload, 1) := by decide +kernel
theorem dX7_isTold_29 : decode cX7_isTold 29 = .ok (.iload_n 1, 1) := by decide +kernel
theorem dX7_isTold_30 : decode cX7_isTold 30 = .ok (.if_icmp .ne 31, 3) := by decide +kernel
theorem dX7_isTold_33 : decode cX7_isTold 33 = .ok (.aload_n 0, 1) := by decide +kernel
theorem dX7_isTold_34 : decode cX7_isTold 34 = .ok (.iload 4, 2) := by decide +kernel
theorem dX7_isTold_36 : decode cX7_isTold 36 = .ok (.invokevirtual 142, 3) := by decide +kernel
theorem dX7_isTold_39 : decode cX7_isTold 39 = .ok (.ifCond .eq 22, 3) := by decide +kernel
theorem dX7_isTold_42 : decode cX7_isTold 42 = .ok (.aload_n 0, 1) := by decide +kernel
theorem dX7_isTold_43 : decode cX7_isTold 43 = .ok (.getfield 71, 3) := by decide +kernel
theorem dX7_isTold_46 : decode cX7_isTold 46 = .ok (.iload 4, 2) := by decide +kernel
theorem dX7_isTold_48 : decode cX7_isTold 48 = .ok (.iaload, 1) := by decide +kernel
theorem dX7_isTold_49 : decode cX7_isTold 49 = .ok (.iload_n 2, 1) := by decide +kernel
theorem dX7_isTold_50 : decode cX7_isTold 50 = .ok (.ishr, 1) := by decide +kernel
theorem dX7_isTold_51 : decode cX7_isTold 51 = .ok (.iconst 1, 1) := by decide +kernel
theorem dX7_isTold_52 : decode cX7_isTold 52 = .ok (.iand, 1) := by decide +kernel
theorem dX7_isTold_53 : decode cX7_isTold 53 = .ok (.iconst 1, 1) := by decide +kernel
theorem dX7_isTold_54 : decode cX7_isTold 54 = .ok (.if_icmp .ne 7, 3) := by decide +kernel
theorem dX7_isTold_57 : decode cX7_isTold 57 = .ok (.iconst 1, 1) := by decide +kernel
theorem dX7_isTold_58 : decode cX7_isTold 58 = .ok (.goto 4, 3) := by decide +kernel
theorem dX7_isTold_61 : decode cX7_isTold 61 = .ok (.iconst 0, 1) := by decide +kernel
theorem dX7_isTold_62 : decode cX7_isTold 62 = .ok (.istore_n 3, 1) := by decide +kernel
theorem dX7_isTold_63 : decode cX7_isTold 63 = .ok (.iinc 4 1, 3) := by decide +kernel
theorem dX7_isTold_66 : decode cX7_isTold 66 = .ok (.goto (-57), 3) := by decide +kernel
theorem dX7_isTold_69 : decode cX7_isTold 69 = .ok (.aload_n 0, 1) := by decide +kernel
theorem dX7_isTold_70 : decode cX7_isTold 70 = .ok (.getfield 47, 3) := by decide +kernel
theorem dX7_isTold_73 : decode cX7_isTold 73 = .ok (.iload_n 2, 1) := by decide +kernel
theorem dX7_isTold_74 : decode cX7_isTold 74 = .ok (.iaload, 1) := by decide +kernel
theorem dX7_isTold_75 : decode cX7_isTold 75 = .ok (.iload_n 1, 1) := by decide +kernel
theorem dX7_isTold_76 : decode cX7_isTold 76 = .ok (.if_icmp .ne 20, 3) := by decide +kernel
theorem dX7_isTold_79 : decode cX7_isTold 79 = .ok (.aload_n 0, 1) := by decide +kernel
theorem dX7_isTold_80 : decode cX7_isTold 80 = .ok (.getfield 80, 3) := by decide +kernel
theorem dX7_isTold_83 : decode cX7_isTold 83 = .ok (.iload_n 2, 1) := by decide +kernel
theorem dX7_isTold_84 : decode cX7_isTold 84 = .ok (.iaload, 1) := by decide +kernel
theorem dX7_isTold_85 : decode cX7_isTold 85 = .ok (.ifCond .le 11, 3) := by decide +kernel
theorem dX7_isTold_88 : decode cX7_isTold 88 = .ok (.iload_n 3, 1) := by decide +kernel
theorem dX7_isTold_89 : decode cX7_isTold 89 = .ok (.ifCond .eq 7, 3) := by decide +kernel
theorem dX7_isTold_92 : decode cX7_isTold 92 = .ok (.iconst 1, 1) := by decide +kernel
theorem dX7_isTold_93 : decode cX7_isTold 93 = .ok (.goto 4, 3) := by decide +kernel
theorem dX7_isTold_96 : decode cX7_isTold 96 = .ok (.iconst 0, 1) := by decide +kernel
theorem dX7_isTold_97 : decode cX7_isTold 97 = .ok (.ireturn, 1) := by decide +kernel
abbrev rm7_isTold : Room := { frames := 1, cells := 0, slots := 0, locals := 21 }
theorem hd7_isTold : yX7_isTold.cls ≠ "java/lang/invoke/MethodHandle" ∧ yX7_isTold.cls ≠ "java/lang/invoke/VarHandle" ∧ (parseMethodDescriptor yX7_isTold.desc).map (fun d => d.parameters.length) = some 2 := by decide +kernel
set_option maxHeartbeats 4000000 in
set_option maxRecDepth 20000 in
theorem ml7_isTold_9 {G : xG} {X : xX} (hC : xC G X "PlantServerModel" cX7_isTold 5 rm7_isTold) (hr : xRt X (some .boolean)) (htab : xTab X []) (this : Nm) (p1 : Int32) (p2 : Int32) (r1 : Int32) {ρ : Nm → Nat} (h0 : xR0 X ρ) (k n : Nat) (hk1 : k ≤ 0) (hk2 : n ≤ 0) (K : Int32 → Int32 → PH → Prop) (Q : Int32 → PH → Prop) (Xp : String → PH → Prop) : ∀ (f9 : Nat) (x9_3 : Int32) (x9_4 : Int32) (τ9 : PH), l7_isTold_9 this p1 p2 r1 K Q f9 x9_3 x9_4 τ9 → (∀ (x9_3 : Int32) (x9_4 : Int32) (τ9 : PH), K x9_3 x9_4 τ9 → xJ G X (xT X (eI ρ Q) Xp G rm7_isTold) 5 ρ τ9 k n 69 [(0, .ref (ρ this)), (1, .int p1), (2, .int p2), (3, .int x9_3), (4, .int x9_4)] []) → xJ G X (xT X (eI ρ Q) Xp G rm7_isTold) 5 ρ τ9 k n 9 [(0, .ref (ρ this)), (1, .int p1), (2, .int p2), (3, .int x9_3), (4, .int x9_4)] [] := by
  intro f9
  induction f9 with
  | zero => intro x9_3 x9_4 τ9 h hKK; unfold l7_isTold_9 at h; exact h.elim
  | succ f9 ih =>
    intro x9_3 x9_4 τ9 h hKK
    unfold l7_isTold_9 at h
    refine x_iload hC 4 rfl dX7_isTold_9 ?_
    refine x_aload_n hC 0 rfl dX7_isTold_11 ?_
    obtain ⟨k2, h⟩ := h
    refine x_getI (n0 := this) hC (ci := 7) (T := TX7) (N := 36) (C := RX7) 15 k2 rfl rfl (by decide) rfl q704 dX7_isTold_12 ?_
    refine x_icmp_ge (tgt := 69) hC dX7_isTold_15 (by decide) (fun c1 => ?_) (fun c1 => ?_)
    · have h := h.1 c1
      exact hKK _ _ _ h
    · have h := h.2 c1
      refine x_iload_n hC 3 rfl dX7_isTold_18 ?_
      refine x_if_ne (tgt := 57) hC dX7_isTold_19 (by decide) (fun c2 => ?_) (fun c2 => ?_)
      · have h := h.1 c2
        refine x_iconst (v := 1) hC dX7_isTold_57 (by decide) ?_
        refine x_goto (tgt := 62) hC dX7_isTold_58 (by decide) ?_
        refine x_istore_n (L' := [(3, .int 1), (0, .ref (ρ this)), (1, .int p1), (2, .int p2), (4, .int x9_4)]) hC dX7_isTold_62 (by decide) (by first | rfl | simp (decide := true) [rv_cat, cat_ref, cat_int]) ?_
        refine x_iinc (v' := x9_4 + 1) (L' := [(4, .int (x9_4 + 1)), (3, .int 1), (0, .ref (ρ this)), (1, .int p1), (2, .int p2)]) hC 4 rfl dX7_isTold_63 rfl (by decide) (by first | rfl | simp (decide := true) [rv_cat, cat_ref, cat_int]) ?_
        refine x_goto (tgt := 9) hC dX7_isTold_66 (by decide) ?_
        refine xJ.sub (L' := [(0, .ref (ρ this)), (1, .int p1), (2, .int p2), (3, .int 1), (4, .int (x9_4 + 1))]) [2, 3, 4, 1, 0] rfl ?_
        exact ih _ _ _ h hKK
      · have h := h.2 c2
        refine x_aload_n hC 0 rfl dX7_isTold_22 ?_
        refine x_getR (n0 := this) hC (ci := 7) (T := TX7) (N := 36) (C := RX7) 16 k2 rfl rfl (by decide) rfl q705 dX7_isTold_23 ?_
        refine x_iload hC 4 rfl dX7_isTold_26 ?_
        obtain ⟨m1, hm1, h⟩ := h
        rw [show rv ρ (hR τ9 this 16) = Value.ref (ρ m1) from by rw [hm1]; rfl]
        obtain ⟨k3, h⟩ := h
        obtain ⟨v2, h⟩ := h
        refine x_iald (a := m1) hC k3 v2 dX7_isTold_28 ?_
        refine x_iload_n hC 1 rfl dX7_isTold_29 ?_
        refine x_icmp_ne (tgt := 61) hC dX7_isTold_30 (by decide) (fun c3 => ?_) (fun c3 => ?_)
        · have h := h.1 c3
          refine x_iconst (v := 0) hC dX7_isTold_61 (by decide) ?_
          refine x_istore_n (L' := [(3, .int 0), (0, .ref (ρ this)), (1, .int p1), (2, .int p2), (4, .int x9_4)]) hC dX7_isTold_62 (by decide) (by first | rfl | simp (decide := true) [rv_cat, cat_ref, cat_int]) ?_
          refine x_iinc (v' := x9_4 + 1) (L' := [(4, .int (x9_4 + 1)), (3, .int 0), (0, .ref (ρ this)), (1, .int p1), (2, .int p2)]) hC 4 rfl dX7_isTold_63 rfl (by decide) (by first | rfl | simp (decide := true) [rv_cat, cat_ref, cat_int]) ?_
          refine x_goto (tgt := 9) hC dX7_isTold_66 (by decide) ?_
          refine xJ.sub (L' := [(0, .ref (ρ this)), (1, .int p1), (2, .int p2), (3, .int 0), (4, .int (x9_4 + 1))]) [2, 3, 4, 1, 0] rfl ?_
          exact ih _ _ _ h hKK
        · have h := h.2 c3
          refine x_aload_n hC 0 rfl dX7_isTold_33 ?_
          refine x_iload hC 4 rfl dX7_isTold_34 ?_
          refine x_callV (n0 := this) (as := [.int x9_4]) (rest := []) hC (ci := 7) (r := (RX7, TX7, 36)) k2 rfl (fun l hl => m7_tells l hl G ρ this x9_4 τ9 _ h) q876 q878 s23 q3 q879 ⟨rfl, hd7_tells⟩ (by decide) ⟨(show _ + 0 ≤ 0 by omega), (show _ + 0 ≤ 0 by omega)⟩ (by first | exact Nat.le_of_ble_eq_true rfl | (simp [rv_cat]; done) | (simp (decide := true) [rv_cat, cat_ref, cat_int]; done)) rfl dX7_isTold_36 (fun E σ9 hx => False.elim hx) (fun v3 σ2 ρ2 hp2 hag2 => ?_)
          obtain ⟨e9, r2, e8, h⟩ := hp2
          rw [e8, e9]
          refine xJ.nrm (k' := k + 0) (n' := n + 0) (pc' := 39) (st' := [.int r2]) rfl rfl rfl rfl ?_
          refine x_if_eq (tgt := 61) hC dX7_isTold_39 (by decide) (fun c4 => ?_) (fun c4 => ?_)
          · have h := h.1 c4
            refine x_iconst (v := 0) hC dX7_isTold_61 (by decide) ?_
            refine x_istore_n (L' := [(3, .int 0), (0, .ref (ρ this)), (1, .int p1), (2, .int p2), (4, .int x9_4)]) hC dX7_isTold_62 (by decide) (by first | rfl | simp (decide := true) [rv_cat, cat_ref, cat_int]) ?_
            refine x_iinc (v' := x9_4 + 1) (L' := [(4, .int (x9_4 + 1)), (3, .int 0), (0, .ref (ρ this)), (1, .int p1), (2, .int p2)]) hC 4 rfl dX7_isTold_63 rfl (by decide) (by first | rfl | simp (decide := true) [rv_cat, cat_ref, cat_int]) ?_
            refine x_goto (tgt := 9) hC dX7_isTold_66 (by decide) ?_
            refine xJ.sub (L' := [(0, .ref (ρ this)), (1, .int p1), (2, .int p2), (3, .int 0), (4, .int (x9_4 + 1))]) [2, 3, 4, 1, 0] rfl ?_
            exact ih _ _ _ h hKK
          · have h := h.2 c4
            refine x_aload_n hC 0 rfl dX7_isTold_42 ?_
            have k4 : hK σ2 this = 8 := (hag2 this (by rw [k2]; decide)).1.trans k2
            refine x_getR (n0 := this) hC (ci := 7) (T := TX7) (N := 36) (C := RX7) 24 k4 rfl rfl (by decide) rfl q713 dX7_isTold_43 ?_
            refine x_iload hC 4 rfl dX7_isTold_46 ?_
            obtain ⟨m2, hm2, h⟩ := h
            rw [show rv ρ (hR σ2 this 24) = Value.ref (ρ m2) from by rw [hm2]; rfl]
            obtain ⟨k5, h⟩ := h
            obtain ⟨v4, h⟩ := h
            refine x_iald (a := m2) hC k5 v4 dX7_isTold_48 ?_
            refine x_iload_n hC 2 rfl dX7_isTold_49 ?_
            refine x_ishr hC dX7_isTold_50 ?_
            refine x_iconst (v := 1) hC dX7_isTold_51 (by decide) ?_
            refine x_iand hC dX7_isTold_52 ?_
            refine x_iconst (v := 1) hC dX7_isTold_53 (by decide) ?_
            refine x_icmp_ne (tgt := 61) hC dX7_isTold_54 (by decide) (fun c5 => ?_) (fun c5 => ?_)
            · have h := h.1 c5
              refine x_iconst (v := 0) hC dX7_isTold_61 (by decide) ?_
              refine x_istore_n (L' := [(3, .int 0), (0, .ref (ρ this)), (1, .int p1), (2, .int p2), (4, .int x9_4)]) hC dX7_isTold_62 (by decide) (by first | rfl | simp (decide := true) [rv_cat, cat_ref, cat_int]) ?_
              refine x_iinc (v' := x9_4 + 1) (L' := [(4, .int (x9_4 + 1)), (3, .int 0), (0, .ref (ρ this)), (1, .int p1), (2, .int p2)]) hC 4 rfl dX7_isTold_63 rfl (by decide) (by first | rfl | simp (decide := true) [rv_cat, cat_ref, cat_int]) ?_
              refine x_goto (tgt := 9) hC dX7_isTold_66 (by decide) ?_
              refine xJ.sub (L' := [(0, .ref (ρ this)), (1, .int p1), (2, .int p2), (3, .int 0), (4, .int (x9_4 + 1))]) [2, 3, 4, 1, 0] rfl ?_
              exact ih _ _ _ h hKK
            · have h := h.2 c5
              refine x_iconst (v := 1) hC dX7_isTold_57 (by decide) ?_
              refine x_goto (tgt := 62) hC dX7_isTold_58 (by decide) ?_
              refine x_istore_n (L' := [(3, .int 1), (0, .ref (ρ this)), (1, .int p1), (2, .int p2), (4, .int x9_4)]) hC dX7_isTold_62 (by decide) (by first | rfl | simp (decide := true) [rv_cat, cat_ref, cat_int]) ?_
              refine x_iinc (v' := x9_4 + 1) (L' := [(4, .int (x9_4 + 1)), (3, .int 1), (0, .ref (ρ this)), (1, .int p1), (2, .int p2)]) hC 4 rfl dX7_isTold_63 rfl (by decide) (by first | rfl | simp (decide := true) [rv_cat, cat_ref, cat_int]) ?_
              refine x_goto (tgt := 9) hC dX7_isTold_66 (by decide) ?_
              refine xJ.sub (L' := [(0, .ref (ρ this)), (1, .int p1), (2, .int p2), (3, .int 1), (4, .int (x9_4 + 1))]) [2, 3, 4, 1, 0] rfl ?_
              exact ih _ _ _ h hKK
set_option maxHeartbeats 4000000 in
set_option maxRecDepth 20000 in
theorem m7_isTold (l : Launch) (hl : l.stackTraces = false) (G : xG) (ρ : Nm → Nat) (this : Nm) (p1 : Int32) (p2 : Int32) (σ : PH) (Q : Int32 → PH → Prop) (h : w7_isTold this p1 p2 σ Q) : xMet l yX7_isTold (.code yX7_isTold cX7_isTold 5 (some .boolean)) rm7_isTold G ρ σ [.ref (ρ this), .int p1, .int p2] (eI ρ Q) xNo := by
  refine xMet.of hl (by decide +kernel) (Nat.le_of_ble_eq_true rfl) (fun X hC hr hn htab h0 => ?_)
  have hC : xC G X "PlantServerModel" cX7_isTold 5 rm7_isTold := hC
  unfold w7_isTold at h
  refine xJ.loc (L' := [(0, .ref (ρ this)), (1, .int p1), (2, .int p2)]) rfl ?_
  refine x_aload_n hC 0 rfl dX7_isTold_0 ?_
  refine x_iload_n hC 2 rfl dX7_isTold_1 ?_
  obtain ⟨k1, h⟩ := h
  refine x_callV (n0 := this) (as := [.int p2]) (rest := []) hC (ci := 7) (r := (RX7, TX7, 36)) k1 rfl (fun l hl => m7_tells l hl G ρ this p2 σ _ h) q876 q878 s23 q3 q879 ⟨rfl, hd7_tells⟩ (by decide) ⟨(by decide), (by decide)⟩ (by first | exact Nat.le_of_ble_eq_true rfl | (simp [rv_cat]; done) | (simp (decide := true) [rv_cat, cat_ref, cat_int]; done)) rfl dX7_isTold_2 (fun E σ9 hx => False.elim hx) (fun v1 σ1 ρ1 hp1 hag1 => ?_)
  obtain ⟨e9, r1, e8, h⟩ := hp1
  rw [e8, e9]
  refine xJ.nrm (k' := 0) (n' := 0) (pc' := 5) (st' := [.int r1]) rfl rfl rfl rfl ?_
  refine x_istore_n (L' := [(3, .int r1), (0, .ref (ρ this)), (1, .int p1), (2, .int p2)]) hC dX7_isTold_5 (by decide) (by first | rfl | simp (decide := true) [rv_cat, cat_ref, cat_int]) ?_
  refine x_iconst (v := 0) hC dX7_isTold_6 (by decide) ?_
  refine x_istore (L' := [(4, .int 0), (3, .int r1), (0, .ref (ρ this)), (1, .int p1), (2, .int p2)]) hC dX7_isTold_7 (by decide) (by first | rfl | simp (decide := true) [rv_cat, cat_ref, cat_int]) ?_
  refine xJ.sub (L' := [(0, .ref (ρ this)), (1, .int p1), (2, .int p2), (3, .int r1), (4, .int 0)]) [2, 3, 4, 1, 0] rfl ?_
  obtain ⟨f9, h⟩ := h
  refine ml7_isTold_9 hC hr htab this p1 p2 r1 h0 (0) (0) (by decide) (by decide) _ Q _ f9 _ _ _ h (fun y1 y2 τ1 h => ?_)
  refine x_aload_n hC 0 rfl dX7_isTold_69 ?_
  obtain ⟨k6, h⟩ := h
  refine x_getR (n0 := this) hC (ci := 7) (T := TX7) (N := 36) (C := RX7) 16 k6 rfl rfl (by decide) rfl q705 dX7_isTold_70 ?_
  refine x_iload_n hC 2 rfl dX7_isTold_73 ?_
  obtain ⟨m3, hm3, h⟩ := h
  rw [show rv ρ (hR τ1 this 16) = Value.ref (ρ m3) from by rw [hm3]; rfl]
  obtain ⟨k7, h⟩ := h
  obtain ⟨v5, h⟩ := h
  refine x_iald (a := m3) hC k7 v5 dX7_isTold_74 ?_
  refine x_iload_n hC 1 rfl dX7_isTold_75 ?_
  refine x_icmp_ne (tgt := 96) hC dX7_isTold_76 (by decide) (fun c6 => ?_) (fun c6 => ?_)
  · have h := h.1 c6
    refine x_iconst (v := 0) hC dX7_isTold_96 (by decide) ?_
    exact x_zret hC hr zb0 dX7_isTold_97 (by decide) (by decide) ⟨rfl, _, rfl, h⟩
  · have h := h.2 c6
    refine x_aload_n hC 0 rfl dX7_isTold_79 ?_
    refine x_getR (n0 := this) hC (ci := 7) (T := TX7) (N := 36) (C := RX7) 27 k6 rfl rfl (by decide) rfl q716 dX7_isTold_80 ?_
    refine x_iload_n hC 2 rfl dX7_isTold_83 ?_
    obtain ⟨m4, hm4, h⟩ := h
    rw [show rv ρ (hR τ1 this 27) = Value.ref (ρ m4) from by rw [hm4]; rfl]
    obtain ⟨k8, h⟩ := h
    obtain ⟨v6, h⟩ := h
    refine x_iald (a := m4) hC k8 v6 dX7_isTold_84 ?_
    refine x_if_le (tgt := 96) hC dX7_isTold_85 (by decide) (fun c7 => ?_) (fun c7 => ?_)
    · have h := h.1 c7
      refine x_iconst (v := 0) hC dX7_isTold_96 (by decide) ?_
      exact x_zret hC hr zb0 dX7_isTold_97 (by decide) (by decide) ⟨rfl, _, rfl, h⟩
    · have h := h.2 c7
      refine x_iload_n hC 3 rfl dX7_isTold_88 ?_
      refine x_if_eq (tgt := 96) hC dX7_isTold_89 (by decide) (fun c8 => ?_) (fun c8 => ?_)
      · have h := h.1 c8
        refine x_iconst (v := 0) hC dX7_isTold_96 (by decide) ?_
        exact x_zret hC hr zb0 dX7_isTold_97 (by decide) (by decide) ⟨rfl, _, rfl, h⟩
      · have h := h.2 c8
        refine x_iconst (v := 1) hC dX7_isTold_92 (by decide) ?_
        refine x_goto (tgt := 97) hC dX7_isTold_93 (by decide) ?_
        exact x_zret hC hr zb1 dX7_isTold_97 (by decide) (by decide) ⟨rfl, _, rfl, h⟩
/-! PlantServerModel.toldItems -/
theorem dX7_toldItems_0 : decode cX7_toldItems 0 = .ok (.iconst 0, 1) := by decide +kernel
theorem dX7_toldItems_1 : decode cX7_toldItems 1 = .ok (.istore_n 2, 1) := by decide +kernel
theorem dX7_toldItems_2 : decode cX7_toldItems 2 = .ok (.iconst 0, 1) := by decide +kernel
theorem dX7_toldItems_3 : decode cX7_toldItems 3 = .ok (.istore_n 3, 1) := by decide +kernel
theorem dX7_toldItems_4 : decode cX7_toldItems 4 = .ok (.iload_n 3, 1) := by decide +kernel
theorem dX7_toldItems_5 : decode cX7_toldItems 5 = .ok (.aload_n 0, 1) := by decide +kernel
theorem dX7_toldItems_6 : decode cX7_toldItems 6 = .ok (.getfield 115, 3) := by decide +kernel
theorem dX7_toldItems_9 : decode cX7_toldItems 9 = .ok (.if_icmp .ge 28, 3) := by decide +kernel
theorem dX7_toldItems_12 : decode cX7_toldItems 12 = .ok (.iload_n 2, 1) := by decide +kernel
theorem dX7_toldItems_13 : decode cX7_toldItems 13 = .ok (.aload_n 0, 1) := by decide +kernel
theorem dX7_toldItems_14 : decode cX7_toldItems 14 = .ok (.iload_n 1, 1) := by decide +kernel
theorem dX7_toldItems_15 : decode cX7_toldItems 15 = .ok (.iload_n 3, 1) := by decide +kernel
theorem dX7_toldItems_16 : decode cX7_toldItems 16 = .ok (.invokevirtual 145, 3) := by decide +kernel
theorem dX7_toldItems_19 : decode cX7_toldItems 19 = .ok (.ifCond .eq 9, 3) := by decide +kernel
theorem dX7_toldItems_22 : decode cX7_toldItems 22 = .ok (.iconst 1, 1) := by decide +kernel
theorem dX7_toldItems_23 : decode cX7_toldItems 23 = .ok (.iload_n 3, 1) := by decide +kernel
theorem dX7_toldItems_24 : decode cX7_toldItems 24 = .ok (.ishl, 1) := by decide +kernel
theorem dX7_toldItems_25 : decode cX7_toldItems 25 = .ok (.goto 4, 3) := by decide +kernel
theorem dX7_toldItems_28 : decode cX7_toldItems 28 = .ok (.iconst 0, 1) := by decide +kernel
theorem dX7_toldItems_29 : decode cX7_toldItems 29 = .ok (.ior, 1) := by decide +kernel
theorem dX7_toldItems_30 : decode cX7_toldItems 30 = .ok (.istore_n 2, 1) := by decide +kernel
theorem dX7_toldItems_31 : decode cX7_toldItems 31 = .ok (.iinc 3 1, 3) := by decide +kernel
theorem dX7_toldItems_34 : decode cX7_toldItems 34 = .ok (.goto (-30), 3) := by decide +kernel
theorem dX7_toldItems_37 : decode cX7_toldItems 37 = .ok (.iload_n 2, 1) := by decide +kernel
theorem dX7_toldItems_38 : decode cX7_toldItems 38 = .ok (.ireturn, 1) := by decide +kernel
abbrev rm7_toldItems : Room := { frames := 2, cells := 0, slots := 0, locals := 45 }
theorem hd7_toldItems : yX7_toldItems.cls ≠ "java/lang/invoke/MethodHandle" ∧ yX7_toldItems.cls ≠ "java/lang/invoke/VarHandle" ∧ (parseMethodDescriptor yX7_toldItems.desc).map (fun d => d.parameters.length) = some 1 := by decide +kernel
set_option maxHeartbeats 4000000 in
set_option maxRecDepth 20000 in
theorem ml7_toldItems_4 {G : xG} {X : xX} (hC : xC G X "PlantServerModel" cX7_toldItems 4 rm7_toldItems) (hr : xRt X (some .int)) (htab : xTab X []) (this : Nm) (p1 : Int32) {ρ : Nm → Nat} (h0 : xR0 X ρ) (k n : Nat) (hk1 : k ≤ 0) (hk2 : n ≤ 0) (K : Int32 → Int32 → PH → Prop) (Q : Int32 → PH → Prop) (Xp : String → PH → Prop) : ∀ (f4 : Nat) (x4_2 : Int32) (x4_3 : Int32) (τ4 : PH), l7_toldItems_4 this p1 K Q f4 x4_2 x4_3 τ4 → (∀ (x4_2 : Int32) (x4_3 : Int32) (τ4 : PH), K x4_2 x4_3 τ4 → xJ G X (xT X (eI ρ Q) Xp G rm7_toldItems) 4 ρ τ4 k n 37 [(0, .ref (ρ this)), (1, .int p1), (2, .int x4_2), (3, .int x4_3)] []) → xJ G X (xT X (eI ρ Q) Xp G rm7_toldItems) 4 ρ τ4 k n 4 [(0, .ref (ρ this)), (1, .int p1), (2, .int x4_2), (3, .int x4_3)] [] := by
  intro f4
  induction f4 with
  | zero => intro x4_2 x4_3 τ4 h hKK; unfold l7_toldItems_4 at h; exact h.elim
  | succ f4 ih =>
    intro x4_2 x4_3 τ4 h hKK
    unfold l7_toldItems_4 at h
    refine x_iload_n hC 3 rfl dX7_toldItems_4 ?_
    refine x_aload_n hC 0 rfl dX7_toldItems_5 ?_
    obtain ⟨k1, h⟩ := h
    refine x_getI (n0 := this) hC (ci := 7) (T := TX7) (N := 36) (C := RX7) 15 k1 rfl rfl (by decide) rfl q704 dX7_toldItems_6 ?_
    refine x_icmp_ge (tgt := 37) hC dX7_toldItems_9 (by decide) (fun c1 => ?_) (fun c1 => ?_)
    · have h := h.1 c1
      exact hKK _ _ _ h
    · have h := h.2 c1
      refine x_iload_n hC 2 rfl dX7_toldItems_12 ?_
      refine x_aload_n hC 0 rfl dX7_toldItems_13 ?_
      refine x_iload_n hC 1 rfl dX7_toldItems_14 ?_
      refine x_iload_n hC 3 rfl dX7_toldItems_15 ?_
      refine x_callV (n0 := this) (as := [.int p1, .int x4_3]) (rest := [.int x4_2]) hC (ci := 7) (r := (RX7, TX7, 36)) k1 rfl (fun l hl => m7_isTold l hl G ρ this p1 x4_3 τ4 _ h) q872 q874 s22 q3 q875 ⟨rfl, hd7_isTold⟩ (by decide) ⟨(show _ + 0 ≤ 0 by omega), (show _ + 0 ≤ 0 by omega)⟩ (by first | exact Nat.le_of_ble_eq_true rfl | (simp [rv_cat]; done) | (simp (decide := true) [rv_cat, cat_ref, cat_int]; done)) rfl dX7_toldItems_16 (fun E σ9 hx => False.elim hx) (fun v1 σ1 ρ1 hp1 hag1 => ?_)
      obtain ⟨e9, r1, e8, h⟩ := hp1
      rw [e8, e9]
      refine xJ.nrm (k' := k + 0) (n' := n + 0) (pc' := 19) (st' := [.int r1, .int x4_2]) rfl rfl rfl rfl ?_
      refine x_if_eq (tgt := 28) hC dX7_toldItems_19 (by decide) (fun c2 => ?_) (fun c2 => ?_)
      · have h := h.1 c2
        refine x_iconst (v := 0) hC dX7_toldItems_28 (by decide) ?_
        refine x_ior hC dX7_toldItems_29 ?_
        refine x_istore_n (L' := [(2, .int (x4_2 ||| 0)), (0, .ref (ρ this)), (1, .int p1), (3, .int x4_3)]) hC dX7_toldItems_30 (by decide) (by first | rfl | simp (decide := true) [rv_cat, cat_ref, cat_int]) ?_
        refine x_iinc (v' := x4_3 + 1) (L' := [(3, .int (x4_3 + 1)), (2, .int (x4_2 ||| 0)), (0, .ref (ρ this)), (1, .int p1)]) hC 3 rfl dX7_toldItems_31 rfl (by decide) (by first | rfl | simp (decide := true) [rv_cat, cat_ref, cat_int]) ?_
        refine x_goto (tgt := 4) hC dX7_toldItems_34 (by decide) ?_
        refine xJ.sub (L' := [(0, .ref (ρ this)), (1, .int p1), (2, .int (x4_2 ||| 0)), (3, .int (x4_3 + 1))]) [2, 3, 1, 0] rfl ?_
        exact ih _ _ _ h hKK
      · have h := h.2 c2
        refine x_iconst (v := 1) hC dX7_toldItems_22 (by decide) ?_
        refine x_iload_n hC 3 rfl dX7_toldItems_23 ?_
        refine x_ishl hC dX7_toldItems_24 ?_
        refine x_goto (tgt := 29) hC dX7_toldItems_25 (by decide) ?_
        refine x_ior hC dX7_toldItems_29 ?_
        refine x_istore_n (L' := [(2, .int (x4_2 ||| (1 <<< (x4_3 &&& 31)))), (0, .ref (ρ this)), (1, .int p1), (3, .int x4_3)]) hC dX7_toldItems_30 (by decide) (by first | rfl | simp (decide := true) [rv_cat, cat_ref, cat_int]) ?_
        refine x_iinc (v' := x4_3 + 1) (L' := [(3, .int (x4_3 + 1)), (2, .int (x4_2 ||| (1 <<< (x4_3 &&& 31)))), (0, .ref (ρ this)), (1, .int p1)]) hC 3 rfl dX7_toldItems_31 rfl (by decide) (by first | rfl | simp (decide := true) [rv_cat, cat_ref, cat_int]) ?_
        refine x_goto (tgt := 4) hC dX7_toldItems_34 (by decide) ?_
        refine xJ.sub (L' := [(0, .ref (ρ this)), (1, .int p1), (2, .int (x4_2 ||| (1 <<< (x4_3 &&& 31)))), (3, .int (x4_3 + 1))]) [2, 3, 1, 0] rfl ?_
        exact ih _ _ _ h hKK
set_option maxHeartbeats 4000000 in
set_option maxRecDepth 20000 in
theorem m7_toldItems (l : Launch) (hl : l.stackTraces = false) (G : xG) (ρ : Nm → Nat) (this : Nm) (p1 : Int32) (σ : PH) (Q : Int32 → PH → Prop) (h : w7_toldItems this p1 σ Q) : xMet l yX7_toldItems (.code yX7_toldItems cX7_toldItems 4 (some .int)) rm7_toldItems G ρ σ [.ref (ρ this), .int p1] (eI ρ Q) xNo := by
  refine xMet.of hl (by decide +kernel) (Nat.le_of_ble_eq_true rfl) (fun X hC hr hn htab h0 => ?_)
  have hC : xC G X "PlantServerModel" cX7_toldItems 4 rm7_toldItems := hC
  unfold w7_toldItems at h
  refine xJ.loc (L' := [(0, .ref (ρ this)), (1, .int p1)]) rfl ?_
  refine x_iconst (v := 0) hC dX7_toldItems_0 (by decide) ?_
  refine x_istore_n (L' := [(2, .int 0), (0, .ref (ρ this)), (1, .int p1)]) hC dX7_toldItems_1 (by decide) (by first | rfl | simp (decide := true) [rv_cat, cat_ref, cat_int]) ?_
  refine x_iconst (v := 0) hC dX7_toldItems_2 (by decide) ?_
  refine x_istore_n (L' := [(3, .int 0), (2, .int 0), (0, .ref (ρ this)), (1, .int p1)]) hC dX7_toldItems_3 (by decide) (by first | rfl | simp (decide := true) [rv_cat, cat_ref, cat_int]) ?_
  refine xJ.sub (L' := [(0, .ref (ρ this)), (1, .int p1), (2, .int 0), (3, .int 0)]) [2, 3, 1, 0] rfl ?_
  obtain ⟨f4, h⟩ := h
  refine ml7_toldItems_4 hC hr htab this p1 h0 (0) (0) (by decide) (by decide) _ Q _ f4 _ _ _ h (fun y1 y2 τ1 h => ?_)
  refine x_iload_n hC 2 rfl dX7_toldItems_37 ?_
  exact x_iret hC hr dX7_toldItems_38 (by decide) (by decide) ⟨rfl, _, rfl, h⟩
/-! PlantServerModel.oldest -/
theorem dX7_oldest_0 : decode cX7_oldest 0 = .ok (.iconst 5, 1) := by decide +kernel
theorem dX7_oldest_1 : decode cX7_oldest 1 = .ok (.iload_n 1, 1) := by decide +kernel
theorem dX7_oldest_2 : decode cX7_oldest 2 = .ok (.imul, 1) := by decide +kernel
theorem dX7_oldest_3 : decode cX7_oldest 3 = .ok (.istore_n 2, 1) := by decide +kernel
theorem dX7_oldest_4 : decode cX7_oldest 4 = .ok (.iconst 5, 1) := by decide +kernel
theorem dX7_oldest_5 : decode cX7_oldest 5 = .ok (.iload_n 1, 1) := by decide +kernel
theorem dX7_oldest_6 : decode cX7_oldest 6 = .ok (.imul, 1) := by decide +kernel
theorem dX7_oldest_7 : decode cX7_oldest 7 = .ok (.istore_n 3, 1) := by decide +kernel
theorem dX7_oldest_8 : decode cX7_oldest 8 = .ok (.iload_n 3, 1) := by decide +kernel
theorem dX7_oldest_9 : decode cX7_oldest 9 = .ok (.iconst 5, 1) := by decide +kernel
theorem dX7_oldest_10 : decode cX7_oldest 10 = .ok (.iload_n 1, 1) := by decide +kernel
theorem dX7_oldest_11 : decode cX7_oldest 11 = .ok (.imul, 1) := by decide +kernel
theorem dX7_oldest_12 : decode cX7_oldest 12 = .ok (.iconst 5, 1) := by decide +kernel
theorem dX7_oldest_13 : decode cX7_oldest 13 = .ok (.iadd, 1) := by decide +kernel
theorem dX7_oldest_14 : decode cX7_oldest 14 = .ok (.if_icmp .ge 30, 3) := by decide +kernel
theorem dX7_oldest_17 : decode cX7_oldest 17 = .ok (.aload_n 0, 1) := by decide +kernel
theorem dX7_oldest_18 : decode cX7_oldest 18 = .ok (.getfield 89, 3) := by decide +kernel
theorem dX7_oldest_21 : decode cX7_oldest 21 = .ok (.iload_n 3, 1) := by decide +kernel
theorem dX7_oldest_22 : decode cX7_oldest 22 = .ok (.iaload, 1) := by decide +kernel
theorem dX7_oldest_23 : decode cX7_oldest 23 = .ok (.aload_n 0, 1) := by decide +kernel
theorem dX7_oldest_24 : decode cX7_oldest 24 = .ok (.getfield 89, 3) := by decide +kernel
theorem dX7_oldest_27 : decode cX7_oldest 27 = .ok (.iload_n 2, 1) := by decide +kernel
theorem dX7_oldest_28 : decode cX7_oldest 28 = .ok (.iaload, 1) := by decide +kernel
theorem dX7_oldest_29 : decode cX7_oldest 29 = .ok (.if_icmp .ge 7, 3) := by decide +kernel
theorem dX7_oldest_32 : decode cX7_oldest 32 = .ok (.iload_n 3, 1) := by decide +kernel
theorem dX7_oldest_33 : decode cX7_oldest 33 = .ok (.goto 4, 3) := by decide +kernel
theorem dX7_oldest_36 : decode cX7_oldest 36 = .ok (.iload_n 2, 1) := by decide +kernel
theorem dX7_oldest_37 : decode cX7_oldest 37 = .ok (.istore_n 2, 1) := by decide +kernel
theorem dX7_oldest_38 : decode cX7_oldest 38 = .ok (.iinc 3 1, 3) := by decide +kernel
theorem dX7_oldest_41 : decode cX7_oldest 41 = .ok (.goto (-33), 3) := by decide +kernel
theorem dX7_oldest_44 : decode cX7_oldest 44 = .ok (.iload_n 2, 1) := by decide +kernel
theorem dX7_oldest_45 : decode cX7_oldest 45 = .ok (.ireturn, 1) := by decide +kernel
abbrev rm7_oldest : Room := { frames := 0, cells := 0, slots := 0, locals := 0 }
theorem hd7_oldest : yX7_oldest.cls ≠ "java/lang/invoke/MethodHandle" ∧ yX7_oldest.cls ≠ "java/lang/invoke/VarHandle" ∧ (parseMethodDescriptor yX7_oldest.desc).map (fun d => d.parameters.length) = some 1 := by decide +kernel
set_option maxHeartbeats 4000000 in
set_option maxRecDepth 20000 in
theorem ml7_oldest_8 {G : xG} {X : xX} (hC : xC G X "PlantServerModel" cX7_oldest 4 rm7_oldest) (hr : xRt X (some .int)) (htab : xTab X []) (this : Nm) (p1 : Int32) {ρ : Nm → Nat} (h0 : xR0 X ρ) (k n : Nat) (hk1 : k ≤ 0) (hk2 : n ≤ 0) (K : Int32 → Int32 → PH → Prop) (Q : Int32 → PH → Prop) (Xp : String → PH → Prop) : ∀ (f8 : Nat) (x8_2 : Int32) (x8_3 : Int32) (τ8 : PH), l7_oldest_8 this p1 K Q f8 x8_2 x8_3 τ8 → (∀ (x8_2 : Int32) (x8_3 : Int32) (τ8 : PH), K x8_2 x8_3 τ8 → xJ G X (xT X (eI ρ Q) Xp G rm7_oldest) 4 ρ τ8 k n 44 [(0, .ref (ρ this)), (1, .int p1), (2, .int x8_2), (3, .int x8_3)] []) → xJ G X (xT X (eI ρ Q) Xp G rm7_oldest) 4 ρ τ8 k n 8 [(0, .ref (ρ this)), (1, .int p1), (2, .int x8_2), (3, .int x8_3)] [] := by
  intro f8
  induction f8 with
  | zero => intro x8_2 x8_3 τ8 h hKK; unfold l7_oldest_8 at h; exact h.elim
  | succ f8 ih =>
    intro x8_2 x8_3 τ8 h hKK
    unfold l7_oldest_8 at h
    refine x_iload_n hC 3 rfl dX7_oldest_8 ?_
    refine x_iconst (v := 5) hC dX7_oldest_9 (by decide) ?_
    refine x_iload_n hC 1 rfl dX7_oldest_10 ?_
    refine x_imul hC dX7_oldest_11 ?_
    refine x_iconst (v := 5) hC dX7_oldest_12 (by decide) ?_
    refine x_iadd hC dX7_oldest_13 ?_
    refine x_icmp_ge (tgt := 44) hC dX7_oldest_14 (by decide) (fun c1 => ?_) (fun c1 => ?_)
    · have h := h.1 c1
      exact hKK _ _ _ h
    · have h := h.2 c1
      refine x_aload_n hC 0 rfl dX7_oldest_17 ?_
      obtain ⟨k1, h⟩ := h
      refine x_getR (n0 := this) hC (ci := 7) (T := TX7) (N := 36) (C := RX7) 30 k1 rfl rfl (by decide) rfl q719 dX7_oldest_18 ?_
      refine x_iload_n hC 3 rfl dX7_oldest_21 ?_
      obtain ⟨m1, hm1, h⟩ := h
      rw [show rv ρ (hR τ8 this 30) = Value.ref (ρ m1) from by rw [hm1]; rfl]
      obtain ⟨k2, h⟩ := h
      obtain ⟨v1, h⟩ := h
      refine x_iald (a := m1) hC k2 v1 dX7_oldest_22 ?_
      refine x_aload_n hC 0 rfl dX7_oldest_23 ?_
      refine x_getR (n0 := this) hC (ci := 7) (T := TX7) (N := 36) (C := RX7) 30 k1 rfl rfl (by decide) rfl q719 dX7_oldest_24 ?_
      rw [show rv ρ (hR τ8 this 30) = Value.ref (ρ m1) from by rw [hm1]; rfl]
      refine x_iload_n hC 2 rfl dX7_oldest_27 ?_
      obtain ⟨v2, h⟩ := h
      refine x_iald (a := m1) hC k2 v2 dX7_oldest_28 ?_
      refine x_icmp_ge (tgt := 36) hC dX7_oldest_29 (by decide) (fun c2 => ?_) (fun c2 => ?_)
      · have h := h.1 c2
        refine x_iload_n hC 2 rfl dX7_oldest_36 ?_
        refine x_istore_n (L' := [(2, .int x8_2), (0, .ref (ρ this)), (1, .int p1), (3, .int x8_3)]) hC dX7_oldest_37 (by decide) (by first | rfl | simp (decide := true) [rv_cat, cat_ref, cat_int]) ?_
        refine x_iinc (v' := x8_3 + 1) (L' := [(3, .int (x8_3 + 1)), (2, .int x8_2), (0, .ref (ρ this)), (1, .int p1)]) hC 3 rfl dX7_oldest_38 rfl (by decide) (by first | rfl | simp (decide := true) [rv_cat, cat_ref, cat_int]) ?_
        refine x_goto (tgt := 8) hC dX7_oldest_41 (by decide) ?_
        refine xJ.sub (L' := [(0, .ref (ρ this)), (1, .int p1), (2, .int x8_2), (3, .int (x8_3 + 1))]) [2, 3, 1, 0] rfl ?_
        exact ih _ _ _ h hKK
      · have h := h.2 c2
        refine x_iload_n hC 3 rfl dX7_oldest_32 ?_
        refine x_goto (tgt := 37) hC dX7_oldest_33 (by decide) ?_
        refine x_istore_n (L' := [(2, .int x8_3), (0, .ref (ρ this)), (1, .int p1), (3, .int x8_3)]) hC dX7_oldest_37 (by decide) (by first | rfl | simp (decide := true) [rv_cat, cat_ref, cat_int]) ?_
        refine x_iinc (v' := x8_3 + 1) (L' := [(3, .int (x8_3 + 1)), (2, .int x8_3), (0, .ref (ρ this)), (1, .int p1)]) hC 3 rfl dX7_oldest_38 rfl (by decide) (by first | rfl | simp (decide := true) [rv_cat, cat_ref, cat_int]) ?_
        refine x_goto (tgt := 8) hC dX7_oldest_41 (by decide) ?_
        refine xJ.sub (L' := [(0, .ref (ρ this)), (1, .int p1), (2, .int x8_3), (3, .int (x8_3 + 1))]) [2, 3, 1, 0] rfl ?_
        exact ih _ _ _ h hKK
set_option maxHeartbeats 4000000 in
set_option maxRecDepth 20000 in
theorem m7_oldest (l : Launch) (hl : l.stackTraces = false) (G : xG) (ρ : Nm → Nat) (this : Nm) (p1 : Int32) (σ : PH) (Q : Int32 → PH → Prop) (h : w7_oldest this p1 σ Q) : xMet l yX7_oldest (.code yX7_oldest cX7_oldest 4 (some .int)) rm7_oldest G ρ σ [.ref (ρ this), .int p1] (eI ρ Q) xNo := by
  refine xMet.of hl (by decide +kernel) (Nat.le_of_ble_eq_true rfl) (fun X hC hr hn htab h0 => ?_)
  have hC : xC G X "PlantServerModel" cX7_oldest 4 rm7_oldest := hC
  unfold w7_oldest at h
  refine xJ.loc (L' := [(0, .ref (ρ this)), (1, .int p1)]) rfl ?_
  refine x_iconst (v := 5) hC dX7_oldest_0 (by decide) ?_
  refine x_iload_n hC 1 rfl dX7_oldest_1 ?_
  refine x_imul hC dX7_oldest_2 ?_
  refine x_istore_n (L' := [(2, .int (5 * p1)), (0, .ref (ρ this)), (1, .int p1)]) hC dX7_oldest_3 (by decide) (by first | rfl | simp (decide := true) [rv_cat, cat_ref, cat_int]) ?_
  refine x_iconst (v := 5) hC dX7_oldest_4 (by decide) ?_
  refine x_iload_n hC 2 rfl dX7_oldest_5 ?_
  refine x_imul hC dX7_oldest_6 ?_
  refine x_istore_n (L' := [(3, .int (5 * p1)), (2, .int (5 * p1)), (0, .ref (ρ this)), (1, .int p1)]) hC dX7_oldest_7 (by decide) (by first | rfl | simp (decide := true) [rv_cat, cat_ref, cat_int]) ?_
  refine xJ.sub (L' := [(0, .ref (ρ this)), (1, .int p1), (2, .int (5 * p1)), (3, .int (5 * p1))]) [2, 3, 1, 0] rfl ?_
  obtain ⟨f8, h⟩ := h
  refine ml7_oldest_8 hC hr htab this p1 h0 (0) (0) (by decide) (by decide) _ Q _ f8 _ _ _ h (fun y1 y2 τ1 h => ?_)
  refine x_iload_n hC 2 rfl dX7_oldest_44 ?_
  exact x_iret hC hr dX7_oldest_45 (by decide) (by decide) ⟨rfl, _, rfl, h⟩
/-! PlantServerModel.sendsMessage -/
theorem dX7_sendsMessage_0 : decode cX7_sendsMessage 0 = .ok (.aload_n 0, 1) := by decide +kernel
theorem dX7_sendsMessage_1 : decode cX7_sendsMessage 1 = .ok (.getfield 41, 3) := by decide +kernel
theorem dX7_sendsMessage_4 : decode cX7_sendsMessage 4 = .ok (.iload_n 1, 1) := by decide +kernel
theorem dX7_sendsMessage_5 : decode cX7_sendsMessage 5 = .ok (.dup2, 1) := by decide +kernel
theorem dX7_sendsMessage_6 : decode cX7_sendsMessage 6 = .ok (.iaload, 1) := by decide +kernel
theorem dX7_sendsMessage_7 : decode cX7_sendsMessage 7 = .ok (.iconst 1, 1) := by decide +kernel
theorem dX7_sendsMessage_8 : decode cX7_sendsMessage 8 = .ok (.iadd, 1) := by decide +kernel
theorem dX7_sendsMessage_9 : decode cX7_sendsMessage 9 = .ok (.iastore, 1) := by decide +kernel
theorem dX7_sendsMessage_10 : decode cX7_sendsMessage 10 = .ok (.aload_n 0, 1) := by decide +kernel
theorem dX7_sendsMessage_11 : decode cX7_sendsMessage 11 = .ok (.iload_n 1, 1) := by decide +kernel
theorem dX7_sendsMessage_12 : decode cX7_sendsMessage 12 = .ok (.invokevirtual 149, 3) := by decide +kernel
theorem dX7_sendsMessage_15 : decode cX7_sendsMessage 15 = .ok (.istore_n 3, 1) := by decide +kernel
theorem dX7_sendsMessage_16 : decode cX7_sendsMessage 16 = .ok (.aload_n 0, 1) := by decide +kernel
theorem dX7_sendsMessage_17 : decode cX7_sendsMessage 17 = .ok (.getfield 89, 3) := by decide +kernel
theorem dX7_sendsMessage_20 : decode cX7_sendsMessage 20 = .ok (.iload_n 3, 1) := by decide +kernel
theorem dX7_sendsMessage_21 : decode cX7_sendsMessage 21 = .ok (.aload_n 0, 1) := by decide +kernel
theorem dX7_sendsMessage_22 : decode cX7_sendsMessage 22 = .ok (.getfield 41, 3) := by decide +kernel
theorem dX7_sendsMessage_25 : decode cX7_sendsMessage 25 = .ok (.iload_n 1, 1) := by decide +kernel
theorem dX7_sendsMessage_26 : decode cX7_sendsMessage 26 = .ok (.iaload, 1) := by decide +kernel
theorem dX7_sendsMessage_27 : decode cX7_sendsMessage 27 = .ok (.iastore, 1) := by decide +kernel
theorem dX7_sendsMessage_28 : decode cX7_sendsMessage 28 = .ok (.iconst 0, 1) := by decide +kernel
theorem dX7_sendsMessage_29 : decode cX7_sendsMessage 29 = .ok (.istore 4, 2) := by decide +kernel
theorem dX7_sendsMessage_31 : decode cX7_sendsMessage 31 = .ok (.iconst 0, 1) := by decide +kernel
theorem dX7_sendsMessage_32 : decode cX7_sendsMessage 32 = .ok (.istore 5, 2) := by decide +kernel
theorem dX7_sendsMessage_34 : decode cX7_sendsMessage 34 = .ok (.iload 5, 2) := by decide +kernel
theorem dX7_sendsMessage_36 : decode cX7_sendsMessage 36 = .ok (.aload_n 0, 1) := by decide +kernel
theorem dX7_sendsMessage_37 : decode cX7_sendsMessage 37 = .ok (.getfield 115, 3) := by decide +kernel
theorem dX7_sendsMessage_40 : decode cX7_sendsMessage 40 = .ok (.if_icmp .ge 108, 3) := by decide +kernel
theorem dX7_sendsMessage_43 : decode cX7_sendsMessage 43 = .ok (.iload_n 2, 1) := by decide +kernel
theorem dX7_sendsMessage_44 : decode cX7_sendsMessage 44 = .ok (.iload 5, 2) := by decide +kernel
theorem dX7_sendsMessage_46 : decode cX7_sendsMessage 46 = .ok (.ishr, 1) := by decide +kernel
theorem dX7_sendsMessage_47 : decode cX7_sendsMessage 47 = .ok (.iconst 1, 1) := by decide +kernel
theorem dX7_sendsMessage_48 : decode cX7_sendsMessage 48 = .ok (.iand, 1) := by decide +kernel
theorem dX7_sendsMessage_49 : decode cX7_sendsMessage 49 = .ok (.iconst 1, 1) := by decide +kernel
theorem dX7_sendsMessage_50 : decode cX7_sendsMessage 50 = .ok (.if_icmp .ne 92, 3) := by decide +kernel
theorem dX7_sendsMessage_53 : decode cX7_sendsMessage 53 = .ok (.aload_n 0, 1) := by decide +kernel
theorem dX7_sendsMessage_54 : decode cX7_sendsMessage 54 = .ok (.getfield 80, 3) := by decide +kernel
theorem dX7_sendsMessage_57 : decode cX7_sendsMessage 57 = .ok (.iload 5, 2) := by decide +kernel
theorem dX7_sendsMessage_59 : decode cX7_sendsMessage 59 = .ok (.iaload, 1) := by decide +kernel
theorem dX7_sendsMessage_60 : decode cX7_sendsMessage 60 = .ok (.ifCond .le 82, 3) := by decide +kernel
theorem dX7_sendsMessage_63 : decode cX7_sendsMessage 63 = .ok (.iload 4, 2) := by decide +kernel
theorem dX7_sendsMessage_65 : decode cX7_sendsMessage 65 = .ok (.aload_n 0, 1) := by decide +kernel
theorem dX7_sendsMessage_66 : decode cX7_sendsMessage 66 = .ok (.getfield 32, 3) := by decide +kernel
theorem dX7_sendsMessage_69 : decode cX7_sendsMessage 69 = .ok (.iload_n 1, 1) := by decide +kernel
theorem dX7_sendsMessage_70 : decode cX7_sendsMessage 70 = .ok (.iaload, 1) := by decide +kernel
theorem dX7_sendsMessage_71 : decode cX7_sendsMessage 71 = .ok (.if_icmp .ge 71, 3) := by decide +kernel
theorem dX7_sendsMessage_74 : decode cX7_sendsMessage 74 = .ok (.aload_n 0, 1) := by decide +kernel
theorem dX7_sendsMessage_75 : decode cX7_sendsMessage 75 = .ok (.getfield 95, 3) := by decide +kernel
theorem dX7_sendsMessage_78 : decode cX7_sendsMessage 78 = .ok (.bipush 10, 2) := by decide +kernel
theorem dX7_sendsMessage_80 : decode cX7_sendsMessage 80 = .ok (.iload_n 3, 1) := by decide +kernel
theorem dX7_sendsMessage_81 : decode cX7_sendsMessage 81 = .ok (.imul, 1) := by decide +kernel
theorem dX7_sendsMessage_82 : decode cX7_sendsMessage 82 = .ok (.iload 4, 2) := by decide +kernel
theorem dX7_sendsMessage_84 : decode cX7_sendsMessage 84 = .ok (.iadd, 1) := by decide +kernel
theorem dX7_sendsMessage_85 : decode cX7_sendsMessage 85 = .ok (.aload_n 0, 1) := by decide +kernel
theorem dX7_sendsMessage_86 : decode cX7_sendsMessage 86 = .ok (.getfield 83, 3) := by decide +kernel
theorem dX7_sendsMessage_89 : decode cX7_sendsMessage 89 = .ok (.iconst 4, 1) := by decide +kernel
theorem dX7_sendsMessage_90 : decode cX7_sendsMessage 90 = .ok (.iload 5, 2) := by decide +kernel
theorem dX7_sendsMessage_92 : decode cX7_sendsMessage 92 = .ok (.imul, 1) := by decide +kernel
theorem dX7_sendsMessage_93 : decode cX7_sendsMessage 93 = .ok (.iaload, 1) := by decide +kernel
theorem dX7_sendsMessage_94 : decode cX7_sendsMessage 94 = .ok (.iastore, 1) := by decide +kernel
theorem dX7_sendsMessage_95 : decode cX7_sendsMessage 95 = .ok (.aload_n 0, 1) := by decide +kernel
theorem dX7_sendsMessage_96 : decode cX7_sendsMessage 96 = .ok (.getfield 98, 3) := by decide +kernel
theorem dX7_sendsMessage_99 : decode cX7_sendsMessage 99 = .ok (.bipush 10, 2) := by decide +kernel
theorem dX7_sendsMessage_101 : decode cX7_sendsMessage 101 = .ok (.iload_n 3, 1) := by decide +kernel
theorem dX7_sendsMessage_102 : decode cX7_sendsMessage 102 = .ok (.imul, 1) := by decide +kernel
theorem dX7_sendsMessage_103 : decode cX7_sendsMessage 103 = .ok (.iload 4, 2) := by decide +kernel
theorem dX7_sendsMessage_105 : decode cX7_sendsMessage 105 = .ok (.iadd, 1) := by decide +kernel
theorem dX7_sendsMessage_106 : decode cX7_sendsMessage 106 = .ok (.iload 5, 2) := by decide +kernel
theorem dX7_sendsMessage_108 : decode cX7_sendsMessage 108 = .ok (.iastore, 1) := by decide +kernel
theorem dX7_sendsMessage_109 : decode cX7_sendsMessage 109 = .ok (.aload_n 0, 1) := by decide +kernel
theorem dX7_sendsMessage_110 : decode cX7_sendsMessage 110 = .ok (.getfield 101, 3) := by decide +kernel
theorem dX7_sendsMessage_113 : decode cX7_sendsMessage 113 = .ok (.bipush 10, 2) := by decide +kernel
theorem dX7_sendsMessage_115 : decode cX7_sendsMessage 115 = .ok (.iload_n 3, 1) := by decide +kernel
theorem dX7_sendsMessage_116 : decode cX7_sendsMessage 116 = .ok (.imul, 1) := by decide +kernel
theorem dX7_sendsMessage_117 : decode cX7_sendsMessage 117 = .ok (.iload 4, 2) := by decide +kernel
theorem dX7_sendsMessage_119 : decode cX7_sendsMessage 119 = .ok (.iadd, 1) := by decide +kernel
theorem dX7_sendsMessage_120 : decode cX7_sendsMessage 120 = .ok (.aload_n 0, 1) := by decide +kernel
theorem dX7_sendsMessage_121 : decode cX7_sendsMessage 121 = .ok (.getfield 86, 3) := by decide +kernel
theorem dX7_sendsMessage_124 : decode cX7_sendsMessage 124 = .ok (.iconst 4, 1) := by decide +kernel
theorem dX7_sendsMessage_125 : decode cX7_sendsMessage 125 = .ok (.iload 5, 2) := by decide +kernel
theorem dX7_sendsMessage_127 : decode cX7_sendsMessage 127 = .ok (.imul, 1) := by decide +kernel
theorem dX7_sendsMessage_128 : decode cX7_sendsMessage 128 = .ok (.baload, 1) := by decide +kernel
theorem dX7_sendsMessage_129 : decode cX7_sendsMessage 129 = .ok (.bastore, 1) := by decide +kernel
theorem dX7_sendsMessage_130 : decode cX7_sendsMessage 130 = .ok (.aload_n 0, 1) := by decide +kernel
theorem dX7_sendsMessage_131 : decode cX7_sendsMessage 131 = .ok (.iload 5, 2) := by decide +kernel
theorem dX7_sendsMessage_133 : decode cX7_sendsMessage 133 = .ok (.invokevirtual 139, 3) := by decide +kernel
theorem dX7_sendsMessage_136 : decode cX7_sendsMessage 136 = .ok (.iinc 4 1, 3) := by decide +kernel
theorem dX7_sendsMessage_139 : decode cX7_sendsMessage 139 = .ok (.goto (-96), 3) := by decide +kernel
theorem dX7_sendsMessage_142 : decode cX7_sendsMessage 142 = .ok (.iinc 5 1, 3) := by decide +kernel
theorem dX7_sendsMessage_145 : decode cX7_sendsMessage 145 = .ok (.goto (-111), 3) := by decide +kernel
theorem dX7_sendsMessage_148 : decode cX7_sendsMessage 148 = .ok (.aload_n 0, 1) := by decide +kernel
theorem dX7_sendsMessage_149 : decode cX7_sendsMessage 149 = .ok (.getfield 92, 3) := by decide +kernel
theorem dX7_sendsMessage_152 : decode cX7_sendsMessage 152 = .ok (.iload_n 3, 1) := by decide +kernel
theorem dX7_sendsMessage_153 : decode cX7_sendsMessage 153 = .ok (.iload 4, 2) := by decide +kernel
theorem dX7_sendsMessage_155 : decode cX7_sendsMessage 155 = .ok (.iastore, 1) := by decide +kernel
theorem dX7_sendsMessage_156 : decode cX7_sendsMessage 156 = .ok (.return_, 1) := by decide +kernel
abbrev rm7_sendsMessage : Room := { frames := 2, cells := 0, slots := 0, locals := 45 }
theorem hd7_sendsMessage : yX7_sendsMessage.cls ≠ "java/lang/invoke/MethodHandle" ∧ yX7_sendsMessage.cls ≠ "java/lang/invoke/VarHandle" ∧ (parseMethodDescriptor yX7_sendsMessage.desc).map (fun d => d.parameters.length) = some 2 := by decide +kernel
set_option maxHeartbeats 4000000 in
set_option maxRecDepth 20000 in
theorem ml7_sendsMessage_43 {G : xG} {X : xX} (hC : xC G X "PlantServerModel" cX7_sendsMessage 6 rm7_sendsMessage) (hr : xRt X none) (htab : xTab X []) (this : Nm) (p1 : Int32) (p2 : Int32) (r2 : Int32) (x34_4 : Int32) (x34_5 : Int32) {ρ : Nm → Nat} (h0 : xR0 X ρ) (k n : Nat) (hk1 : k ≤ 0) (hk2 : n ≤ 0) (K : Int32 → PH → Prop) (Q : PH → Prop) (Xp : String → PH → Prop) : ∀ (f43 : Nat) (x43_4 : Int32) (τ43 : PH), l7_sendsMessage_43 this p1 p2 r2 x34_4 x34_5 K Q f43 x43_4 τ43 → (∀ (x43_4 : Int32) (τ43 : PH), K x43_4 τ43 → xJ G X (xT X (eV ρ Q) Xp G rm7_sendsMessage) 6 ρ τ43 k n 142 [(0, .ref (ρ this)), (1, .int p1), (2, .int p2), (3, .int r2), (4, .int x43_4), (5, .int x34_5)] []) → xJ G X (xT X (eV ρ Q) Xp G rm7_sendsMessage) 6 ρ τ43 k n 43 [(0, .ref (ρ this)), (1, .int p1), (2, .int p2), (3, .int r2), (4, .int x43_4), (5, .int x34_5)] [] := by
  intro f43
  induction f43 with
  | zero => intro x43_4 τ43 h hKK; unfold l7_sendsMessage_43 at h; exact h.elim
  | succ f43 ih =>
    intro x43_4 τ43 h hKK
    unfold l7_sendsMessage_43 at h
    refine x_iload_n hC 2 rfl dX7_sendsMessage_43 ?_
    refine x_iload hC 5 rfl dX7_sendsMessage_44 ?_
    refine x_ishr hC dX7_sendsMessage_46 ?_
    refine x_iconst (v := 1) hC dX7_sendsMessage_47 (by decide) ?_
    refine x_iand hC dX7_sendsMessage_48 ?_
    refine x_iconst (v := 1) hC dX7_sendsMessage_49 (by decide) ?_
    refine x_icmp_ne (tgt := 142) hC dX7_sendsMessage_50 (by decide) (fun c2 => ?_) (fun c2 => ?_)
    · have h := h.1 c2
      exact hKK _ _ h
    · have h := h.2 c2
      refine x_aload_n hC 0 rfl dX7_sendsMessage_53 ?_
      obtain ⟨k8, h⟩ := h
      refine x_getR (n0 := this) hC (ci := 7) (T := TX7) (N := 36) (C := RX7) 27 k8 rfl rfl (by decide) rfl q716 dX7_sendsMessage_54 ?_
      refine x_iload hC 5 rfl dX7_sendsMessage_57 ?_
      obtain ⟨m4, hm4, h⟩ := h
      rw [show rv ρ (hR τ43 this 27) = Value.ref (ρ m4) from by rw [hm4]; rfl]
      obtain ⟨k9, h⟩ := h
      obtain ⟨v5, h⟩ := h
      refine x_iald (a := m4) hC k9 v5 dX7_sendsMessage_59 ?_
      refine x_if_le (tgt := 142) hC dX7_sendsMessage_60 (by decide) (fun c3 => ?_) (fun c3 => ?_)
      · have h := h.1 c3
        exact hKK _ _ h
      · have h := h.2 c3
        refine x_iload hC 4 rfl dX7_sendsMessage_63 ?_
        refine x_aload_n hC 0 rfl dX7_sendsMessage_65 ?_
        refine x_getR (n0 := this) hC (ci := 7) (T := TX7) (N := 36) (C := RX7) 10 k8 rfl rfl (by decide) rfl q699 dX7_sendsMessage_66 ?_
        refine x_iload_n hC 1 rfl dX7_sendsMessage_69 ?_
        obtain ⟨m5, hm5, h⟩ := h
        rw [show rv ρ (hR τ43 this 10) = Value.ref (ρ m5) from by rw [hm5]; rfl]
        obtain ⟨k10, h⟩ := h
        obtain ⟨v6, h⟩ := h
        refine x_iald (a := m5) hC k10 v6 dX7_sendsMessage_70 ?_
        refine x_icmp_ge (tgt := 142) hC dX7_sendsMessage_71 (by decide) (fun c4 => ?_) (fun c4 => ?_)
        · have h := h.1 c4
          exact hKK _ _ h
        · have h := h.2 c4
          refine x_aload_n hC 0 rfl dX7_sendsMessage_74 ?_
          refine x_getR (n0 := this) hC (ci := 7) (T := TX7) (N := 36) (C := RX7) 32 k8 rfl rfl (by decide) rfl q721 dX7_sendsMessage_75 ?_
          refine x_bipush (v := 10) hC dX7_sendsMessage_78 (by decide) ?_
          refine x_iload_n hC 3 rfl dX7_sendsMessage_80 ?_
          refine x_imul hC dX7_sendsMessage_81 ?_
          refine x_iload hC 4 rfl dX7_sendsMessage_82 ?_
          refine x_iadd hC dX7_sendsMessage_84 ?_
          refine x_aload_n hC 0 rfl dX7_sendsMessage_85 ?_
          refine x_getR (n0 := this) hC (ci := 7) (T := TX7) (N := 36) (C := RX7) 28 k8 rfl rfl (by decide) rfl q717 dX7_sendsMessage_86 ?_
          refine x_iconst (v := 4) hC dX7_sendsMessage_89 (by decide) ?_
          refine x_iload hC 5 rfl dX7_sendsMessage_90 ?_
          refine x_imul hC dX7_sendsMessage_92 ?_
          obtain ⟨m6, hm6, h⟩ := h
          rw [show rv ρ (hR τ43 this 28) = Value.ref (ρ m6) from by rw [hm6]; rfl]
          obtain ⟨k11, h⟩ := h
          obtain ⟨v7, h⟩ := h
          refine x_iald (a := m6) hC k11 v7 dX7_sendsMessage_93 ?_
          obtain ⟨m7, hm7, h⟩ := h
          rw [show rv ρ (hR τ43 this 32) = Value.ref (ρ m7) from by rw [hm7]; rfl]
          obtain ⟨k12, h⟩ := h
          obtain ⟨v8, h⟩ := h
          refine x_iast (a := m7) hC k12 v8 dX7_sendsMessage_94 ?_
          refine xJ.nmH (fun σ4 e3 => ?_)
          have h := h σ4 e3
          have r4 : hR σ4 = hR τ43 ∧ hL σ4 = hL τ43 := by rw [e3]; exact ⟨rfl, rfl⟩
          refine x_aload_n hC 0 rfl dX7_sendsMessage_95 ?_
          have k13 : hK σ4 this = 8 := by rw [e3]; exact k8
          refine x_getR (n0 := this) hC (ci := 7) (T := TX7) (N := 36) (C := RX7) 33 k13 rfl rfl (by decide) rfl q722 dX7_sendsMessage_96 ?_
          rw [r4.1]
          refine x_bipush (v := 10) hC dX7_sendsMessage_99 (by decide) ?_
          refine x_iload_n hC 3 rfl dX7_sendsMessage_101 ?_
          refine x_imul hC dX7_sendsMessage_102 ?_
          refine x_iload hC 4 rfl dX7_sendsMessage_103 ?_
          refine x_iadd hC dX7_sendsMessage_105 ?_
          refine x_iload hC 5 rfl dX7_sendsMessage_106 ?_
          obtain ⟨m8, hm8, h⟩ := h
          rw [show rv ρ (hR τ43 this 33) = Value.ref (ρ m8) from by rw [hm8]; rfl]
          obtain ⟨k14, h⟩ := h
          obtain ⟨v9, h⟩ := h
          refine x_iast (a := m8) hC k14 (by rw [r4.2]; exact v9) dX7_sendsMessage_108 ?_
          refine xJ.nmH (fun σ5 e4 => ?_)
          have h := h σ5 e4
          have r5 : hR σ5 = hR τ43 ∧ hL σ5 = hL τ43 := by rw [e4]; exact ⟨r4.1, r4.2⟩
          refine x_aload_n hC 0 rfl dX7_sendsMessage_109 ?_
          have k15 : hK σ5 this = 8 := by rw [e4]; exact k13
          refine x_getR (n0 := this) hC (ci := 7) (T := TX7) (N := 36) (C := RX7) 34 k15 rfl rfl (by decide) rfl q723 dX7_sendsMessage_110 ?_
          rw [r5.1]
          refine x_bipush (v := 10) hC dX7_sendsMessage_113 (by decide) ?_
          refine x_iload_n hC 3 rfl dX7_sendsMessage_115 ?_
          refine x_imul hC dX7_sendsMessage_116 ?_
          refine x_iload hC 4 rfl dX7_sendsMessage_117 ?_
          refine x_iadd hC dX7_sendsMessage_119 ?_
          refine x_aload_n hC 0 rfl dX7_sendsMessage_120 ?_
          refine x_getR (n0 := this) hC (ci := 7) (T := TX7) (N := 36) (C := RX7) 29 k15 rfl rfl (by decide) rfl q718 dX7_sendsMessage_121 ?_
          rw [r5.1]
          refine x_iconst (v := 4) hC dX7_sendsMessage_124 (by decide) ?_
          refine x_iload hC 5 rfl dX7_sendsMessage_125 ?_
          refine x_imul hC dX7_sendsMessage_127 ?_
          obtain ⟨m9, hm9, h⟩ := h
          rw [show rv ρ (hR τ43 this 29) = Value.ref (ρ m9) from by rw [hm9]; rfl]
          obtain ⟨k16, h⟩ := h
          obtain ⟨v10, h⟩ := h
          refine x_zald (a := m9) hC k16 (by rw [r5.2]; exact v10) dX7_sendsMessage_128 ?_
          obtain ⟨m10, hm10, h⟩ := h
          rw [show rv ρ (hR τ43 this 34) = Value.ref (ρ m10) from by rw [hm10]; rfl]
          obtain ⟨k17, h⟩ := h
          obtain ⟨v11, h⟩ := h
          obtain ⟨zh1, h⟩ := h
          refine x_zast (a := m10) hC zh1 k17 (by rw [r5.2]; exact v11) dX7_sendsMessage_129 ?_
          refine xJ.nmH (fun σ6 e5 => ?_)
          have h := h σ6 e5
          have r6 : hR σ6 = hR τ43 ∧ hL σ6 = hL τ43 := by rw [e5]; exact ⟨r5.1, r5.2⟩
          refine x_aload_n hC 0 rfl dX7_sendsMessage_130 ?_
          refine x_iload hC 5 rfl dX7_sendsMessage_131 ?_
          have k18 : hK σ6 this = 8 := by rw [e5]; exact k15
          refine x_callV (n0 := this) (as := [.int x34_5]) (rest := []) hC (ci := 7) (r := (RX7, TX7, 36)) k18 rfl (fun l hl => m7_takesFirst l hl G ρ this x34_5 σ6 _ h) q836 q838 s17 q3 q839 ⟨rfl, hd7_takesFirst⟩ (by decide) ⟨(show _ + 0 ≤ 0 by omega), (show _ + 0 ≤ 0 by omega)⟩ (by first | exact Nat.le_of_ble_eq_true rfl | (simp [rv_cat]; done) | (simp (decide := true) [rv_cat, cat_ref, cat_int]; done)) rfl dX7_sendsMessage_133 (fun E σ9 hx => False.elim hx) (fun v12 σ7 ρ2 hp2 hag2 => ?_)
          obtain ⟨e9, e8, h⟩ := hp2
          rw [e8, e9]
          refine xJ.nrm (k' := k + 0) (n' := n + 0) (pc' := 136) (st' := []) rfl rfl rfl rfl ?_
          refine x_iinc (v' := x43_4 + 1) (L' := [(4, .int (x43_4 + 1)), (0, .ref (ρ this)), (1, .int p1), (2, .int p2), (3, .int r2), (5, .int x34_5)]) hC 4 rfl dX7_sendsMessage_136 rfl (by decide) (by first | rfl | simp (decide := true) [rv_cat, cat_ref, cat_int]) ?_
          refine x_goto (tgt := 43) hC dX7_sendsMessage_139 (by decide) ?_
          refine xJ.sub (L' := [(0, .ref (ρ this)), (1, .int p1), (2, .int p2), (3, .int r2), (4, .int (x43_4 + 1)), (5, .int x34_5)]) [1, 2, 3, 4, 0, 5] rfl ?_
          exact ih _ _ h hKK
set_option maxHeartbeats 4000000 in
set_option maxRecDepth 20000 in
theorem ml7_sendsMessage_34 {G : xG} {X : xX} (hC : xC G X "PlantServerModel" cX7_sendsMessage 6 rm7_sendsMessage) (hr : xRt X none) (htab : xTab X []) (this : Nm) (p1 : Int32) (p2 : Int32) (r2 : Int32) {ρ : Nm → Nat} (h0 : xR0 X ρ) (k n : Nat) (hk1 : k ≤ 0) (hk2 : n ≤ 0) (K : Int32 → Int32 → PH → Prop) (Q : PH → Prop) (Xp : String → PH → Prop) : ∀ (f34 : Nat) (x34_4 : Int32) (x34_5 : Int32) (τ34 : PH), l7_sendsMessage_34 this p1 p2 r2 K Q f34 x34_4 x34_5 τ34 → (∀ (x34_4 : Int32) (x34_5 : Int32) (τ34 : PH), K x34_4 x34_5 τ34 → xJ G X (xT X (eV ρ Q) Xp G rm7_sendsMessage) 6 ρ τ34 k n 148 [(0, .ref (ρ this)), (1, .int p1), (2, .int p2), (3, .int r2), (4, .int x34_4), (5, .int x34_5)] []) → xJ G X (xT X (eV ρ Q) Xp G rm7_sendsMessage) 6 ρ τ34 k n 34 [(0, .ref (ρ this)), (1, .int p1), (2, .int p2), (3, .int r2), (4, .int x34_4), (5, .int x34_5)] [] := by
  intro f34
  induction f34 with
  | zero => intro x34_4 x34_5 τ34 h hKK; unfold l7_sendsMessage_34 at h; exact h.elim
  | succ f34 ih =>
    intro x34_4 x34_5 τ34 h hKK
    unfold l7_sendsMessage_34 at h
    refine x_iload hC 5 rfl dX7_sendsMessage_34 ?_
    refine x_aload_n hC 0 rfl dX7_sendsMessage_36 ?_
    obtain ⟨k7, h⟩ := h
    refine x_getI (n0 := this) hC (ci := 7) (T := TX7) (N := 36) (C := RX7) 15 k7 rfl rfl (by decide) rfl q704 dX7_sendsMessage_37 ?_
    refine x_icmp_ge (tgt := 148) hC dX7_sendsMessage_40 (by decide) (fun c1 => ?_) (fun c1 => ?_)
    · have h := h.1 c1
      exact hKK _ _ _ h
    · have h := h.2 c1
      obtain ⟨f43, h⟩ := h
      refine ml7_sendsMessage_43 hC hr htab this p1 p2 r2 x34_4 x34_5 h0 (k + 0) (n + 0) (show _ ≤ 0 by omega) (show _ ≤ 0 by omega) _ Q _ f43 _ _ h (fun y1 τ1 h => ?_)
      refine x_iinc (v' := x34_5 + 1) (L' := [(5, .int (x34_5 + 1)), (0, .ref (ρ this)), (1, .int p1), (2, .int p2), (3, .int r2), (4, .int y1)]) hC 5 rfl dX7_sendsMessage_142 rfl (by decide) (by first | rfl | simp (decide := true) [rv_cat, cat_ref, cat_int]) ?_
      refine x_goto (tgt := 34) hC dX7_sendsMessage_145 (by decide) ?_
      refine xJ.sub (L' := [(0, .ref (ρ this)), (1, .int p1), (2, .int p2), (3, .int r2), (4, .int y1), (5, .int (x34_5 + 1))]) [1, 2, 3, 4, 5, 0] rfl ?_
      exact ih _ _ _ h hKK
set_option maxHeartbeats 4000000 in
set_option maxRecDepth 20000 in
theorem m7_sendsMessage (l : Launch) (hl : l.stackTraces = false) (G : xG) (ρ : Nm → Nat) (this : Nm) (p1 : Int32) (p2 : Int32) (σ : PH) (Q : PH → Prop) (h : w7_sendsMessage this p1 p2 σ Q) : xMet l yX7_sendsMessage (.code yX7_sendsMessage cX7_sendsMessage 6 none) rm7_sendsMessage G ρ σ [.ref (ρ this), .int p1, .int p2] (eV ρ Q) xNo := by
  refine xMet.of hl (by decide +kernel) (Nat.le_of_ble_eq_true rfl) (fun X hC hr hn htab h0 => ?_)
  have hC : xC G X "PlantServerModel" cX7_sendsMessage 6 rm7_sendsMessage := hC
  unfold w7_sendsMessage at h
  refine xJ.loc (L' := [(0, .ref (ρ this)), (1, .int p1), (2, .int p2)]) rfl ?_
  refine x_aload_n hC 0 rfl dX7_sendsMessage_0 ?_
  obtain ⟨k1, h⟩ := h
  refine x_getR (n0 := this) hC (ci := 7) (T := TX7) (N := 36) (C := RX7) 13 k1 rfl rfl (by decide) rfl q702 dX7_sendsMessage_1 ?_
  refine x_iload_n hC 1 rfl dX7_sendsMessage_4 ?_
  refine x_dup2 hC (by first | rfl | exact rv_cat) (by first | rfl | exact rv_cat) dX7_sendsMessage_5 ?_
  obtain ⟨m1, hm1, h⟩ := h
  rw [show rv ρ (hR σ this 13) = Value.ref (ρ m1) from by rw [hm1]; rfl]
  obtain ⟨k2, h⟩ := h
  obtain ⟨v1, h⟩ := h
  refine x_iald (a := m1) hC k2 v1 dX7_sendsMessage_6 ?_
  refine x_iconst (v := 1) hC dX7_sendsMessage_7 (by decide) ?_
  refine x_iadd hC dX7_sendsMessage_8 ?_
  refine x_iast (a := m1) hC k2 v1 dX7_sendsMessage_9 ?_
  refine xJ.nmH (fun σ1 e1 => ?_)
  have h := h σ1 e1
  have r1 : hR σ1 = hR σ ∧ hL σ1 = hL σ := by rw [e1]; exact ⟨rfl, rfl⟩
  refine x_aload_n hC 0 rfl dX7_sendsMessage_10 ?_
  refine x_iload_n hC 1 rfl dX7_sendsMessage_11 ?_
  have k3 : hK σ1 this = 8 := by rw [e1]; exact k1
  refine x_callV (n0 := this) (as := [.int p1]) (rest := []) hC (ci := 7) (r := (RX7, TX7, 36)) k3 rfl (fun l hl => m7_oldest l hl G ρ this p1 σ1 _ h) q884 q886 s25 q3 q887 ⟨rfl, hd7_oldest⟩ (by decide) ⟨(by decide), (by decide)⟩ (by first | exact Nat.le_of_ble_eq_true rfl | (simp [rv_cat]; done) | (simp (decide := true) [rv_cat, cat_ref, cat_int]; done)) rfl dX7_sendsMessage_12 (fun E σ9 hx => False.elim hx) (fun v2 σ2 ρ1 hp1 hag1 => ?_)
  obtain ⟨e9, r2, e8, h⟩ := hp1
  rw [e8, e9]
  refine xJ.nrm (k' := 0) (n' := 0) (pc' := 15) (st' := [.int r2]) rfl rfl rfl rfl ?_
  refine x_istore_n (L' := [(3, .int r2), (0, .ref (ρ this)), (1, .int p1), (2, .int p2)]) hC dX7_sendsMessage_15 (by decide) (by first | rfl | simp (decide := true) [rv_cat, cat_ref, cat_int]) ?_
  refine x_aload_n hC 1 rfl dX7_sendsMessage_16 ?_
  have k4 : hK σ2 this = 8 := (hag1 this (by rw [k3]; decide)).1.trans k3
  refine x_getR (n0 := this) hC (ci := 7) (T := TX7) (N := 36) (C := RX7) 30 k4 rfl rfl (by decide) rfl q719 dX7_sendsMessage_17 ?_
  refine x_iload_n hC 0 rfl dX7_sendsMessage_20 ?_
  refine x_aload_n hC 1 rfl dX7_sendsMessage_21 ?_
  refine x_getR (n0 := this) hC (ci := 7) (T := TX7) (N := 36) (C := RX7) 13 k4 rfl rfl (by decide) rfl q702 dX7_sendsMessage_22 ?_
  refine x_iload_n hC 2 rfl dX7_sendsMessage_25 ?_
  obtain ⟨m2, hm2, h⟩ := h
  rw [show rv ρ (hR σ2 this 13) = Value.ref (ρ m2) from by rw [hm2]; rfl]
  obtain ⟨k5, h⟩ := h
  obtain ⟨v3, h⟩ := h
  refine x_iald (a := m2) hC k5 v3 dX7_sendsMessage_26 ?_
  obtain ⟨m3, hm3, h⟩ := h
  rw [show rv ρ (hR σ2 this 30) = Value.ref (ρ m3) from by rw [hm3]; rfl]
  obtain ⟨k6, h⟩ := h
  obtain ⟨v4, h⟩ := h
  refine x_iast (a := m3) hC k6 v4 dX7_sendsMessage_27 ?_
  refine xJ.nmH (fun σ3 e2 => ?_)
  have h := h σ3 e2
  have r3 : hR σ3 = hR σ2 ∧ hL σ3 = hL σ2 := by rw [e2]; exact ⟨rfl, rfl⟩
  refine x_iconst (v := 0) hC dX7_sendsMessage_28 (by decide) ?_
  refine x_istore (L' := [(4, .int 0), (3, .int r2), (0, .ref (ρ this)), (1, .int p1), (2, .int p2)]) hC dX7_sendsMessage_29 (by decide) (by first | rfl | simp (decide := true) [rv_cat, cat_ref, cat_int]) ?_
  refine x_iconst (v := 0) hC dX7_sendsMessage_31 (by decide) ?_
  refine x_istore (L' := [(5, .int 0), (4, .int 0), (3, .int r2), (0, .ref (ρ this)), (1, .int p1), (2, .int p2)]) hC dX7_sendsMessage_32 (by decide) (by first | rfl | simp (decide := true) [rv_cat, cat_ref, cat_int]) ?_
  refine xJ.sub (L' := [(0, .ref (ρ this)), (1, .int p1), (2, .int p2), (3, .int r2), (4, .int 0), (5, .int 0)]) [3, 4, 5, 2, 1, 0] rfl ?_
  obtain ⟨f34, h⟩ := h
  refine ml7_sendsMessage_34 hC hr htab this p1 p2 r2 h0 (0) (0) (by decide) (by decide) _ Q _ f34 _ _ _ h (fun y2 y3 τ2 h => ?_)
  refine x_aload_n hC 0 rfl dX7_sendsMessage_148 ?_
  obtain ⟨k19, h⟩ := h
  refine x_getR (n0 := this) hC (ci := 7) (T := TX7) (N := 36) (C := RX7) 31 k19 rfl rfl (by decide) rfl q720 dX7_sendsMessage_149 ?_
  refine x_iload_n hC 3 rfl dX7_sendsMessage_152 ?_
  refine x_iload hC 4 rfl dX7_sendsMessage_153 ?_
  obtain ⟨m11, hm11, h⟩ := h
  rw [show rv ρ (hR τ2 this 31) = Value.ref (ρ m11) from by rw [hm11]; rfl]
  obtain ⟨k20, h⟩ := h
  obtain ⟨v13, h⟩ := h
  refine x_iast (a := m11) hC k20 v13 dX7_sendsMessage_155 ?_
  refine xJ.nmH (fun σ8 e6 => ?_)
  have h := h σ8 e6
  have r7 : hR σ8 = hR τ2 ∧ hL σ8 = hL τ2 := by rw [e6]; exact ⟨rfl, rfl⟩
  exact x_vret hC hr dX7_sendsMessage_156 (by decide) (by decide) ⟨rfl, rfl, h⟩
