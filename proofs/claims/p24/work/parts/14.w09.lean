/-! PlantServer$Subscription.findTold -/
theorem dX4_findTold_0 : decode cX4_findTold 0 = .ok (.iconst 0, 1) := by decide +kernel
theorem dX4_findTold_1 : decode cX4_findTold 1 = .ok (.istore_n 1, 1) := by decide +kernel
theorem dX4_findTold_2 : decode cX4_findTold 2 = .ok (.iconst 0, 1) := by decide +kernel
theorem dX4_findTold_3 : decode cX4_findTold 3 = .ok (.istore_n 2, 1) := by decide +kernel
theorem dX4_findTold_4 : decode cX4_findTold 4 = .ok (.iconst 0, 1) := by decide +kernel
theorem dX4_findTold_5 : decode cX4_findTold 5 = .ok (.istore_n 3, 1) := by decide +kernel
theorem dX4_findTold_6 : decode cX4_findTold 6 = .ok (.iconst 0, 1) := by decide +kernel
theorem dX4_findTold_7 : decode cX4_findTold 7 = .ok (.istore 4, 2) := by decide +kernel
theorem dX4_findTold_9 : decode cX4_findTold 9 = .ok (.iload 4, 2) := by decide +kernel
theorem dX4_findTold_11 : decode cX4_findTold 11 = .ok (.aload_n 0, 1) := by decide +kernel
theorem dX4_findTold_12 : decode cX4_findTold 12 = .ok (.getfield 27, 3) := by decide +kernel
theorem dX4_findTold_15 : decode cX4_findTold 15 = .ok (.if_icmp .ge 70, 3) := by decide +kernel
theorem dX4_findTold_18 : decode cX4_findTold 18 = .ok (.aload_n 0, 1) := by decide +kernel
theorem dX4_findTold_19 : decode cX4_findTold 19 = .ok (.getfield 11, 3) := by decide +kernel
theorem dX4_findTold_22 : decode cX4_findTold 22 = .ok (.iload 4, 2) := by decide +kernel
theorem dX4_findTold_24 : decode cX4_findTold 24 = .ok (.aaload, 1) := by decide +kernel
theorem dX4_findTold_25 : decode cX4_findTold 25 = .ok (.astore 5, 2) := by decide +kernel
theorem dX4_findTold_27 : decode cX4_findTold 27 = .ok (.aload 5, 2) := by decide +kernel
theorem dX4_findTold_29 : decode cX4_findTold 29 = .ok (.ifnull 50, 3) := by decide +kernel
theorem dX4_findTold_32 : decode cX4_findTold 32 = .ok (.aload 5, 2) := by decide +kernel
theorem dX4_findTold_34 : decode cX4_findTold 34 = .ok (.getfield 67, 3) := by decide +kernel
theorem dX4_findTold_37 : decode cX4_findTold 37 = .ok (.getfield 71, 3) := by decide +kernel
theorem dX4_findTold_40 : decode cX4_findTold 40 = .ok (.ifCond .le 39, 3) := by decide +kernel
theorem dX4_findTold_43 : decode cX4_findTold 43 = .ok (.iload_n 3, 1) := by decide +kernel
theorem dX4_findTold_44 : decode cX4_findTold 44 = .ok (.iconst 1, 1) := by decide +kernel
theorem dX4_findTold_45 : decode cX4_findTold 45 = .ok (.aload 5, 2) := by decide +kernel
theorem dX4_findTold_47 : decode cX4_findTold 47 = .ok (.getfield 76, 3) := by decide +kernel
theorem dX4_findTold_50 : decode cX4_findTold 50 = .ok (.ishl, 1) := by decide +kernel
theorem dX4_findTold_51 : decode cX4_findTold 51 = .ok (.ior, 1) := by decide +kernel
theorem dX4_findTold_52 : decode cX4_findTold 52 = .ok (.istore_n 3, 1) := by decide +kernel
theorem dX4_findTold_53 : decode cX4_findTold 53 = .ok (.aload 5, 2) := by decide +kernel
theorem dX4_findTold_55 : decode cX4_findTold 55 = .ok (.getfield 79, 3) := by decide +kernel
theorem dX4_findTold_58 : decode cX4_findTold 58 = .ok (.ifCond .eq 21, 3) := by decide +kernel
theorem dX4_findTold_61 : decode cX4_findTold 61 = .ok (.iload_n 1, 1) := by decide +kernel
theorem dX4_findTold_62 : decode cX4_findTold 62 = .ok (.iconst 1, 1) := by decide +kernel
theorem dX4_findTold_63 : decode cX4_findTold 63 = .ok (.aload 5, 2) := by decide +kernel
theorem dX4_findTold_65 : decode cX4_findTold 65 = .ok (.getfield 76, 3) := by decide +kernel
theorem dX4_findTold_68 : decode cX4_findTold 68 = .ok (.ishl, 1) := by decide +kernel
theorem dX4_findTold_69 : decode cX4_findTold 69 = .ok (.ior, 1) := by decide +kernel
theorem dX4_findTold_70 : decode cX4_findTold 70 = .ok (.istore_n 1, 1) := by decide +kernel
theorem dX4_findTold_71 : decode cX4_findTold 71 = .ok (.iload_n 2, 1) := by decide +kernel
theorem dX4_findTold_72 : decode cX4_findTold 72 = .ok (.aload 5, 2) := by decide +kernel
theorem dX4_findTold_74 : decode cX4_findTold 74 = .ok (.getfield 82, 3) := by decide +kernel
theorem dX4_findTold_77 : decode cX4_findTold 77 = .ok (.ior, 1) := by decide +kernel
theorem dX4_findTold_78 : decode cX4_findTold 78 = .ok (.istore_n 2, 1) := by decide +kernel
theorem dX4_findTold_79 : decode cX4_findTold 79 = .ok (.iinc 4 1, 3) := by decide +kernel
theorem dX4_findTold_82 : decode cX4_findTold 82 = .ok (.goto (-73), 3) := by decide +kernel
theorem dX4_findTold_85 : decode cX4_findTold 85 = .ok (.iload_n 1, 1) := by decide +kernel
theorem dX4_findTold_86 : decode cX4_findTold 86 = .ok (.iload_n 2, 1) := by decide +kernel
theorem dX4_findTold_87 : decode cX4_findTold 87 = .ok (.iload_n 3, 1) := by decide +kernel
theorem dX4_findTold_88 : decode cX4_findTold 88 = .ok (.iand, 1) := by decide +kernel
theorem dX4_findTold_89 : decode cX4_findTold 89 = .ok (.ior, 1) := by decide +kernel
theorem dX4_findTold_90 : decode cX4_findTold 90 = .ok (.ireturn, 1) := by decide +kernel
abbrev rm4_findTold : Room := { frames := 0, cells := 0, slots := 0, locals := 0 }
theorem hd4_findTold : yX4_findTold.cls ≠ "java/lang/invoke/MethodHandle" ∧ yX4_findTold.cls ≠ "java/lang/invoke/VarHandle" ∧ (parseMethodDescriptor yX4_findTold.desc).map (fun d => d.parameters.length) = some 0 := by decide +kernel
set_option maxHeartbeats 4000000 in
set_option maxRecDepth 20000 in
theorem ml4_findTold_9 {G : xG} {X : xX} (hC : xC G X "PlantServer$Subscription" cX4_findTold 6 rm4_findTold) (hr : xRt X (some .int)) (htab : xTab X []) (this : Nm) {ρ : Nm → Nat} (h0 : xR0 X ρ) (k n : Nat) (hk1 : k ≤ 0) (hk2 : n ≤ 0) (K : Int32 → Int32 → Int32 → Int32 → PH → Prop) (Q : Int32 → PH → Prop) (Xp : String → PH → Prop) : ∀ (f9 : Nat) (x9_1 : Int32) (x9_2 : Int32) (x9_3 : Int32) (x9_4 : Int32) (τ9 : PH), l4_findTold_9 this K Q f9 x9_1 x9_2 x9_3 x9_4 τ9 → (∀ (x9_1 : Int32) (x9_2 : Int32) (x9_3 : Int32) (x9_4 : Int32) (τ9 : PH), K x9_1 x9_2 x9_3 x9_4 τ9 → xJ G X (xT X (eI ρ Q) Xp G rm4_findTold) 6 ρ τ9 k n 85 [(0, .ref (ρ this)), (1, .int x9_1), (2, .int x9_2), (3, .int x9_3), (4, .int x9_4)] []) → xJ G X (xT X (eI ρ Q) Xp G rm4_findTold) 6 ρ τ9 k n 9 [(0, .ref (ρ this)), (1, .int x9_1), (2, .int x9_2), (3, .int x9_3), (4, .int x9_4)] [] := by
  intro f9
  induction f9 with
  | zero => intro x9_1 x9_2 x9_3 x9_4 τ9 h hKK; unfold l4_findTold_9 at h; exact h.elim
  | succ f9 ih =>
    intro x9_1 x9_2 x9_3 x9_4 τ9 h hKK
    unfold l4_findTold_9 at h
    refine x_iload hC 4 rfl dX4_findTold_9 ?_
    refine x_aload_n hC 0 rfl dX4_findTold_11 ?_
    obtain ⟨k1, h⟩ := h
    refine x_getI (n0 := this) hC (ci := 4) (T := TX4) (N := 14) (C := RX4) 8 k1 rfl rfl (by decide) rfl q217 dX4_findTold_12 ?_
    refine x_icmp_ge (tgt := 85) hC dX4_findTold_15 (by decide) (fun c1 => ?_) (fun c1 => ?_)
    · have h := h.1 c1
      exact hKK _ _ _ _ _ h
    · have h := h.2 c1
      refine x_aload_n hC 0 rfl dX4_findTold_18 ?_
      refine x_getR (n0 := this) hC (ci := 4) (T := TX4) (N := 14) (C := RX4) 5 k1 rfl rfl (by decide) rfl q213 dX4_findTold_19 ?_
      refine x_iload hC 4 rfl dX4_findTold_22 ?_
      obtain ⟨m1, hm1, h⟩ := h
      rw [show rv ρ (hR τ9 this 5) = Value.ref (ρ m1) from by rw [hm1]; rfl]
      obtain ⟨k2, h⟩ := h
      obtain ⟨v1, h⟩ := h
      refine x_aald11 (a := m1) hC k2 v1 dX4_findTold_24 ?_
      refine x_astoreQ (o := hR τ9 m1 (Int32.toNatClampNeg x9_4)) (L' := [(5, rv ρ (hR τ9 m1 (Int32.toNatClampNeg x9_4))), (0, .ref (ρ this)), (1, .int x9_1), (2, .int x9_2), (3, .int x9_3), (4, .int x9_4)]) hC dX4_findTold_25 (by decide) (by first | rfl | simp (decide := true) [rv_cat, cat_ref, cat_int]) ?_
      refine x_aloadQ (o := hR τ9 m1 (Int32.toNatClampNeg x9_4)) hC 0 rfl dX4_findTold_27 ?_
      refine x_ifnull (o := hR τ9 m1 (Int32.toNatClampNeg x9_4)) (tgt := 79) hC dX4_findTold_29 (by decide) (fun c2 => ?_) (fun m2 c2 => ?_)
      · have h := h.1 c2
        rw [show rv ρ (hR τ9 m1 (Int32.toNatClampNeg x9_4)) = Value.null from by rw [c2]; rfl]
        refine x_iinc (v' := x9_4 + 1) (L' := [(4, .int (x9_4 + 1)), (5, .null), (0, .ref (ρ this)), (1, .int x9_1), (2, .int x9_2), (3, .int x9_3)]) hC 5 rfl dX4_findTold_79 rfl (by decide) (by first | rfl | simp (decide := true) [rv_cat, cat_ref, cat_int]) ?_
        refine x_goto (tgt := 9) hC dX4_findTold_82 (by decide) ?_
        refine xJ.sub (L' := [(0, .ref (ρ this)), (1, .int x9_1), (2, .int x9_2), (3, .int x9_3), (4, .int (x9_4 + 1))]) [2, 3, 4, 5, 0] rfl ?_
        exact ih _ _ _ _ _ h hKK
      · have h := h.2 m2 c2
        rw [show rv ρ (hR τ9 m1 (Int32.toNatClampNeg x9_4)) = Value.ref (ρ m2) from by rw [c2]; rfl]
        refine x_aload hC 0 rfl dX4_findTold_32 ?_
        obtain ⟨k3, h⟩ := h
        refine x_getR (n0 := m2) hC (ci := 1) (T := TX1) (N := 12) (C := RX1) 5 k3 rfl rfl (by decide) rfl q355 dX4_findTold_34 ?_
        obtain ⟨m3, hm2, h⟩ := h
        rw [show rv ρ (hR τ9 m2 5) = Value.ref (ρ m3) from by rw [hm2]; rfl]
        obtain ⟨k4, h⟩ := h
        refine x_getI (n0 := m3) hC (ci := 3) (T := TX3) (N := 5) (C := RX3) 4 k4 rfl rfl (by decide) rfl q321 dX4_findTold_37 ?_
        refine x_if_le (tgt := 79) hC dX4_findTold_40 (by decide) (fun c3 => ?_) (fun c3 => ?_)
        · have h := h.1 c3
          refine x_iinc (v' := x9_4 + 1) (L' := [(4, .int (x9_4 + 1)), (5, .ref (ρ m2)), (0, .ref (ρ this)), (1, .int x9_1), (2, .int x9_2), (3, .int x9_3)]) hC 5 rfl dX4_findTold_79 rfl (by decide) (by first | rfl | simp (decide := true) [rv_cat, cat_ref, cat_int]) ?_
          refine x_goto (tgt := 9) hC dX4_findTold_82 (by decide) ?_
          refine xJ.sub (L' := [(0, .ref (ρ this)), (1, .int x9_1), (2, .int x9_2), (3, .int x9_3), (4, .int (x9_4 + 1))]) [2, 3, 4, 5, 0] rfl ?_
          exact ih _ _ _ _ _ h hKK
        · have h := h.2 c3
          refine x_iload_n hC 4 rfl dX4_findTold_43 ?_
          refine x_iconst (v := 1) hC dX4_findTold_44 (by decide) ?_
          refine x_aload hC 0 rfl dX4_findTold_45 ?_
          refine x_getI (n0 := m2) hC (ci := 1) (T := TX1) (N := 12) (C := RX1) 0 k3 rfl rfl (by decide) rfl q343 dX4_findTold_47 ?_
          refine x_ishl hC dX4_findTold_50 ?_
          refine x_ior hC dX4_findTold_51 ?_
          refine x_istore_n (L' := [(3, .int (x9_3 ||| (1 <<< ((hI τ9 m2 0) &&& 31)))), (5, .ref (ρ m2)), (0, .ref (ρ this)), (1, .int x9_1), (2, .int x9_2), (4, .int x9_4)]) hC dX4_findTold_52 (by decide) (by first | rfl | simp (decide := true) [rv_cat, cat_ref, cat_int]) ?_
          refine x_aload hC 1 rfl dX4_findTold_53 ?_
          refine x_getI (n0 := m2) hC (ci := 1) (T := TX1) (N := 12) (C := RX1) 6 k3 rfl rfl (by decide) rfl q358 dX4_findTold_55 ?_
          refine x_if_eq (tgt := 79) hC dX4_findTold_58 (by decide) (fun c4 => ?_) (fun c4 => ?_)
          · have h := h.1 c4
            refine x_iinc (v' := x9_4 + 1) (L' := [(4, .int (x9_4 + 1)), (3, .int (x9_3 ||| (1 <<< ((hI τ9 m2 0) &&& 31)))), (5, .ref (ρ m2)), (0, .ref (ρ this)), (1, .int x9_1), (2, .int x9_2)]) hC 5 rfl dX4_findTold_79 rfl (by decide) (by first | rfl | simp (decide := true) [rv_cat, cat_ref, cat_int]) ?_
            refine x_goto (tgt := 9) hC dX4_findTold_82 (by decide) ?_
            refine xJ.sub (L' := [(0, .ref (ρ this)), (1, .int x9_1), (2, .int x9_2), (3, .int (x9_3 ||| (1 <<< ((hI τ9 m2 0) &&& 31)))), (4, .int (x9_4 + 1))]) [3, 4, 5, 1, 0] rfl ?_
            exact ih _ _ _ _ _ h hKK
          · have h := h.2 c4
            refine x_iload_n hC 3 rfl dX4_findTold_61 ?_
            refine x_iconst (v := 1) hC dX4_findTold_62 (by decide) ?_
            refine x_aload hC 1 rfl dX4_findTold_63 ?_
            refine x_getI (n0 := m2) hC (ci := 1) (T := TX1) (N := 12) (C := RX1) 0 k3 rfl rfl (by decide) rfl q343 dX4_findTold_65 ?_
            refine x_ishl hC dX4_findTold_68 ?_
            refine x_ior hC dX4_findTold_69 ?_
            refine x_istore_n (L' := [(1, .int (x9_1 ||| (1 <<< ((hI τ9 m2 0) &&& 31)))), (3, .int (x9_3 ||| (1 <<< ((hI τ9 m2 0) &&& 31)))), (5, .ref (ρ m2)), (0, .ref (ρ this)), (2, .int x9_2), (4, .int x9_4)]) hC dX4_findTold_70 (by decide) (by first | rfl | simp (decide := true) [rv_cat, cat_ref, cat_int]) ?_
            refine x_iload_n hC 4 rfl dX4_findTold_71 ?_
            refine x_aload hC 2 rfl dX4_findTold_72 ?_
            refine x_getI (n0 := m2) hC (ci := 1) (T := TX1) (N := 12) (C := RX1) 7 k3 rfl rfl (by decide) rfl q361 dX4_findTold_74 ?_
            refine x_ior hC dX4_findTold_77 ?_
            refine x_istore_n (L' := [(2, .int (x9_2 ||| (hI τ9 m2 7))), (1, .int (x9_1 ||| (1 <<< ((hI τ9 m2 0) &&& 31)))), (3, .int (x9_3 ||| (1 <<< ((hI τ9 m2 0) &&& 31)))), (5, .ref (ρ m2)), (0, .ref (ρ this)), (4, .int x9_4)]) hC dX4_findTold_78 (by decide) (by first | rfl | simp (decide := true) [rv_cat, cat_ref, cat_int]) ?_
            refine x_iinc (v' := x9_4 + 1) (L' := [(4, .int (x9_4 + 1)), (2, .int (x9_2 ||| (hI τ9 m2 7))), (1, .int (x9_1 ||| (1 <<< ((hI τ9 m2 0) &&& 31)))), (3, .int (x9_3 ||| (1 <<< ((hI τ9 m2 0) &&& 31)))), (5, .ref (ρ m2)), (0, .ref (ρ this))]) hC 5 rfl dX4_findTold_79 rfl (by decide) (by first | rfl | simp (decide := true) [rv_cat, cat_ref, cat_int]) ?_
            refine x_goto (tgt := 9) hC dX4_findTold_82 (by decide) ?_
            refine xJ.sub (L' := [(0, .ref (ρ this)), (1, .int (x9_1 ||| (1 <<< ((hI τ9 m2 0) &&& 31)))), (2, .int (x9_2 ||| (hI τ9 m2 7))), (3, .int (x9_3 ||| (1 <<< ((hI τ9 m2 0) &&& 31)))), (4, .int (x9_4 + 1))]) [5, 2, 1, 3, 0] rfl ?_
            exact ih _ _ _ _ _ h hKK
set_option maxHeartbeats 4000000 in
set_option maxRecDepth 20000 in
theorem m4_findTold (l : Launch) (hl : l.stackTraces = false) (G : xG) (ρ : Nm → Nat) (this : Nm) (σ : PH) (Q : Int32 → PH → Prop) (h : w4_findTold this σ Q) : xMet l yX4_findTold (.code yX4_findTold cX4_findTold 6 (some .int)) rm4_findTold G ρ σ [.ref (ρ this)] (eI ρ Q) xNo := by
  refine xMet.of hl (by decide +kernel) (Nat.le_of_ble_eq_true rfl) (fun X hC hr hn htab h0 => ?_)
  have hC : xC G X "PlantServer$Subscription" cX4_findTold 6 rm4_findTold := hC
  unfold w4_findTold at h
  refine xJ.loc (L' := [(0, .ref (ρ this))]) rfl ?_
  refine x_iconst (v := 0) hC dX4_findTold_0 (by decide) ?_
  refine x_istore_n (L' := [(1, .int 0), (0, .ref (ρ this))]) hC dX4_findTold_1 (by decide) (by first | rfl | simp (decide := true) [rv_cat, cat_ref, cat_int]) ?_
  refine x_iconst (v := 0) hC dX4_findTold_2 (by decide) ?_
  refine x_istore_n (L' := [(2, .int 0), (1, .int 0), (0, .ref (ρ this))]) hC dX4_findTold_3 (by decide) (by first | rfl | simp (decide := true) [rv_cat, cat_ref, cat_int]) ?_
  refine x_iconst (v := 0) hC dX4_findTold_4 (by decide) ?_
  refine x_istore_n (L' := [(3, .int 0), (2, .int 0), (1, .int 0), (0, .ref (ρ this))]) hC dX4_findTold_5 (by decide) (by first | rfl | simp (decide := true) [rv_cat, cat_ref, cat_int]) ?_
  refine x_iconst (v := 0) hC dX4_findTold_6 (by decide) ?_
  refine x_istore (L' := [(4, .int 0), (3, .int 0), (2, .int 0), (1, .int 0), (0, .ref (ρ this))]) hC dX4_findTold_7 (by decide) (by first | rfl | simp (decide := true) [rv_cat, cat_ref, cat_int]) ?_
  refine xJ.sub (L' := [(0, .ref (ρ this)), (1, .int 0), (2, .int 0), (3, .int 0), (4, .int 0)]) [4, 3, 2, 1, 0] rfl ?_
  obtain ⟨f9, h⟩ := h
  refine ml4_findTold_9 hC hr htab this h0 (0) (0) (by decide) (by decide) _ Q _ f9 _ _ _ _ _ h (fun y1 y2 y3 y4 τ1 h => ?_)
  refine x_iload_n hC 1 rfl dX4_findTold_85 ?_
  refine x_iload_n hC 2 rfl dX4_findTold_86 ?_
  refine x_iload_n hC 3 rfl dX4_findTold_87 ?_
  refine x_iand hC dX4_findTold_88 ?_
  refine x_ior hC dX4_findTold_89 ?_
  exact x_iret hC hr dX4_findTold_90 (by decide) (by decide) ⟨rfl, _, rfl, h⟩
/-! PlantServer$Subscription.isSomethingDue -/
theorem dX4_isSomethingDue_0 : decode cX4_isSomethingDue 0 = .ok (.iload_n 1, 1) := by decide +kernel
theorem dX4_isSomethingDue_1 : decode cX4_isSomethingDue 1 = .ok (.ifCond .eq 10, 3) := by decide +kernel
theorem dX4_isSomethingDue_4 : decode cX4_isSomethingDue 4 = .ok (.aload_n 0, 1) := by decide +kernel
theorem dX4_isSomethingDue_5 : decode cX4_isSomethingDue 5 = .ok (.iconst 0, 1) := by decide +kernel
theorem dX4_isSomethingDue_6 : decode cX4_isSomethingDue 6 = .ok (.putfield 40, 3) := by decide +kernel
theorem dX4_isSomethingDue_9 : decode cX4_isSomethingDue 9 = .ok (.iconst 1, 1) := by decide +kernel
theorem dX4_isSomethingDue_10 : decode cX4_isSomethingDue 10 = .ok (.ireturn, 1) := by decide +kernel
theorem dX4_isSomethingDue_11 : decode cX4_isSomethingDue 11 = .ok (.aload_n 0, 1) := by decide +kernel
theorem dX4_isSomethingDue_12 : decode cX4_isSomethingDue 12 = .ok (.dup, 1) := by decide +kernel
theorem dX4_isSomethingDue_13 : decode cX4_isSomethingDue 13 = .ok (.getfield 40, 3) := by decide +kernel
theorem dX4_isSomethingDue_16 : decode cX4_isSomethingDue 16 = .ok (.iconst 1, 1) := by decide +kernel
theorem dX4_isSomethingDue_17 : decode cX4_isSomethingDue 17 = .ok (.iadd, 1) := by decide +kernel
theorem dX4_isSomethingDue_18 : decode cX4_isSomethingDue 18 = .ok (.putfield 40, 3) := by decide +kernel
theorem dX4_isSomethingDue_21 : decode cX4_isSomethingDue 21 = .ok (.aload_n 0, 1) := by decide +kernel
theorem dX4_isSomethingDue_22 : decode cX4_isSomethingDue 22 = .ok (.getfield 40, 3) := by decide +kernel
theorem dX4_isSomethingDue_25 : decode cX4_isSomethingDue 25 = .ok (.aload_n 0, 1) := by decide +kernel
theorem dX4_isSomethingDue_26 : decode cX4_isSomethingDue 26 = .ok (.getfield 55, 3) := by decide +kernel
theorem dX4_isSomethingDue_29 : decode cX4_isSomethingDue 29 = .ok (.if_icmp .lt 7, 3) := by decide +kernel
theorem dX4_isSomethingDue_32 : decode cX4_isSomethingDue 32 = .ok (.iconst 1, 1) := by decide +kernel
theorem dX4_isSomethingDue_33 : decode cX4_isSomethingDue 33 = .ok (.goto 4, 3) := by decide +kernel
theorem dX4_isSomethingDue_36 : decode cX4_isSomethingDue 36 = .ok (.iconst 0, 1) := by decide +kernel
theorem dX4_isSomethingDue_37 : decode cX4_isSomethingDue 37 = .ok (.ireturn, 1) := by decide +kernel
abbrev rm4_isSomethingDue : Room := { frames := 0, cells := 0, slots := 0, locals := 0 }
theorem hd4_isSomethingDue : yX4_isSomethingDue.cls ≠ "java/lang/invoke/MethodHandle" ∧ yX4_isSomethingDue.cls ≠ "java/lang/invoke/VarHandle" ∧ (parseMethodDescriptor yX4_isSomethingDue.desc).map (fun d => d.parameters.length) = some 1 := by decide +kernel
set_option maxHeartbeats 4000000 in
set_option maxRecDepth 20000 in
theorem m4_isSomethingDue (l : Launch) (hl : l.stackTraces = false) (G : xG) (ρ : Nm → Nat) (this : Nm) (p1 : Int32) (σ : PH) (Q : Int32 → PH → Prop) (h : w4_isSomethingDue this p1 σ Q) : xMet l yX4_isSomethingDue (.code yX4_isSomethingDue cX4_isSomethingDue 2 (some .boolean)) rm4_isSomethingDue G ρ σ [.ref (ρ this), .int p1] (eI ρ Q) xNo := by
  refine xMet.of hl (by decide +kernel) (Nat.le_of_ble_eq_true rfl) (fun X hC hr hn htab h0 => ?_)
  have hC : xC G X "PlantServer$Subscription" cX4_isSomethingDue 2 rm4_isSomethingDue := hC
  unfold w4_isSomethingDue at h
  refine xJ.loc (L' := [(0, .ref (ρ this)), (1, .int p1)]) rfl ?_
  refine x_iload_n hC 1 rfl dX4_isSomethingDue_0 ?_
  refine x_if_eq (tgt := 11) hC dX4_isSomethingDue_1 (by decide) (fun c1 => ?_) (fun c1 => ?_)
  · have h := h.1 c1
    refine x_aload_n hC 0 rfl dX4_isSomethingDue_11 ?_
    refine x_dup hC (by first | rfl | exact rv_cat) dX4_isSomethingDue_12 ?_
    obtain ⟨k1, h⟩ := h
    refine x_getI (n0 := this) hC (ci := 4) (T := TX4) (N := 14) (C := RX4) 12 k1 rfl rfl (by decide) rfl q224 dX4_isSomethingDue_13 ?_
    refine x_iconst (v := 1) hC dX4_isSomethingDue_16 (by decide) ?_
    refine x_iadd hC dX4_isSomethingDue_17 ?_
    refine x_putI (n0 := this) hC (ci := 4) (T := TX4) (N := 14) (C := RX4) 12 k1 rfl rfl (by decide) rfl q224 rfl (tyX4_ok 12 (by decide)) dX4_isSomethingDue_18 ?_
    refine xJ.nmH (fun σ1 e1 => ?_)
    have h := h σ1 e1
    have r1 : hR σ1 = hR σ ∧ hL σ1 = hL σ := by rw [e1]; exact ⟨rfl, rfl⟩
    refine x_aload_n hC 0 rfl dX4_isSomethingDue_21 ?_
    have k2 : hK σ1 this = 5 := by rw [e1]; exact k1
    refine x_getI (n0 := this) hC (ci := 4) (T := TX4) (N := 14) (C := RX4) 12 k2 rfl rfl (by decide) rfl q224 dX4_isSomethingDue_22 ?_
    refine x_aload_n hC 0 rfl dX4_isSomethingDue_25 ?_
    refine x_getI (n0 := this) hC (ci := 4) (T := TX4) (N := 14) (C := RX4) 1 k2 rfl rfl (by decide) rfl q208 dX4_isSomethingDue_26 ?_
    refine x_icmp_lt (tgt := 36) hC dX4_isSomethingDue_29 (by decide) (fun c2 => ?_) (fun c2 => ?_)
    · have h := h.1 c2
      refine x_iconst (v := 0) hC dX4_isSomethingDue_36 (by decide) ?_
      exact x_zret hC hr zb0 dX4_isSomethingDue_37 (by decide) (by decide) ⟨rfl, _, rfl, h⟩
    · have h := h.2 c2
      refine x_iconst (v := 1) hC dX4_isSomethingDue_32 (by decide) ?_
      refine x_goto (tgt := 37) hC dX4_isSomethingDue_33 (by decide) ?_
      exact x_zret hC hr zb1 dX4_isSomethingDue_37 (by decide) (by decide) ⟨rfl, _, rfl, h⟩
  · have h := h.2 c1
    refine x_aload_n hC 0 rfl dX4_isSomethingDue_4 ?_
    refine x_iconst (v := 0) hC dX4_isSomethingDue_5 (by decide) ?_
    obtain ⟨k3, h⟩ := h
    refine x_putI (n0 := this) hC (ci := 4) (T := TX4) (N := 14) (C := RX4) 12 k3 rfl rfl (by decide) rfl q224 rfl (tyX4_ok 12 (by decide)) dX4_isSomethingDue_6 ?_
    refine xJ.nmH (fun σ2 e2 => ?_)
    have h := h σ2 e2
    have r2 : hR σ2 = hR σ ∧ hL σ2 = hL σ := by rw [e2]; exact ⟨rfl, rfl⟩
    refine x_iconst (v := 1) hC dX4_isSomethingDue_9 (by decide) ?_
    exact x_zret hC hr zb1 dX4_isSomethingDue_10 (by decide) (by decide) ⟨rfl, _, rfl, h⟩
/-! PlantServer$Subscription.lose -/
theorem dX4_lose_0 : decode cX4_lose 0 = .ok (.aload_n 0, 1) := by decide +kernel
theorem dX4_lose_1 : decode cX4_lose 1 = .ok (.dup, 1) := by decide +kernel
theorem dX4_lose_2 : decode cX4_lose 2 = .ok (.getfield 43, 3) := by decide +kernel
theorem dX4_lose_5 : decode cX4_lose 5 = .ok (.iconst 1, 1) := by decide +kernel
theorem dX4_lose_6 : decode cX4_lose 6 = .ok (.iadd, 1) := by decide +kernel
theorem dX4_lose_7 : decode cX4_lose 7 = .ok (.putfield 43, 3) := by decide +kernel
theorem dX4_lose_10 : decode cX4_lose 10 = .ok (.aload_n 0, 1) := by decide +kernel
theorem dX4_lose_11 : decode cX4_lose 11 = .ok (.getfield 43, 3) := by decide +kernel
theorem dX4_lose_14 : decode cX4_lose 14 = .ok (.aload_n 0, 1) := by decide +kernel
theorem dX4_lose_15 : decode cX4_lose 15 = .ok (.getfield 58, 3) := by decide +kernel
theorem dX4_lose_18 : decode cX4_lose 18 = .ok (.if_icmp .lt 8, 3) := by decide +kernel
theorem dX4_lose_21 : decode cX4_lose 21 = .ok (.aload_n 0, 1) := by decide +kernel
theorem dX4_lose_22 : decode cX4_lose 22 = .ok (.iconst 0, 1) := by decide +kernel
theorem dX4_lose_23 : decode cX4_lose 23 = .ok (.putfield 23, 3) := by decide +kernel
theorem dX4_lose_26 : decode cX4_lose 26 = .ok (.return_, 1) := by decide +kernel
abbrev rm4_lose : Room := { frames := 0, cells := 0, slots := 0, locals := 0 }
theorem hd4_lose : yX4_lose.cls ≠ "java/lang/invoke/MethodHandle" ∧ yX4_lose.cls ≠ "java/lang/invoke/VarHandle" ∧ (parseMethodDescriptor yX4_lose.desc).map (fun d => d.parameters.length) = some 0 := by decide +kernel
set_option maxHeartbeats 4000000 in
set_option maxRecDepth 20000 in
theorem m4_lose (l : Launch) (hl : l.stackTraces = false) (G : xG) (ρ : Nm → Nat) (this : Nm) (σ : PH) (Q : PH → Prop) (h : w4_lose this σ Q) : xMet l yX4_lose (.code yX4_lose cX4_lose 1 none) rm4_lose G ρ σ [.ref (ρ this)] (eV ρ Q) xNo := by
  refine xMet.of hl (by decide +kernel) (Nat.le_of_ble_eq_true rfl) (fun X hC hr hn htab h0 => ?_)
  have hC : xC G X "PlantServer$Subscription" cX4_lose 1 rm4_lose := hC
  unfold w4_lose at h
  refine xJ.loc (L' := [(0, .ref (ρ this))]) rfl ?_
  refine x_aload_n hC 0 rfl dX4_lose_0 ?_
  refine x_dup hC (by first | rfl | exact rv_cat) dX4_lose_1 ?_
  obtain ⟨k1, h⟩ := h
  refine x_getI (n0 := this) hC (ci := 4) (T := TX4) (N := 14) (C := RX4) 13 k1 rfl rfl (by decide) rfl q225 dX4_lose_2 ?_
  refine x_iconst (v := 1) hC dX4_lose_5 (by decide) ?_
  refine x_iadd hC dX4_lose_6 ?_
  refine x_putI (n0 := this) hC (ci := 4) (T := TX4) (N := 14) (C := RX4) 13 k1 rfl rfl (by decide) rfl q225 rfl (tyX4_ok 13 (by decide)) dX4_lose_7 ?_
  refine xJ.nmH (fun σ1 e1 => ?_)
  have h := h σ1 e1
  have r1 : hR σ1 = hR σ ∧ hL σ1 = hL σ := by rw [e1]; exact ⟨rfl, rfl⟩
  refine x_aload_n hC 0 rfl dX4_lose_10 ?_
  have k2 : hK σ1 this = 5 := by rw [e1]; exact k1
  refine x_getI (n0 := this) hC (ci := 4) (T := TX4) (N := 14) (C := RX4) 13 k2 rfl rfl (by decide) rfl q225 dX4_lose_11 ?_
  refine x_aload_n hC 0 rfl dX4_lose_14 ?_
  refine x_getI (n0 := this) hC (ci := 4) (T := TX4) (N := 14) (C := RX4) 2 k2 rfl rfl (by decide) rfl q209 dX4_lose_15 ?_
  refine x_icmp_lt (tgt := 26) hC dX4_lose_18 (by decide) (fun c1 => ?_) (fun c1 => ?_)
  · have h := h.1 c1
    exact x_vret hC hr dX4_lose_26 (by decide) (by decide) ⟨rfl, rfl, h⟩
  · have h := h.2 c1
    refine x_aload_n hC 0 rfl dX4_lose_21 ?_
    refine x_iconst (v := 0) hC dX4_lose_22 (by decide) ?_
    refine x_putZ (n0 := this) hC (ci := 4) (T := TX4) (N := 14) (C := RX4) 7 k2 rfl rfl (by decide) rfl q215 rfl (tyX4_ok 7 (by decide)) zb0 dX4_lose_23 ?_
    refine xJ.nmH (fun σ2 e2 => ?_)
    have h := h σ2 e2
    have r2 : hR σ2 = hR σ ∧ hL σ2 = hL σ := by rw [e2]; exact ⟨r1.1, r1.2⟩
    exact x_vret hC hr dX4_lose_26 (by decide) (by decide) ⟨rfl, rfl, h⟩
/-! PlantServer$Message.<init> -/
theorem dX2_init_0 : decode cX2_init 0 = .ok (.aload_n 0, 1) := by decide +kernel
theorem dX2_init_1 : decode cX2_init 1 = .ok (.invokespecial 3, 3) := by decide +kernel
theorem dX2_init_4 : decode cX2_init 4 = .ok (.aload_n 0, 1) := by decide +kernel
theorem dX2_init_5 : decode cX2_init 5 = .ok (.bipush 10, 2) := by decide +kernel
theorem dX2_init_7 : decode cX2_init 7 = .ok (.newarray .int, 2) := by decide +kernel
theorem dX2_init_9 : decode cX2_init 9 = .ok (.putfield 9, 3) := by decide +kernel
theorem dX2_init_12 : decode cX2_init 12 = .ok (.aload_n 0, 1) := by decide +kernel
theorem dX2_init_13 : decode cX2_init 13 = .ok (.bipush 10, 2) := by decide +kernel
theorem dX2_init_15 : decode cX2_init 15 = .ok (.newarray .int, 2) := by decide +kernel
theorem dX2_init_17 : decode cX2_init 17 = .ok (.putfield 15, 3) := by decide +kernel
theorem dX2_init_20 : decode cX2_init 20 = .ok (.aload_n 0, 1) := by decide +kernel
theorem dX2_init_21 : decode cX2_init 21 = .ok (.bipush 10, 2) := by decide +kernel
theorem dX2_init_23 : decode cX2_init 23 = .ok (.newarray .boolean, 2) := by decide +kernel
theorem dX2_init_25 : decode cX2_init 25 = .ok (.putfield 18, 3) := by decide +kernel
theorem dX2_init_28 : decode cX2_init 28 = .ok (.aload_n 0, 1) := by decide +kernel
theorem dX2_init_29 : decode cX2_init 29 = .ok (.iconst 0, 1) := by decide +kernel
theorem dX2_init_30 : decode cX2_init 30 = .ok (.putfield 22, 3) := by decide +kernel
theorem dX2_init_33 : decode cX2_init 33 = .ok (.aload_n 0, 1) := by decide +kernel
theorem dX2_init_34 : decode cX2_init 34 = .ok (.iconst 0, 1) := by decide +kernel
theorem dX2_init_35 : decode cX2_init 35 = .ok (.putfield 26, 3) := by decide +kernel
theorem dX2_init_38 : decode cX2_init 38 = .ok (.return_, 1) := by decide +kernel
abbrev rm2_init : Room := { frames := 1, cells := 3, slots := 30, locals := 20 }
theorem hd2_init : yX2_init.cls ≠ "java/lang/invoke/MethodHandle" ∧ yX2_init.cls ≠ "java/lang/invoke/VarHandle" ∧ (parseMethodDescriptor yX2_init.desc).map (fun d => d.parameters.length) = some 0 := by decide +kernel
set_option maxHeartbeats 4000000 in
set_option maxRecDepth 20000 in
theorem m2_init (l : Launch) (hl : l.stackTraces = false) (G : xG) (ρ : Nm → Nat) (this : Nm) (σ : PH) (Q : PH → Prop) (h : w2_init this σ Q) : xMet l yX2_init (.code yX2_init cX2_init 1 none) rm2_init G ρ σ [.ref (ρ this)] (eVA Q) xNo := by
  refine xMet.of hl (by decide +kernel) (Nat.le_of_ble_eq_true rfl) (fun X hC hr hn htab h0 => ?_)
  have hC : xC G X "PlantServer$Message" cX2_init 1 rm2_init := hC
  unfold w2_init at h
  refine xJ.loc (L' := [(0, .ref (ρ this))]) rfl ?_
  refine x_aload_n hC 0 rfl dX2_init_0 ?_
  refine x_oinit hC q563 q22 q23 (by decide) (by first | exact Nat.le_of_ble_eq_true rfl | (simp [rv_cat]; done) | (simp (decide := true) [rv_cat, cat_ref, cat_int]; done)) dX2_init_1 ?_
  refine x_aload_n hC 0 rfl dX2_init_4 ?_
  refine x_bipush (v := 10) hC dX2_init_5 (by decide) ?_
  obtain ⟨n1, hz1, h⟩ := h
  obtain ⟨z1, h⟩ := h
  refine x_newa (kd := 9) (N := 10) (by decide) hC n1 hz1 .int rfl (by decide) (by decide) q48 (by decide) (by decide) dX2_init_7 (fun ρ1 hρ1 => ?_)
  rw [← hρ1 this z1]
  refine xJ.nmH (fun σ1 e1 => ?_)
  have h := h σ1 e1
  have k1 : hK σ1 n1 = 9 := by rw [e1]; exact sN_c
  obtain ⟨k2, h⟩ := h
  refine x_putRF (m0 := n1) (n0 := this) hC (ci := 2) (T := TX2) (N := 5) (C := RX2) 0 k2 rfl rfl (by decide) rfl q564 rfl rfl hn (tyX2_ok 0 (by decide)) rfl rfl (by rw [k1]; decide) dX2_init_9 ?_
  refine xJ.nmH (fun σ2 e2 => ?_)
  have h := h σ2 e2
  have r1 : hR σ2 = hR σ2 ∧ hL σ2 = hL σ1 := by rw [e2]; exact ⟨rfl, rfl⟩
  refine x_aload_n hC 0 rfl dX2_init_12 ?_
  refine x_bipush (v := 10) hC dX2_init_13 (by decide) ?_
  obtain ⟨n2, hz2, h⟩ := h
  have k3 : hK σ2 this = 3 := by rw [e2]; exact k2
  refine x_newa (kd := 9) (N := 10) (by decide) hC n2 hz2 .int rfl (by decide) (by decide) q48 (by decide) (by decide) dX2_init_15 (fun ρ2 hρ2 => ?_)
  rw [← hρ2 this (by rw [k3]; decide)]
  refine xJ.nmH (fun σ3 e3 => ?_)
  have h := h σ3 e3
  have k4 : hK σ3 n2 = 9 := by rw [e3]; exact sN_c
  have k5 : hK σ3 this = 3 := by rw [e3]; exact sN_k hz2 k3 (by decide)
  refine x_putRF (m0 := n2) (n0 := this) hC (ci := 2) (T := TX2) (N := 5) (C := RX2) 1 k5 rfl rfl (by decide) rfl q566 rfl rfl hn (tyX2_ok 1 (by decide)) rfl rfl (by rw [k4]; decide) dX2_init_17 ?_
  refine xJ.nmH (fun σ4 e4 => ?_)
  have h := h σ4 e4
  have r2 : hR σ4 = hR σ4 ∧ hL σ4 = hL σ3 := by rw [e4]; exact ⟨rfl, rfl⟩
  refine x_aload_n hC 0 rfl dX2_init_20 ?_
  refine x_bipush (v := 10) hC dX2_init_21 (by decide) ?_
  obtain ⟨n3, hz3, h⟩ := h
  have k6 : hK σ4 this = 3 := by rw [e4]; exact k5
  refine x_newa (kd := 10) (N := 10) (by decide) hC n3 hz3 .boolean rfl (by decide) (by decide) q335 (by decide) (by decide) dX2_init_23 (fun ρ3 hρ3 => ?_)
  rw [← hρ3 this (by rw [k6]; decide)]
  refine xJ.nmH (fun σ5 e5 => ?_)
  have h := h σ5 e5
  have k7 : hK σ5 n3 = 10 := by rw [e5]; exact sN_c
  have k8 : hK σ5 this = 3 := by rw [e5]; exact sN_k hz3 k6 (by decide)
  refine x_putRF (m0 := n3) (n0 := this) hC (ci := 2) (T := TX2) (N := 5) (C := RX2) 2 k8 rfl rfl (by decide) rfl q568 rfl rfl hn (tyX2_ok 2 (by decide)) rfl rfl (by rw [k7]; decide) dX2_init_25 ?_
  refine xJ.nmH (fun σ6 e6 => ?_)
  have h := h σ6 e6
  have r3 : hR σ6 = hR σ6 ∧ hL σ6 = hL σ5 := by rw [e6]; exact ⟨rfl, rfl⟩
  refine x_aload_n hC 0 rfl dX2_init_28 ?_
  refine x_iconst (v := 0) hC dX2_init_29 (by decide) ?_
  have k9 : hK σ6 this = 3 := by rw [e6]; exact k8
  refine x_putI (n0 := this) hC (ci := 2) (T := TX2) (N := 5) (C := RX2) 3 k9 rfl rfl (by decide) rfl q570 rfl (tyX2_ok 3 (by decide)) dX2_init_30 ?_
  refine xJ.nmH (fun σ7 e7 => ?_)
  have h := h σ7 e7
  have r4 : hR σ7 = hR σ6 ∧ hL σ7 = hL σ5 := by rw [e7]; exact ⟨r3.1, r3.2⟩
  refine x_aload_n hC 0 rfl dX2_init_33 ?_
  refine x_iconst (v := 0) hC dX2_init_34 (by decide) ?_
  have k10 : hK σ7 this = 3 := by rw [e7]; exact k9
  refine x_putI (n0 := this) hC (ci := 2) (T := TX2) (N := 5) (C := RX2) 4 k10 rfl rfl (by decide) rfl q572 rfl (tyX2_ok 4 (by decide)) dX2_init_35 ?_
  refine xJ.nmH (fun σ8 e8 => ?_)
  have h := h σ8 e8
  have r5 : hR σ8 = hR σ6 ∧ hL σ8 = hL σ5 := by rw [e8]; exact ⟨r4.1, r4.2⟩
  exact x_vret hC hr dX2_init_38 (by decide) (by decide) ⟨rfl, h⟩
/-! PlantServer$Message.begin -/
theorem dX2_begin_0 : decode cX2_begin 0 = .ok (.aload_n 0, 1) := by decide +kernel
theorem dX2_begin_1 : decode cX2_begin 1 = .ok (.iload_n 1, 1) := by decide +kernel
theorem dX2_begin_2 : decode cX2_begin 2 = .ok (.putfield 22, 3) := by decide +kernel
theorem dX2_begin_5 : decode cX2_begin 5 = .ok (.aload_n 0, 1) := by decide +kernel
theorem dX2_begin_6 : decode cX2_begin 6 = .ok (.iconst 0, 1) := by decide +kernel
theorem dX2_begin_7 : decode cX2_begin 7 = .ok (.putfield 26, 3) := by decide +kernel
theorem dX2_begin_10 : decode cX2_begin 10 = .ok (.return_, 1) := by decide +kernel
abbrev rm2_begin : Room := { frames := 0, cells := 0, slots := 0, locals := 0 }
theorem hd2_begin : yX2_begin.cls ≠ "java/lang/invoke/MethodHandle" ∧ yX2_begin.cls ≠ "java/lang/invoke/VarHandle" ∧ (parseMethodDescriptor yX2_begin.desc).map (fun d => d.parameters.length) = some 1 := by decide +kernel
set_option maxHeartbeats 4000000 in
set_option maxRecDepth 20000 in
theorem m2_begin (l : Launch) (hl : l.stackTraces = false) (G : xG) (ρ : Nm → Nat) (this : Nm) (p1 : Int32) (σ : PH) (Q : PH → Prop) (h : w2_begin this p1 σ Q) : xMet l yX2_begin (.code yX2_begin cX2_begin 2 none) rm2_begin G ρ σ [.ref (ρ this), .int p1] (eV ρ Q) xNo := by
  refine xMet.of hl (by decide +kernel) (Nat.le_of_ble_eq_true rfl) (fun X hC hr hn htab h0 => ?_)
  have hC : xC G X "PlantServer$Message" cX2_begin 2 rm2_begin := hC
  unfold w2_begin at h
  refine xJ.loc (L' := [(0, .ref (ρ this)), (1, .int p1)]) rfl ?_
  refine x_aload_n hC 0 rfl dX2_begin_0 ?_
  refine x_iload_n hC 1 rfl dX2_begin_1 ?_
  obtain ⟨k1, h⟩ := h
  refine x_putI (n0 := this) hC (ci := 2) (T := TX2) (N := 5) (C := RX2) 3 k1 rfl rfl (by decide) rfl q570 rfl (tyX2_ok 3 (by decide)) dX2_begin_2 ?_
  refine xJ.nmH (fun σ1 e1 => ?_)
  have h := h σ1 e1
  have r1 : hR σ1 = hR σ ∧ hL σ1 = hL σ := by rw [e1]; exact ⟨rfl, rfl⟩
  refine x_aload_n hC 0 rfl dX2_begin_5 ?_
  refine x_iconst (v := 0) hC dX2_begin_6 (by decide) ?_
  have k2 : hK σ1 this = 3 := by rw [e1]; exact k1
  refine x_putI (n0 := this) hC (ci := 2) (T := TX2) (N := 5) (C := RX2) 4 k2 rfl rfl (by decide) rfl q572 rfl (tyX2_ok 4 (by decide)) dX2_begin_7 ?_
  refine xJ.nmH (fun σ2 e2 => ?_)
  have h := h σ2 e2
  have r2 : hR σ2 = hR σ ∧ hL σ2 = hL σ := by rw [e2]; exact ⟨r1.1, r1.2⟩
  exact x_vret hC hr dX2_begin_10 (by decide) (by decide) ⟨rfl, rfl, h⟩
/-! PlantServer$Subscription.nextMessage -/
theorem dX4_nextMessage_0 : decode cX4_nextMessage 0 = .ok (.aload_n 0, 1) := by decide +kernel
theorem dX4_nextMessage_1 : decode cX4_nextMessage 1 = .ok (.getfield 31, 3) := by decide +kernel
theorem dX4_nextMessage_4 : decode cX4_nextMessage 4 = .ok (.iconst 5, 1) := by decide +kernel
theorem dX4_nextMessage_5 : decode cX4_nextMessage 5 = .ok (.if_icmp .lt 8, 3) := by decide +kernel
theorem dX4_nextMessage_8 : decode cX4_nextMessage 8 = .ok (.aload_n 0, 1) := by decide +kernel
theorem dX4_nextMessage_9 : decode cX4_nextMessage 9 = .ok (.iconst 0, 1) := by decide +kernel
theorem dX4_nextMessage_10 : decode cX4_nextMessage 10 = .ok (.invokevirtual 101, 3) := by decide +kernel
theorem dX4_nextMessage_13 : decode cX4_nextMessage 13 = .ok (.aload_n 0, 1) := by decide +kernel
theorem dX4_nextMessage_14 : decode cX4_nextMessage 14 = .ok (.getfield 19, 3) := by decide +kernel
theorem dX4_nextMessage_17 : decode cX4_nextMessage 17 = .ok (.aload_n 0, 1) := by decide +kernel
theorem dX4_nextMessage_18 : decode cX4_nextMessage 18 = .ok (.getfield 31, 3) := by decide +kernel
theorem dX4_nextMessage_21 : decode cX4_nextMessage 21 = .ok (.aaload, 1) := by decide +kernel
theorem dX4_nextMessage_22 : decode cX4_nextMessage 22 = .ok (.astore_n 1, 1) := by decide +kernel
theorem dX4_nextMessage_23 : decode cX4_nextMessage 23 = .ok (.aload_n 1, 1) := by decide +kernel
theorem dX4_nextMessage_24 : decode cX4_nextMessage 24 = .ok (.ifnonnull 21, 3) := by decide +kernel
theorem dX4_nextMessage_27 : decode cX4_nextMessage 27 = .ok (.new 17, 3) := by decide +kernel
theorem dX4_nextMessage_30 : decode cX4_nextMessage 30 = .ok (.dup, 1) := by decide +kernel
theorem dX4_nextMessage_31 : decode cX4_nextMessage 31 = .ok (.invokespecial 104, 3) := by decide +kernel
theorem dX4_nextMessage_34 : decode cX4_nextMessage 34 = .ok (.astore_n 1, 1) := by decide +kernel
theorem dX4_nextMessage_35 : decode cX4_nextMessage 35 = .ok (.aload_n 0, 1) := by decide +kernel
theorem dX4_nextMessage_36 : decode cX4_nextMessage 36 = .ok (.getfield 19, 3) := by decide +kernel
theorem dX4_nextMessage_39 : decode cX4_nextMessage 39 = .ok (.aload_n 0, 1) := by decide +kernel
theorem dX4_nextMessage_40 : decode cX4_nextMessage 40 = .ok (.getfield 31, 3) := by decide +kernel
theorem dX4_nextMessage_43 : decode cX4_nextMessage 43 = .ok (.aload_n 1, 1) := by decide +kernel
theorem dX4_nextMessage_44 : decode cX4_nextMessage 44 = .ok (.aastore, 1) := by decide +kernel
theorem dX4_nextMessage_45 : decode cX4_nextMessage 45 = .ok (.aload_n 0, 1) := by decide +kernel
theorem dX4_nextMessage_46 : decode cX4_nextMessage 46 = .ok (.dup, 1) := by decide +kernel
theorem dX4_nextMessage_47 : decode cX4_nextMessage 47 = .ok (.getfield 31, 3) := by decide +kernel
theorem dX4_nextMessage_50 : decode cX4_nextMessage 50 = .ok (.iconst 1, 1) := by decide +kernel
theorem dX4_nextMessage_51 : decode cX4_nextMessage 51 = .ok (.iadd, 1) := by decide +kernel
theorem dX4_nextMessage_52 : decode cX4_nextMessage 52 = .ok (.putfield 31, 3) := by decide +kernel
theorem dX4_nextMessage_55 : decode cX4_nextMessage 55 = .ok (.aload_n 0, 1) := by decide +kernel
theorem dX4_nextMessage_56 : decode cX4_nextMessage 56 = .ok (.dup, 1) := by decide +kernel
theorem dX4_nextMessage_57 : decode cX4_nextMessage 57 = .ok (.getfield 34, 3) := by decide +kernel
theorem dX4_nextMessage_60 : decode cX4_nextMessage 60 = .ok (.iconst 1, 1) := by decide +kernel
theorem dX4_nextMessage_61 : decode cX4_nextMessage 61 = .ok (.iadd, 1) := by decide +kernel
theorem dX4_nextMessage_62 : decode cX4_nextMessage 62 = .ok (.putfield 34, 3) := by decide +kernel
theorem dX4_nextMessage_65 : decode cX4_nextMessage 65 = .ok (.aload_n 1, 1) := by decide +kernel
theorem dX4_nextMessage_66 : decode cX4_nextMessage 66 = .ok (.aload_n 0, 1) := by decide +kernel
theorem dX4_nextMessage_67 : decode cX4_nextMessage 67 = .ok (.getfield 34, 3) := by decide +kernel
theorem dX4_nextMessage_70 : decode cX4_nextMessage 70 = .ok (.invokevirtual 105, 3) := by decide +kernel
theorem dX4_nextMessage_73 : decode cX4_nextMessage 73 = .ok (.aload_n 1, 1) := by decide +kernel
theorem dX4_nextMessage_74 : decode cX4_nextMessage 74 = .ok (.areturn, 1) := by decide +kernel
abbrev rm4_nextMessage : Room := { frames := 2, cells := 4, slots := 35, locals := 40 }
theorem hd4_nextMessage : yX4_nextMessage.cls ≠ "java/lang/invoke/MethodHandle" ∧ yX4_nextMessage.cls ≠ "java/lang/invoke/VarHandle" ∧ (parseMethodDescriptor yX4_nextMessage.desc).map (fun d => d.parameters.length) = some 0 := by decide +kernel
set_option maxHeartbeats 4000000 in
set_option maxRecDepth 20000 in
theorem m4_nextMessage (l : Launch) (hl : l.stackTraces = false) (G : xG) (ρ : Nm → Nat) (this : Nm) (σ : PH) (Q : Option Nm → PH → Prop) (h : w4_nextMessage this σ Q) : xMet l yX4_nextMessage (.code yX4_nextMessage cX4_nextMessage 2 (some (.object "PlantServer$Message"))) rm4_nextMessage G ρ σ [.ref (ρ this)] (eRA Q) xNo := by
  refine xMet.of hl (by decide +kernel) (Nat.le_of_ble_eq_true rfl) (fun X hC hr hn htab h0 => ?_)
  have hC : xC G X "PlantServer$Subscription" cX4_nextMessage 2 rm4_nextMessage := hC
  unfold w4_nextMessage at h
  refine xJ.loc (L' := [(0, .ref (ρ this))]) rfl ?_
  refine x_aload_n hC 0 rfl dX4_nextMessage_0 ?_
  obtain ⟨k1, h⟩ := h
  refine x_getI (n0 := this) hC (ci := 4) (T := TX4) (N := 14) (C := RX4) 9 k1 rfl rfl (by decide) rfl q219 dX4_nextMessage_1 ?_
  refine x_iconst (v := 5) hC dX4_nextMessage_4 (by decide) ?_
  refine x_icmp_lt (tgt := 13) hC dX4_nextMessage_5 (by decide) (fun c1 => ?_) (fun c1 => ?_)
  · have h := h.1 c1
    refine x_aload_n hC 0 rfl dX4_nextMessage_13 ?_
    refine x_getR (n0 := this) hC (ci := 4) (T := TX4) (N := 14) (C := RX4) 6 k1 rfl rfl (by decide) rfl q214 dX4_nextMessage_14 ?_
    refine x_aload_n hC 0 rfl dX4_nextMessage_17 ?_
    refine x_getI (n0 := this) hC (ci := 4) (T := TX4) (N := 14) (C := RX4) 9 k1 rfl rfl (by decide) rfl q219 dX4_nextMessage_18 ?_
    obtain ⟨m1, hm1, h⟩ := h
    rw [show rv ρ (hR σ this 6) = Value.ref (ρ m1) from by rw [hm1]; rfl]
    obtain ⟨k2, h⟩ := h
    obtain ⟨v1, h⟩ := h
    refine x_aald12 (a := m1) hC k2 v1 dX4_nextMessage_21 ?_
    refine x_astore_nQ (o := hR σ m1 (Int32.toNatClampNeg (hI σ this 9))) (L' := [(1, rv ρ (hR σ m1 (Int32.toNatClampNeg (hI σ this 9)))), (0, .ref (ρ this))]) hC dX4_nextMessage_22 (by decide) (by first | rfl | simp (decide := true) [rv_cat, cat_ref, cat_int]) ?_
    refine x_aload_nQ (o := hR σ m1 (Int32.toNatClampNeg (hI σ this 9))) hC 0 rfl dX4_nextMessage_23 ?_
    refine x_ifnonnull (o := hR σ m1 (Int32.toNatClampNeg (hI σ this 9))) (tgt := 45) hC dX4_nextMessage_24 (by decide) (fun m2 c2 => ?_) (fun c2 => ?_)
    · have h := h.2 m2 c2
      rw [show rv ρ (hR σ m1 (Int32.toNatClampNeg (hI σ this 9))) = Value.ref (ρ m2) from by rw [c2]; rfl]
      refine x_aload_n hC 1 rfl dX4_nextMessage_45 ?_
      refine x_dup hC (by first | rfl | exact rv_cat) dX4_nextMessage_46 ?_
      refine x_getI (n0 := this) hC (ci := 4) (T := TX4) (N := 14) (C := RX4) 9 k1 rfl rfl (by decide) rfl q219 dX4_nextMessage_47 ?_
      refine x_iconst (v := 1) hC dX4_nextMessage_50 (by decide) ?_
      refine x_iadd hC dX4_nextMessage_51 ?_
      refine x_putI (n0 := this) hC (ci := 4) (T := TX4) (N := 14) (C := RX4) 9 k1 rfl rfl (by decide) rfl q219 rfl (tyX4_ok 9 (by decide)) dX4_nextMessage_52 ?_
      refine xJ.nmH (fun σ7 e5 => ?_)
      have h := h σ7 e5
      have r4 : hR σ7 = hR σ ∧ hL σ7 = hL σ := by rw [e5]; exact ⟨rfl, rfl⟩
      refine x_aload_n hC 1 rfl dX4_nextMessage_55 ?_
      refine x_dup hC (by first | rfl | exact rv_cat) dX4_nextMessage_56 ?_
      have k14 : hK σ7 this = 5 := by rw [e5]; exact k1
      refine x_getI (n0 := this) hC (ci := 4) (T := TX4) (N := 14) (C := RX4) 10 k14 rfl rfl (by decide) rfl q220 dX4_nextMessage_57 ?_
      refine x_iconst (v := 1) hC dX4_nextMessage_60 (by decide) ?_
      refine x_iadd hC dX4_nextMessage_61 ?_
      refine x_putI (n0 := this) hC (ci := 4) (T := TX4) (N := 14) (C := RX4) 10 k14 rfl rfl (by decide) rfl q220 rfl (tyX4_ok 10 (by decide)) dX4_nextMessage_62 ?_
      refine xJ.nmH (fun σ8 e6 => ?_)
      have h := h σ8 e6
      have r5 : hR σ8 = hR σ ∧ hL σ8 = hL σ := by rw [e6]; exact ⟨r4.1, r4.2⟩
      refine x_aload_n hC 0 rfl dX4_nextMessage_65 ?_
      refine x_aload_n hC 1 rfl dX4_nextMessage_66 ?_
      have k15 : hK σ8 this = 5 := by rw [e6]; exact k14
      refine x_getI (n0 := this) hC (ci := 4) (T := TX4) (N := 14) (C := RX4) 10 k15 rfl rfl (by decide) rfl q220 dX4_nextMessage_67 ?_
      obtain ⟨k16, h⟩ := h
      refine x_callV (n0 := m2) (as := [.int (hI σ8 this 10)]) (rest := []) hC (ci := 2) (r := (RX2, TX2, 5)) k16 rfl (fun l hl => m2_begin l hl G ρ m2 (hI σ8 this 10) σ8 _ h) q586 q587 q588 q15 q589 ⟨rfl, hd2_begin⟩ (by decide) ⟨(by decide), (by decide)⟩ (by first | exact Nat.le_of_ble_eq_true rfl | (simp [rv_cat]; done) | (simp (decide := true) [rv_cat, cat_ref, cat_int]; done)) rfl dX4_nextMessage_70 (fun E σ9 hx => False.elim hx) (fun v5 σ9 ρ4 hp3 hag3 => ?_)
      obtain ⟨e9, e8, h⟩ := hp3
      rw [e8, e9]
      refine xJ.nrm (k' := 0) (n' := 0) (pc' := 73) (st' := []) rfl rfl rfl rfl ?_
      refine x_aload_n hC 0 rfl dX4_nextMessage_73 ?_
      refine xJ.stk (st' := [rv ρ (some m2)]) rfl ?_
      exact x_aret (o := some m2) hC hr dX4_nextMessage_74 (by decide) (by decide) ⟨_, rfl, h⟩
    · have h := h.1 c2
      rw [show rv ρ (hR σ m1 (Int32.toNatClampNeg (hI σ this 9))) = Value.null from by rw [c2]; rfl]
      obtain ⟨n1, hz1, h⟩ := h
      refine x_new (ci := 2) (T := TX2) (N := 5) (C := RX2) hC n1 hz1 rfl xdf2 q190 q559 q15 (by decide) (by decide) dX4_nextMessage_27 (fun ρ1 hρ1 => ?_)
      refine xJ.sub (L' := [(0, .ref (ρ this))]) [1] rfl ?_
      rw [← hρ1 this (by rw [k1]; decide)]
      refine xJ.nmH (fun σ1 e1 => ?_)
      have h := h σ1 e1
      have k3 : hK σ1 n1 = 3 := by rw [e1]; exact sN_c
      refine x_dup hC (by first | rfl | exact rv_cat) dX4_nextMessage_30 ?_
      have k4 : hK σ1 this = 5 := by rw [e1]; exact sN_k hz1 k1 (by decide)
      refine x_callIN (as := []) (rest := [.ref (ρ1 n1)]) hC (fun l hl => m2_init l hl G ρ1 n1 σ1 _ h) qn_2 q561 q15 q562 rfl hd2_init (by decide) ⟨(by decide), (by decide)⟩ (by first | exact Nat.le_of_ble_eq_true rfl | (simp [rv_cat]; done) | (simp (decide := true) [rv_cat, cat_ref, cat_int]; done)) rfl dX4_nextMessage_31 (fun E σ9 hx => False.elim hx) (fun v2 σ2 ρ2 hp1 hag1 => ?_)
      obtain ⟨e8, h⟩ := hp1
      rw [e8]
      rw [← (hag1 this (by rw [k4]; decide)).2, ← (hag1 n1 (by rw [k3]; decide)).2]
      refine xJ.nrm (k' := 4) (n' := 35) (pc' := 34) (st' := [.ref (ρ2 n1)]) rfl rfl rfl rfl ?_
      refine x_astore_n (L' := [(1, .ref (ρ2 n1)), (0, .ref (ρ2 this))]) hC dX4_nextMessage_34 (by decide) (by first | rfl | simp (decide := true) [rv_cat, cat_ref, cat_int]) ?_
      refine x_aload_n hC 1 rfl dX4_nextMessage_35 ?_
      have k5 : hK σ2 this = 5 := (hag1 this (by rw [k4]; decide)).1.trans k4
      refine x_getR (n0 := this) hC (ci := 4) (T := TX4) (N := 14) (C := RX4) 6 k5 rfl rfl (by decide) rfl q214 dX4_nextMessage_36 ?_
      refine x_aload_n hC 1 rfl dX4_nextMessage_39 ?_
      refine x_getI (n0 := this) hC (ci := 4) (T := TX4) (N := 14) (C := RX4) 9 k5 rfl rfl (by decide) rfl q219 dX4_nextMessage_40 ?_
      refine x_aload_n hC 0 rfl dX4_nextMessage_43 ?_
      obtain ⟨m3, hm2, h⟩ := h
      rw [show rv ρ2 (hR σ2 this 6) = Value.ref (ρ2 m3) from by rw [hm2]; rfl]
      obtain ⟨k6, h⟩ := h
      obtain ⟨v3, h⟩ := h
      have k7 : hK σ2 n1 = 3 := (hag1 n1 (by rw [k3]; decide)).1.trans k3
      refine x_aast12 (a := m3) (o := some n1) hC (fun m hm => by cases hm; exact k7) k6 v3 dX4_nextMessage_44 ?_
      refine xJ.nmH (fun σ3 e2 => ?_)
      have h := h σ3 e2
      have r1 : hR σ3 = hR σ3 ∧ hL σ3 = hL σ2 := by rw [e2]; exact ⟨rfl, rfl⟩
      refine x_aload_n hC 1 rfl dX4_nextMessage_45 ?_
      refine x_dup hC (by first | rfl | exact rv_cat) dX4_nextMessage_46 ?_
      have k8 : hK σ3 this = 5 := by rw [e2]; exact k5
      refine x_getI (n0 := this) hC (ci := 4) (T := TX4) (N := 14) (C := RX4) 9 k8 rfl rfl (by decide) rfl q219 dX4_nextMessage_47 ?_
      refine x_iconst (v := 1) hC dX4_nextMessage_50 (by decide) ?_
      refine x_iadd hC dX4_nextMessage_51 ?_
      refine x_putI (n0 := this) hC (ci := 4) (T := TX4) (N := 14) (C := RX4) 9 k8 rfl rfl (by decide) rfl q219 rfl (tyX4_ok 9 (by decide)) dX4_nextMessage_52 ?_
      refine xJ.nmH (fun σ4 e3 => ?_)
      have h := h σ4 e3
      have r2 : hR σ4 = hR σ3 ∧ hL σ4 = hL σ2 := by rw [e3]; exact ⟨r1.1, r1.2⟩
      refine x_aload_n hC 1 rfl dX4_nextMessage_55 ?_
      refine x_dup hC (by first | rfl | exact rv_cat) dX4_nextMessage_56 ?_
      have k9 : hK σ4 this = 5 := by rw [e3]; exact k8
      refine x_getI (n0 := this) hC (ci := 4) (T := TX4) (N := 14) (C := RX4) 10 k9 rfl rfl (by decide) rfl q220 dX4_nextMessage_57 ?_
      refine x_iconst (v := 1) hC dX4_nextMessage_60 (by decide) ?_
      refine x_iadd hC dX4_nextMessage_61 ?_
      refine x_putI (n0 := this) hC (ci := 4) (T := TX4) (N := 14) (C := RX4) 10 k9 rfl rfl (by decide) rfl q220 rfl (tyX4_ok 10 (by decide)) dX4_nextMessage_62 ?_
      refine xJ.nmH (fun σ5 e4 => ?_)
      have h := h σ5 e4
      have r3 : hR σ5 = hR σ3 ∧ hL σ5 = hL σ2 := by rw [e4]; exact ⟨r2.1, r2.2⟩
      refine x_aload_n hC 0 rfl dX4_nextMessage_65 ?_
      refine x_aload_n hC 1 rfl dX4_nextMessage_66 ?_
      have k10 : hK σ5 this = 5 := by rw [e4]; exact k9
      refine x_getI (n0 := this) hC (ci := 4) (T := TX4) (N := 14) (C := RX4) 10 k10 rfl rfl (by decide) rfl q220 dX4_nextMessage_67 ?_
      have k11 : hK σ3 n1 = 3 := by rw [e2]; exact k7
      have k12 : hK σ4 n1 = 3 := by rw [e3]; exact k11
      have k13 : hK σ5 n1 = 3 := by rw [e4]; exact k12
      refine x_callV (n0 := n1) (as := [.int (hI σ5 this 10)]) (rest := []) hC (ci := 2) (r := (RX2, TX2, 5)) k13 rfl (fun l hl => m2_begin l hl G ρ2 n1 (hI σ5 this 10) σ5 _ h) q586 q587 q588 q15 q589 ⟨rfl, hd2_begin⟩ (by decide) ⟨(by decide), (by decide)⟩ (by first | exact Nat.le_of_ble_eq_true rfl | (simp [rv_cat]; done) | (simp (decide := true) [rv_cat, cat_ref, cat_int]; done)) rfl dX4_nextMessage_70 (fun E σ9 hx => False.elim hx) (fun v4 σ6 ρ3 hp2 hag2 => ?_)
      obtain ⟨e9, e8, h⟩ := hp2
      rw [e8, e9]
      refine xJ.nrm (k' := 4) (n' := 35) (pc' := 73) (st' := []) rfl rfl rfl rfl ?_
      refine x_aload_n hC 0 rfl dX4_nextMessage_73 ?_
      refine xJ.stk (st' := [rv ρ2 (some n1)]) rfl ?_
      exact x_aret (o := some n1) hC hr dX4_nextMessage_74 (by decide) (by decide) ⟨_, rfl, h⟩
  · have h := h.2 c1
    refine x_aload_n hC 0 rfl dX4_nextMessage_8 ?_
    refine x_iconst (v := 0) hC dX4_nextMessage_9 (by decide) ?_
    refine x_callV (n0 := this) (as := [.int 0]) (rest := []) hC (ci := 4) (r := (RX4, TX4, 14)) k1 rfl (fun l hl => m4_forget l hl G ρ this 0 σ _ h) q558 q492 q493 q11 q494 ⟨rfl, hd4_forget⟩ (by decide) ⟨(by decide), (by decide)⟩ (by first | exact Nat.le_of_ble_eq_true rfl | (simp [rv_cat]; done) | (simp (decide := true) [rv_cat, cat_ref, cat_int]; done)) rfl dX4_nextMessage_10 (fun E σ9 hx => False.elim hx) (fun v6 σ10 ρ5 hp4 hag4 => ?_)
    obtain ⟨e9, e8, h⟩ := hp4
    rw [e8, e9]
    refine xJ.nrm (k' := 0) (n' := 0) (pc' := 13) (st' := []) rfl rfl rfl rfl ?_
    refine x_aload_n hC 0 rfl dX4_nextMessage_13 ?_
    have k17 : hK σ10 this = 5 := (hag4 this (by rw [k1]; decide)).1.trans k1
    refine x_getR (n0 := this) hC (ci := 4) (T := TX4) (N := 14) (C := RX4) 6 k17 rfl rfl (by decide) rfl q214 dX4_nextMessage_14 ?_
    refine x_aload_n hC 0 rfl dX4_nextMessage_17 ?_
    refine x_getI (n0 := this) hC (ci := 4) (T := TX4) (N := 14) (C := RX4) 9 k17 rfl rfl (by decide) rfl q219 dX4_nextMessage_18 ?_
    obtain ⟨m4, hm3, h⟩ := h
    rw [show rv ρ (hR σ10 this 6) = Value.ref (ρ m4) from by rw [hm3]; rfl]
    obtain ⟨k18, h⟩ := h
    obtain ⟨v7, h⟩ := h
    refine x_aald12 (a := m4) hC k18 v7 dX4_nextMessage_21 ?_
    refine x_astore_nQ (o := hR σ10 m4 (Int32.toNatClampNeg (hI σ10 this 9))) (L' := [(1, rv ρ (hR σ10 m4 (Int32.toNatClampNeg (hI σ10 this 9)))), (0, .ref (ρ this))]) hC dX4_nextMessage_22 (by decide) (by first | rfl | simp (decide := true) [rv_cat, cat_ref, cat_int]) ?_
    refine x_aload_nQ (o := hR σ10 m4 (Int32.toNatClampNeg (hI σ10 this 9))) hC 0 rfl dX4_nextMessage_23 ?_
    refine x_ifnonnull (o := hR σ10 m4 (Int32.toNatClampNeg (hI σ10 this 9))) (tgt := 45) hC dX4_nextMessage_24 (by decide) (fun m5 c3 => ?_) (fun c3 => ?_)
    · have h := h.2 m5 c3
      rw [show rv ρ (hR σ10 m4 (Int32.toNatClampNeg (hI σ10 this 9))) = Value.ref (ρ m5) from by rw [c3]; rfl]
      refine x_aload_n hC 1 rfl dX4_nextMessage_45 ?_
      refine x_dup hC (by first | rfl | exact rv_cat) dX4_nextMessage_46 ?_
      refine x_getI (n0 := this) hC (ci := 4) (T := TX4) (N := 14) (C := RX4) 9 k17 rfl rfl (by decide) rfl q219 dX4_nextMessage_47 ?_
      refine x_iconst (v := 1) hC dX4_nextMessage_50 (by decide) ?_
      refine x_iadd hC dX4_nextMessage_51 ?_
      refine x_putI (n0 := this) hC (ci := 4) (T := TX4) (N := 14) (C := RX4) 9 k17 rfl rfl (by decide) rfl q219 rfl (tyX4_ok 9 (by decide)) dX4_nextMessage_52 ?_
      refine xJ.nmH (fun σ17 e11 => ?_)
      have h := h σ17 e11
      have r9 : hR σ17 = hR σ10 ∧ hL σ17 = hL σ10 := by rw [e11]; exact ⟨rfl, rfl⟩
      refine x_aload_n hC 1 rfl dX4_nextMessage_55 ?_
      refine x_dup hC (by first | rfl | exact rv_cat) dX4_nextMessage_56 ?_
      have k30 : hK σ17 this = 5 := by rw [e11]; exact k17
      refine x_getI (n0 := this) hC (ci := 4) (T := TX4) (N := 14) (C := RX4) 10 k30 rfl rfl (by decide) rfl q220 dX4_nextMessage_57 ?_
      refine x_iconst (v := 1) hC dX4_nextMessage_60 (by decide) ?_
      refine x_iadd hC dX4_nextMessage_61 ?_
      refine x_putI (n0 := this) hC (ci := 4) (T := TX4) (N := 14) (C := RX4) 10 k30 rfl rfl (by decide) rfl q220 rfl (tyX4_ok 10 (by decide)) dX4_nextMessage_62 ?_
      refine xJ.nmH (fun σ18 e12 => ?_)
      have h := h σ18 e12
      have r10 : hR σ18 = hR σ10 ∧ hL σ18 = hL σ10 := by rw [e12]; exact ⟨r9.1, r9.2⟩
      refine x_aload_n hC 0 rfl dX4_nextMessage_65 ?_
      refine x_aload_n hC 1 rfl dX4_nextMessage_66 ?_
      have k31 : hK σ18 this = 5 := by rw [e12]; exact k30
      refine x_getI (n0 := this) hC (ci := 4) (T := TX4) (N := 14) (C := RX4) 10 k31 rfl rfl (by decide) rfl q220 dX4_nextMessage_67 ?_
      obtain ⟨k32, h⟩ := h
      refine x_callV (n0 := m5) (as := [.int (hI σ18 this 10)]) (rest := []) hC (ci := 2) (r := (RX2, TX2, 5)) k32 rfl (fun l hl => m2_begin l hl G ρ m5 (hI σ18 this 10) σ18 _ h) q586 q587 q588 q15 q589 ⟨rfl, hd2_begin⟩ (by decide) ⟨(by decide), (by decide)⟩ (by first | exact Nat.le_of_ble_eq_true rfl | (simp [rv_cat]; done) | (simp (decide := true) [rv_cat, cat_ref, cat_int]; done)) rfl dX4_nextMessage_70 (fun E σ9 hx => False.elim hx) (fun v11 σ19 ρ9 hp7 hag7 => ?_)
      obtain ⟨e9, e8, h⟩ := hp7
      rw [e8, e9]
      refine xJ.nrm (k' := 0) (n' := 0) (pc' := 73) (st' := []) rfl rfl rfl rfl ?_
      refine x_aload_n hC 0 rfl dX4_nextMessage_73 ?_
      refine xJ.stk (st' := [rv ρ (some m5)]) rfl ?_
      exact x_aret (o := some m5) hC hr dX4_nextMessage_74 (by decide) (by decide) ⟨_, rfl, h⟩
    · have h := h.1 c3
      rw [show rv ρ (hR σ10 m4 (Int32.toNatClampNeg (hI σ10 this 9))) = Value.null from by rw [c3]; rfl]
      obtain ⟨n2, hz2, h⟩ := h
      refine x_new (ci := 2) (T := TX2) (N := 5) (C := RX2) hC n2 hz2 rfl xdf2 q190 q559 q15 (by decide) (by decide) dX4_nextMessage_27 (fun ρ6 hρ2 => ?_)
      refine xJ.sub (L' := [(0, .ref (ρ this))]) [1] rfl ?_
      rw [← hρ2 this (by rw [k17]; decide)]
      refine xJ.nmH (fun σ11 e7 => ?_)
      have h := h σ11 e7
      have k19 : hK σ11 n2 = 3 := by rw [e7]; exact sN_c
      refine x_dup hC (by first | rfl | exact rv_cat) dX4_nextMessage_30 ?_
      have k20 : hK σ11 this = 5 := by rw [e7]; exact sN_k hz2 k17 (by decide)
      refine x_callIN (as := []) (rest := [.ref (ρ6 n2)]) hC (fun l hl => m2_init l hl G ρ6 n2 σ11 _ h) qn_2 q561 q15 q562 rfl hd2_init (by decide) ⟨(by decide), (by decide)⟩ (by first | exact Nat.le_of_ble_eq_true rfl | (simp [rv_cat]; done) | (simp (decide := true) [rv_cat, cat_ref, cat_int]; done)) rfl dX4_nextMessage_31 (fun E σ9 hx => False.elim hx) (fun v8 σ12 ρ7 hp5 hag5 => ?_)
      obtain ⟨e8, h⟩ := hp5
      rw [e8]
      rw [← (hag5 this (by rw [k20]; decide)).2, ← (hag5 n2 (by rw [k19]; decide)).2]
      refine xJ.nrm (k' := 4) (n' := 35) (pc' := 34) (st' := [.ref (ρ7 n2)]) rfl rfl rfl rfl ?_
      refine x_astore_n (L' := [(1, .ref (ρ7 n2)), (0, .ref (ρ7 this))]) hC dX4_nextMessage_34 (by decide) (by first | rfl | simp (decide := true) [rv_cat, cat_ref, cat_int]) ?_
      refine x_aload_n hC 1 rfl dX4_nextMessage_35 ?_
      have k21 : hK σ12 this = 5 := (hag5 this (by rw [k20]; decide)).1.trans k20
      refine x_getR (n0 := this) hC (ci := 4) (T := TX4) (N := 14) (C := RX4) 6 k21 rfl rfl (by decide) rfl q214 dX4_nextMessage_36 ?_
      refine x_aload_n hC 1 rfl dX4_nextMessage_39 ?_
      refine x_getI (n0 := this) hC (ci := 4) (T := TX4) (N := 14) (C := RX4) 9 k21 rfl rfl (by decide) rfl q219 dX4_nextMessage_40 ?_
      refine x_aload_n hC 0 rfl dX4_nextMessage_43 ?_
      obtain ⟨m6, hm4, h⟩ := h
      rw [show rv ρ7 (hR σ12 this 6) = Value.ref (ρ7 m6) from by rw [hm4]; rfl]
      obtain ⟨k22, h⟩ := h
      obtain ⟨v9, h⟩ := h
      have k23 : hK σ12 n2 = 3 := (hag5 n2 (by rw [k19]; decide)).1.trans k19
      refine x_aast12 (a := m6) (o := some n2) hC (fun m hm => by cases hm; exact k23) k22 v9 dX4_nextMessage_44 ?_
      refine xJ.nmH (fun σ13 e8 => ?_)
      have h := h σ13 e8
      have r6 : hR σ13 = hR σ13 ∧ hL σ13 = hL σ12 := by rw [e8]; exact ⟨rfl, rfl⟩
      refine x_aload_n hC 1 rfl dX4_nextMessage_45 ?_
      refine x_dup hC (by first | rfl | exact rv_cat) dX4_nextMessage_46 ?_
      have k24 : hK σ13 this = 5 := by rw [e8]; exact k21
      refine x_getI (n0 := this) hC (ci := 4) (T := TX4) (N := 14) (C := RX4) 9 k24 rfl rfl (by decide) rfl q219 dX4_nextMessage_47 ?_
      refine x_iconst (v := 1) hC dX4_nextMessage_50 (by decide) ?_
      refine x_iadd hC dX4_nextMessage_51 ?_
      refine x_putI (n0 := this) hC (ci := 4) (T := TX4) (N := 14) (C := RX4) 9 k24 rfl rfl (by decide) rfl q219 rfl (tyX4_ok 9 (by decide)) dX4_nextMessage_52 ?_
      refine xJ.nmH (fun σ14 e9 => ?_)
      have h := h σ14 e9
      have r7 : hR σ14 = hR σ13 ∧ hL σ14 = hL σ12 := by rw [e9]; exact ⟨r6.1, r6.2⟩
      refine x_aload_n hC 1 rfl dX4_nextMessage_55 ?_
      refine x_dup hC (by first | rfl | exact rv_cat) dX4_nextMessage_56 ?_
      have k25 : hK σ14 this = 5 := by rw [e9]; exact k24
      refine x_getI (n0 := this) hC (ci := 4) (T := TX4) (N := 14) (C := RX4) 10 k25 rfl rfl (by decide) rfl q220 dX4_nextMessage_57 ?_
      refine x_iconst (v := 1) hC dX4_nextMessage_60 (by decide) ?_
      refine x_iadd hC dX4_nextMessage_61 ?_
      refine x_putI (n0 := this) hC (ci := 4) (T := TX4) (N := 14) (C := RX4) 10 k25 rfl rfl (by decide) rfl q220 rfl (tyX4_ok 10 (by decide)) dX4_nextMessage_62 ?_
      refine xJ.nmH (fun σ15 e10 => ?_)
      have h := h σ15 e10
      have r8 : hR σ15 = hR σ13 ∧ hL σ15 = hL σ12 := by rw [e10]; exact ⟨r7.1, r7.2⟩
      refine x_aload_n hC 0 rfl dX4_nextMessage_65 ?_
      refine x_aload_n hC 1 rfl dX4_nextMessage_66 ?_
      have k26 : hK σ15 this = 5 := by rw [e10]; exact k25
      refine x_getI (n0 := this) hC (ci := 4) (T := TX4) (N := 14) (C := RX4) 10 k26 rfl rfl (by decide) rfl q220 dX4_nextMessage_67 ?_
      have k27 : hK σ13 n2 = 3 := by rw [e8]; exact k23
      have k28 : hK σ14 n2 = 3 := by rw [e9]; exact k27
      have k29 : hK σ15 n2 = 3 := by rw [e10]; exact k28
      refine x_callV (n0 := n2) (as := [.int (hI σ15 this 10)]) (rest := []) hC (ci := 2) (r := (RX2, TX2, 5)) k29 rfl (fun l hl => m2_begin l hl G ρ7 n2 (hI σ15 this 10) σ15 _ h) q586 q587 q588 q15 q589 ⟨rfl, hd2_begin⟩ (by decide) ⟨(by decide), (by decide)⟩ (by first | exact Nat.le_of_ble_eq_true rfl | (simp [rv_cat]; done) | (simp (decide := true) [rv_cat, cat_ref, cat_int]; done)) rfl dX4_nextMessage_70 (fun E σ9 hx => False.elim hx) (fun v10 σ16 ρ8 hp6 hag6 => ?_)
      obtain ⟨e9, e8, h⟩ := hp6
      rw [e8, e9]
      refine xJ.nrm (k' := 4) (n' := 35) (pc' := 73) (st' := []) rfl rfl rfl rfl ?_
      refine x_aload_n hC 0 rfl dX4_nextMessage_73 ?_
      refine xJ.stk (st' := [rv ρ7 (some n2)]) rfl ?_
      exact x_aret (o := some n2) hC hr dX4_nextMessage_74 (by decide) (by decide) ⟨_, rfl, h⟩
/-! PlantServer$Message.append -/
theorem dX2_append_0 : decode cX2_append 0 = .ok (.aload_n 0, 1) := by decide +kernel
theorem dX2_append_1 : decode cX2_append 1 = .ok (.getfield 26, 3) := by decide +kernel
theorem dX2_append_4 : decode cX2_append 4 = .ok (.bipush 10, 2) := by decide +kernel
theorem dX2_append_6 : decode cX2_append 6 = .ok (.if_icmp .ge 43, 3) := by decide +kernel
theorem dX2_append_9 : decode cX2_append 9 = .ok (.aload_n 0, 1) := by decide +kernel
theorem dX2_append_10 : decode cX2_append 10 = .ok (.getfield 15, 3) := by decide +kernel
theorem dX2_append_13 : decode cX2_append 13 = .ok (.aload_n 0, 1) := by decide +kernel
theorem dX2_append_14 : decode cX2_append 14 = .ok (.getfield 26, 3) := by decide +kernel
theorem dX2_append_17 : decode cX2_append 17 = .ok (.iload_n 1, 1) := by decide +kernel
theorem dX2_append_18 : decode cX2_append 18 = .ok (.iastore, 1) := by decide +kernel
theorem dX2_append_19 : decode cX2_append 19 = .ok (.aload_n 0, 1) := by decide +kernel
theorem dX2_append_20 : decode cX2_append 20 = .ok (.getfield 9, 3) := by decide +kernel
theorem dX2_append_23 : decode cX2_append 23 = .ok (.aload_n 0, 1) := by decide +kernel
theorem dX2_append_24 : decode cX2_append 24 = .ok (.getfield 26, 3) := by decide +kernel
theorem dX2_append_27 : decode cX2_append 27 = .ok (.iload_n 2, 1) := by decide +kernel
theorem dX2_append_28 : decode cX2_append 28 = .ok (.iastore, 1) := by decide +kernel
theorem dX2_append_29 : decode cX2_append 29 = .ok (.aload_n 0, 1) := by decide +kernel
theorem dX2_append_30 : decode cX2_append 30 = .ok (.getfield 18, 3) := by decide +kernel
theorem dX2_append_33 : decode cX2_append 33 = .ok (.aload_n 0, 1) := by decide +kernel
theorem dX2_append_34 : decode cX2_append 34 = .ok (.getfield 26, 3) := by decide +kernel
theorem dX2_append_37 : decode cX2_append 37 = .ok (.iload_n 3, 1) := by decide +kernel
theorem dX2_append_38 : decode cX2_append 38 = .ok (.bastore, 1) := by decide +kernel
theorem dX2_append_39 : decode cX2_append 39 = .ok (.aload_n 0, 1) := by decide +kernel
theorem dX2_append_40 : decode cX2_append 40 = .ok (.dup, 1) := by decide +kernel
theorem dX2_append_41 : decode cX2_append 41 = .ok (.getfield 26, 3) := by decide +kernel
theorem dX2_append_44 : decode cX2_append 44 = .ok (.iconst 1, 1) := by decide +kernel
theorem dX2_append_45 : decode cX2_append 45 = .ok (.iadd, 1) := by decide +kernel
theorem dX2_append_46 : decode cX2_append 46 = .ok (.putfield 26, 3) := by decide +kernel
theorem dX2_append_49 : decode cX2_append 49 = .ok (.return_, 1) := by decide +kernel
abbrev rm2_append : Room := { frames := 0, cells := 0, slots := 0, locals := 0 }
theorem hd2_append : yX2_append.cls ≠ "java/lang/invoke/MethodHandle" ∧ yX2_append.cls ≠ "java/lang/invoke/VarHandle" ∧ (parseMethodDescriptor yX2_append.desc).map (fun d => d.parameters.length) = some 3 := by decide +kernel
set_option maxHeartbeats 4000000 in
set_option maxRecDepth 20000 in
theorem m2_append (l : Launch) (hl : l.stackTraces = false) (G : xG) (ρ : Nm → Nat) (this : Nm) (p1 : Int32) (p2 : Int32) (p3 : Int32) (σ : PH) (Q : PH → Prop) (h : w2_append this p1 p2 p3 σ Q) : xMet l yX2_append (.code yX2_append cX2_append 4 none) rm2_append G ρ σ [.ref (ρ this), .int p1, .int p2, .int p3] (eV ρ Q) xNo := by
  refine xMet.of hl (by decide +kernel) (Nat.le_of_ble_eq_true rfl) (fun X hC hr hn htab h0 => ?_)
  have hC : xC G X "PlantServer$Message" cX2_append 4 rm2_append := hC
  unfold w2_append at h
  refine xJ.loc (L' := [(0, .ref (ρ this)), (1, .int p1), (2, .int p2), (3, .int p3)]) rfl ?_
  refine x_aload_n hC 0 rfl dX2_append_0 ?_
  obtain ⟨k1, h⟩ := h
  refine x_getI (n0 := this) hC (ci := 2) (T := TX2) (N := 5) (C := RX2) 4 k1 rfl rfl (by decide) rfl q572 dX2_append_1 ?_
  refine x_bipush (v := 10) hC dX2_append_4 (by decide) ?_
  refine x_icmp_ge (tgt := 49) hC dX2_append_6 (by decide) (fun c1 => ?_) (fun c1 => ?_)
  · have h := h.1 c1
    exact x_vret hC hr dX2_append_49 (by decide) (by decide) ⟨rfl, rfl, h⟩
  · have h := h.2 c1
    refine x_aload_n hC 0 rfl dX2_append_9 ?_
    refine x_getR (n0 := this) hC (ci := 2) (T := TX2) (N := 5) (C := RX2) 1 k1 rfl rfl (by decide) rfl q566 dX2_append_10 ?_
    refine x_aload_n hC 0 rfl dX2_append_13 ?_
    refine x_getI (n0 := this) hC (ci := 2) (T := TX2) (N := 5) (C := RX2) 4 k1 rfl rfl (by decide) rfl q572 dX2_append_14 ?_
    refine x_iload_n hC 1 rfl dX2_append_17 ?_
    obtain ⟨m1, hm1, h⟩ := h
    rw [show rv ρ (hR σ this 1) = Value.ref (ρ m1) from by rw [hm1]; rfl]
    obtain ⟨k2, h⟩ := h
    obtain ⟨v1, h⟩ := h
    refine x_iast (a := m1) hC k2 v1 dX2_append_18 ?_
    refine xJ.nmH (fun σ1 e1 => ?_)
    have h := h σ1 e1
    have r1 : hR σ1 = hR σ ∧ hL σ1 = hL σ := by rw [e1]; exact ⟨rfl, rfl⟩
    refine x_aload_n hC 0 rfl dX2_append_19 ?_
    have k3 : hK σ1 this = 3 := by rw [e1]; exact k1
    refine x_getR (n0 := this) hC (ci := 2) (T := TX2) (N := 5) (C := RX2) 0 k3 rfl rfl (by decide) rfl q564 dX2_append_20 ?_
    rw [r1.1]
    refine x_aload_n hC 0 rfl dX2_append_23 ?_
    refine x_getI (n0 := this) hC (ci := 2) (T := TX2) (N := 5) (C := RX2) 4 k3 rfl rfl (by decide) rfl q572 dX2_append_24 ?_
    refine x_iload_n hC 2 rfl dX2_append_27 ?_
    obtain ⟨m2, hm2, h⟩ := h
    rw [show rv ρ (hR σ this 0) = Value.ref (ρ m2) from by rw [hm2]; rfl]
    obtain ⟨k4, h⟩ := h
    obtain ⟨v2, h⟩ := h
    refine x_iast (a := m2) hC k4 (by rw [r1.2]; exact v2) dX2_append_28 ?_
    refine xJ.nmH (fun σ2 e2 => ?_)
    have h := h σ2 e2
    have r2 : hR σ2 = hR σ ∧ hL σ2 = hL σ := by rw [e2]; exact ⟨r1.1, r1.2⟩
    refine x_aload_n hC 0 rfl dX2_append_29 ?_
    have k5 : hK σ2 this = 3 := by rw [e2]; exact k3
    refine x_getR (n0 := this) hC (ci := 2) (T := TX2) (N := 5) (C := RX2) 2 k5 rfl rfl (by decide) rfl q568 dX2_append_30 ?_
    rw [r2.1]
    refine x_aload_n hC 0 rfl dX2_append_33 ?_
    refine x_getI (n0 := this) hC (ci := 2) (T := TX2) (N := 5) (C := RX2) 4 k5 rfl rfl (by decide) rfl q572 dX2_append_34 ?_
    refine x_iload_n hC 3 rfl dX2_append_37 ?_
    obtain ⟨m3, hm3, h⟩ := h
    rw [show rv ρ (hR σ this 2) = Value.ref (ρ m3) from by rw [hm3]; rfl]
    obtain ⟨k6, h⟩ := h
    obtain ⟨v3, h⟩ := h
    obtain ⟨zh1, h⟩ := h
    refine x_zast (a := m3) hC zh1 k6 (by rw [r2.2]; exact v3) dX2_append_38 ?_
    refine xJ.nmH (fun σ3 e3 => ?_)
    have h := h σ3 e3
    have r3 : hR σ3 = hR σ ∧ hL σ3 = hL σ := by rw [e3]; exact ⟨r2.1, r2.2⟩
    refine x_aload_n hC 0 rfl dX2_append_39 ?_
    refine x_dup hC (by first | rfl | exact rv_cat) dX2_append_40 ?_
    have k7 : hK σ3 this = 3 := by rw [e3]; exact k5
    refine x_getI (n0 := this) hC (ci := 2) (T := TX2) (N := 5) (C := RX2) 4 k7 rfl rfl (by decide) rfl q572 dX2_append_41 ?_
    refine x_iconst (v := 1) hC dX2_append_44 (by decide) ?_
    refine x_iadd hC dX2_append_45 ?_
    refine x_putI (n0 := this) hC (ci := 2) (T := TX2) (N := 5) (C := RX2) 4 k7 rfl rfl (by decide) rfl q572 rfl (tyX2_ok 4 (by decide)) dX2_append_46 ?_
    refine xJ.nmH (fun σ4 e4 => ?_)
    have h := h σ4 e4
    have r4 : hR σ4 = hR σ ∧ hL σ4 = hL σ := by rw [e4]; exact ⟨r3.1, r3.2⟩
    exact x_vret hC hr dX2_append_49 (by decide) (by decide) ⟨rfl, rfl, h⟩
