/-! PlantServerModel.goesOn -/
theorem dX7_goesOn_0 : decode cX7_goesOn 0 = .ok (.aload_n 0, 1) := by decide +kernel
theorem dX7_goesOn_1 : decode cX7_goesOn 1 = .ok (.dup, 1) := by decide +kernel
theorem dX7_goesOn_2 : decode cX7_goesOn 2 = .ok (.getfield 122, 3) := by decide +kernel
theorem dX7_goesOn_5 : decode cX7_goesOn 5 = .ok (.iconst 1, 1) := by decide +kernel
theorem dX7_goesOn_6 : decode cX7_goesOn 6 = .ok (.iadd, 1) := by decide +kernel
theorem dX7_goesOn_7 : decode cX7_goesOn 7 = .ok (.putfield 122, 3) := by decide +kernel
theorem dX7_goesOn_10 : decode cX7_goesOn 10 = .ok (.iconst 0, 1) := by decide +kernel
theorem dX7_goesOn_11 : decode cX7_goesOn 11 = .ok (.istore_n 1, 1) := by decide +kernel
theorem dX7_goesOn_12 : decode cX7_goesOn 12 = .ok (.iload_n 1, 1) := by decide +kernel
theorem dX7_goesOn_13 : decode cX7_goesOn 13 = .ok (.aload_n 0, 1) := by decide +kernel
theorem dX7_goesOn_14 : decode cX7_goesOn 14 = .ok (.getfield 115, 3) := by decide +kernel
theorem dX7_goesOn_17 : decode cX7_goesOn 17 = .ok (.if_icmp .ge 49, 3) := by decide +kernel
theorem dX7_goesOn_20 : decode cX7_goesOn 20 = .ok (.aload_n 0, 1) := by decide +kernel
theorem dX7_goesOn_21 : decode cX7_goesOn 21 = .ok (.getfield 13, 3) := by decide +kernel
theorem dX7_goesOn_24 : decode cX7_goesOn 24 = .ok (.aload_n 0, 1) := by decide +kernel
theorem dX7_goesOn_25 : decode cX7_goesOn 25 = .ok (.getfield 47, 3) := by decide +kernel
theorem dX7_goesOn_28 : decode cX7_goesOn 28 = .ok (.iload_n 1, 1) := by decide +kernel
theorem dX7_goesOn_29 : decode cX7_goesOn 29 = .ok (.iaload, 1) := by decide +kernel
theorem dX7_goesOn_30 : decode cX7_goesOn 30 = .ok (.baload, 1) := by decide +kernel
theorem dX7_goesOn_31 : decode cX7_goesOn 31 = .ok (.ifCond .eq 29, 3) := by decide +kernel
theorem dX7_goesOn_34 : decode cX7_goesOn 34 = .ok (.aload_n 0, 1) := by decide +kernel
theorem dX7_goesOn_35 : decode cX7_goesOn 35 = .ok (.getfield 122, 3) := by decide +kernel
theorem dX7_goesOn_38 : decode cX7_goesOn 38 = .ok (.aload_n 0, 1) := by decide +kernel
theorem dX7_goesOn_39 : decode cX7_goesOn 39 = .ok (.getfield 53, 3) := by decide +kernel
theorem dX7_goesOn_42 : decode cX7_goesOn 42 = .ok (.iload_n 1, 1) := by decide +kernel
theorem dX7_goesOn_43 : decode cX7_goesOn 43 = .ok (.iaload, 1) := by decide +kernel
theorem dX7_goesOn_44 : decode cX7_goesOn 44 = .ok (.isub, 1) := by decide +kernel
theorem dX7_goesOn_45 : decode cX7_goesOn 45 = .ok (.aload_n 0, 1) := by decide +kernel
theorem dX7_goesOn_46 : decode cX7_goesOn 46 = .ok (.getfield 56, 3) := by decide +kernel
theorem dX7_goesOn_49 : decode cX7_goesOn 49 = .ok (.iload_n 1, 1) := by decide +kernel
theorem dX7_goesOn_50 : decode cX7_goesOn 50 = .ok (.iaload, 1) := by decide +kernel
theorem dX7_goesOn_51 : decode cX7_goesOn 51 = .ok (.irem, 1) := by decide +kernel
theorem dX7_goesOn_52 : decode cX7_goesOn 52 = .ok (.ifCond .ne 8, 3) := by decide +kernel
theorem dX7_goesOn_55 : decode cX7_goesOn 55 = .ok (.aload_n 0, 1) := by decide +kernel
theorem dX7_goesOn_56 : decode cX7_goesOn 56 = .ok (.iload_n 1, 1) := by decide +kernel
theorem dX7_goesOn_57 : decode cX7_goesOn 57 = .ok (.invokevirtual 128, 3) := by decide +kernel
theorem dX7_goesOn_60 : decode cX7_goesOn 60 = .ok (.iinc 1 1, 3) := by decide +kernel
theorem dX7_goesOn_63 : decode cX7_goesOn 63 = .ok (.goto (-51), 3) := by decide +kernel
theorem dX7_goesOn_66 : decode cX7_goesOn 66 = .ok (.iconst 0, 1) := by decide +kernel
theorem dX7_goesOn_67 : decode cX7_goesOn 67 = .ok (.istore_n 1, 1) := by decide +kernel
theorem dX7_goesOn_68 : decode cX7_goesOn 68 = .ok (.bipush 9, 2) := by decide +kernel
theorem dX7_goesOn_70 : decode cX7_goesOn 70 = .ok (.istore_n 2, 1) := by decide +kernel
theorem dX7_goesOn_71 : decode cX7_goesOn 71 = .ok (.iload_n 2, 1) := by decide +kernel
theorem dX7_goesOn_72 : decode cX7_goesOn 72 = .ok (.ifCond .lt 73, 3) := by decide +kernel
theorem dX7_goesOn_75 : decode cX7_goesOn 75 = .ok (.iconst 0, 1) := by decide +kernel
theorem dX7_goesOn_76 : decode cX7_goesOn 76 = .ok (.istore_n 3, 1) := by decide +kernel
theorem dX7_goesOn_77 : decode cX7_goesOn 77 = .ok (.iload_n 3, 1) := by decide +kernel
theorem dX7_goesOn_78 : decode cX7_goesOn 78 = .ok (.aload_n 0, 1) := by decide +kernel
theorem dX7_goesOn_79 : decode cX7_goesOn 79 = .ok (.getfield 112, 3) := by decide +kernel
theorem dX7_goesOn_82 : decode cX7_goesOn 82 = .ok (.if_icmp .ge 57, 3) := by decide +kernel
theorem dX7_goesOn_85 : decode cX7_goesOn 85 = .ok (.aload_n 0, 1) := by decide +kernel
theorem dX7_goesOn_86 : decode cX7_goesOn 86 = .ok (.getfield 13, 3) := by decide +kernel
theorem dX7_goesOn_89 : decode cX7_goesOn 89 = .ok (.iload_n 3, 1) := by decide +kernel
theorem dX7_goesOn_90 : decode cX7_goesOn 90 = .ok (.baload, 1) := by decide +kernel
theorem dX7_goesOn_91 : decode cX7_goesOn 91 = .ok (.ifCond .eq 42, 3) := by decide +kernel
theorem dX7_goesOn_94 : decode cX7_goesOn 94 = .ok (.aload_n 0, 1) := by decide +kernel
theorem dX7_goesOn_95 : decode cX7_goesOn 95 = .ok (.getfield 29, 3) := by decide +kernel
theorem dX7_goesOn_98 : decode cX7_goesOn 98 = .ok (.iload_n 3, 1) := by decide +kernel
theorem dX7_goesOn_99 : decode cX7_goesOn 99 = .ok (.iaload, 1) := by decide +kernel
theorem dX7_goesOn_100 : decode cX7_goesOn 100 = .ok (.iload_n 2, 1) := by decide +kernel
theorem dX7_goesOn_101 : decode cX7_goesOn 101 = .ok (.if_icmp .ne 32, 3) := by decide +kernel
theorem dX7_goesOn_104 : decode cX7_goesOn 104 = .ok (.aload_n 0, 1) := by decide +kernel
theorem dX7_goesOn_105 : decode cX7_goesOn 105 = .ok (.getfield 122, 3) := by decide +kernel
theorem dX7_goesOn_108 : decode cX7_goesOn 108 = .ok (.aload_n 0, 1) := by decide +kernel
theorem dX7_goesOn_109 : decode cX7_goesOn 109 = .ok (.getfield 17, 3) := by decide +kernel
theorem dX7_goesOn_112 : decode cX7_goesOn 112 = .ok (.iload_n 3, 1) := by decide +kernel
theorem dX7_goesOn_113 : decode cX7_goesOn 113 = .ok (.iaload, 1) := by decide +kernel
theorem dX7_goesOn_114 : decode cX7_goesOn 114 = .ok (.isub, 1) := by decide +kernel
theorem dX7_goesOn_115 : decode cX7_goesOn 115 = .ok (.aload_n 0, 1) := by decide +kernel
theorem dX7_goesOn_116 : decode cX7_goesOn 116 = .ok (.getfield 20, 3) := by decide +kernel
theorem dX7_goesOn_119 : decode cX7_goesOn 119 = .ok (.iload_n 3, 1) := by decide +kernel
theorem dX7_goesOn_120 : decode cX7_goesOn 120 = .ok (.iaload, 1) := by decide +kernel
theorem dX7_goesOn_121 : decode cX7_goesOn 121 = .ok (.irem, 1) := by decide +kernel
theorem dX7_goesOn_122 : decode cX7_goesOn 122 = .ok (.ifCond .ne 11, 3) := by decide +kernel
theorem dX7_goesOn_125 : decode cX7_goesOn 125 = .ok (.iload_n 1, 1) := by decide +kernel
theorem dX7_goesOn_126 : decode cX7_goesOn 126 = .ok (.aload_n 0, 1) := by decide +kernel
theorem dX7_goesOn_127 : decode cX7_goesOn 127 = .ok (.iload_n 3, 1) := by decide +kernel
theorem dX7_goesOn_128 : decode cX7_goesOn 128 = .ok (.invokevirtual 163, 3) := by decide +kernel
theorem dX7_goesOn_131 : decode cX7_goesOn 131 = .ok (.iadd, 1) := by decide +kernel
theorem dX7_goesOn_132 : decode cX7_goesOn 132 = .ok (.istore_n 1, 1) := by decide +kernel
theorem dX7_goesOn_133 : decode cX7_goesOn 133 = .ok (.iinc 3 1, 3) := by decide +kernel
theorem dX7_goesOn_136 : decode cX7_goesOn 136 = .ok (.goto (-59), 3) := by decide +kernel
theorem dX7_goesOn_139 : decode cX7_goesOn 139 = .ok (.iinc 2 (-1), 3) := by decide +kernel
theorem dX7_goesOn_142 : decode cX7_goesOn 142 = .ok (.goto (-71), 3) := by decide +kernel
theorem dX7_goesOn_145 : decode cX7_goesOn 145 = .ok (.iload_n 1, 1) := by decide +kernel
theorem dX7_goesOn_146 : decode cX7_goesOn 146 = .ok (.ireturn, 1) := by decide +kernel
abbrev rm7_goesOn : Room := { frames := 4, cells := 0, slots := 0, locals := 92 }
theorem hd7_goesOn : yX7_goesOn.cls ≠ "java/lang/invoke/MethodHandle" ∧ yX7_goesOn.cls ≠ "java/lang/invoke/VarHandle" ∧ (parseMethodDescriptor yX7_goesOn.desc).map (fun d => d.parameters.length) = some 0 := by decide +kernel
set_option maxHeartbeats 4000000 in
set_option maxRecDepth 20000 in
theorem ml7_goesOn_12 {G : xG} {X : xX} (hC : xC G X "PlantServerModel" cX7_goesOn 4 rm7_goesOn) (hr : xRt X (some .int)) (htab : xTab X []) (this : Nm) {ρ : Nm → Nat} (h0 : xR0 X ρ) (k n : Nat) (hk1 : k ≤ 0) (hk2 : n ≤ 0) (K : Int32 → PH → Prop) (Q : Int32 → PH → Prop) (Xp : String → PH → Prop) : ∀ (f12 : Nat) (x12_1 : Int32) (τ12 : PH), l7_goesOn_12 this K Q f12 x12_1 τ12 → (∀ (x12_1 : Int32) (τ12 : PH), K x12_1 τ12 → xJ G X (xT X (eI ρ Q) Xp G rm7_goesOn) 4 ρ τ12 k n 66 [(0, .ref (ρ this)), (1, .int x12_1)] []) → xJ G X (xT X (eI ρ Q) Xp G rm7_goesOn) 4 ρ τ12 k n 12 [(0, .ref (ρ this)), (1, .int x12_1)] [] := by
  intro f12
  induction f12 with
  | zero => intro x12_1 τ12 h hKK; unfold l7_goesOn_12 at h; exact h.elim
  | succ f12 ih =>
    intro x12_1 τ12 h hKK
    unfold l7_goesOn_12 at h
    refine x_iload_n hC 1 rfl dX7_goesOn_12 ?_
    refine x_aload_n hC 0 rfl dX7_goesOn_13 ?_
    obtain ⟨k2, h⟩ := h
    refine x_getI (n0 := this) hC (ci := 7) (T := TX7) (N := 36) (C := RX7) 15 k2 rfl rfl (by decide) rfl q704 dX7_goesOn_14 ?_
    refine x_icmp_ge (tgt := 66) hC dX7_goesOn_17 (by decide) (fun c1 => ?_) (fun c1 => ?_)
    · have h := h.1 c1
      exact hKK _ _ h
    · have h := h.2 c1
      refine x_aload_n hC 0 rfl dX7_goesOn_20 ?_
      refine x_getR (n0 := this) hC (ci := 7) (T := TX7) (N := 36) (C := RX7) 4 k2 rfl rfl (by decide) rfl q693 dX7_goesOn_21 ?_
      refine x_aload_n hC 0 rfl dX7_goesOn_24 ?_
      refine x_getR (n0 := this) hC (ci := 7) (T := TX7) (N := 36) (C := RX7) 16 k2 rfl rfl (by decide) rfl q705 dX7_goesOn_25 ?_
      refine x_iload_n hC 1 rfl dX7_goesOn_28 ?_
      obtain ⟨m1, hm1, h⟩ := h
      rw [show rv ρ (hR τ12 this 16) = Value.ref (ρ m1) from by rw [hm1]; rfl]
      obtain ⟨k3, h⟩ := h
      obtain ⟨v1, h⟩ := h
      refine x_iald (a := m1) hC k3 v1 dX7_goesOn_29 ?_
      obtain ⟨m2, hm2, h⟩ := h
      rw [show rv ρ (hR τ12 this 4) = Value.ref (ρ m2) from by rw [hm2]; rfl]
      obtain ⟨k4, h⟩ := h
      obtain ⟨v2, h⟩ := h
      refine x_zald (a := m2) hC k4 v2 dX7_goesOn_30 ?_
      refine x_if_eq (tgt := 60) hC dX7_goesOn_31 (by decide) (fun c2 => ?_) (fun c2 => ?_)
      · have h := h.1 c2
        refine x_iinc (v' := x12_1 + 1) (L' := [(1, .int (x12_1 + 1)), (0, .ref (ρ this))]) hC 1 rfl dX7_goesOn_60 rfl (by decide) (by first | rfl | simp (decide := true) [rv_cat, cat_ref, cat_int]) ?_
        refine x_goto (tgt := 12) hC dX7_goesOn_63 (by decide) ?_
        refine xJ.sub (L' := [(0, .ref (ρ this)), (1, .int (x12_1 + 1))]) [1, 0] rfl ?_
        exact ih _ _ h hKK
      · have h := h.2 c2
        refine x_aload_n hC 0 rfl dX7_goesOn_34 ?_
        refine x_getI (n0 := this) hC (ci := 7) (T := TX7) (N := 36) (C := RX7) 1 k2 rfl rfl (by decide) rfl q690 dX7_goesOn_35 ?_
        refine x_aload_n hC 0 rfl dX7_goesOn_38 ?_
        refine x_getR (n0 := this) hC (ci := 7) (T := TX7) (N := 36) (C := RX7) 18 k2 rfl rfl (by decide) rfl q707 dX7_goesOn_39 ?_
        refine x_iload_n hC 1 rfl dX7_goesOn_42 ?_
        obtain ⟨m3, hm3, h⟩ := h
        rw [show rv ρ (hR τ12 this 18) = Value.ref (ρ m3) from by rw [hm3]; rfl]
        obtain ⟨k5, h⟩ := h
        obtain ⟨v3, h⟩ := h
        refine x_iald (a := m3) hC k5 v3 dX7_goesOn_43 ?_
        refine x_isub hC dX7_goesOn_44 ?_
        refine x_aload_n hC 0 rfl dX7_goesOn_45 ?_
        refine x_getR (n0 := this) hC (ci := 7) (T := TX7) (N := 36) (C := RX7) 19 k2 rfl rfl (by decide) rfl q708 dX7_goesOn_46 ?_
        refine x_iload_n hC 1 rfl dX7_goesOn_49 ?_
        obtain ⟨m4, hm4, h⟩ := h
        rw [show rv ρ (hR τ12 this 19) = Value.ref (ρ m4) from by rw [hm4]; rfl]
        obtain ⟨k6, h⟩ := h
        obtain ⟨v4, h⟩ := h
        refine x_iald (a := m4) hC k6 v4 dX7_goesOn_50 ?_
        obtain ⟨nz1, h⟩ := h
        refine x_irem hC nz1 dX7_goesOn_51 ?_
        refine x_if_ne (tgt := 60) hC dX7_goesOn_52 (by decide) (fun c3 => ?_) (fun c3 => ?_)
        · have h := h.1 c3
          refine x_iinc (v' := x12_1 + 1) (L' := [(1, .int (x12_1 + 1)), (0, .ref (ρ this))]) hC 1 rfl dX7_goesOn_60 rfl (by decide) (by first | rfl | simp (decide := true) [rv_cat, cat_ref, cat_int]) ?_
          refine x_goto (tgt := 12) hC dX7_goesOn_63 (by decide) ?_
          refine xJ.sub (L' := [(0, .ref (ρ this)), (1, .int (x12_1 + 1))]) [1, 0] rfl ?_
          exact ih _ _ h hKK
        · have h := h.2 c3
          refine x_aload_n hC 0 rfl dX7_goesOn_55 ?_
          refine x_iload_n hC 1 rfl dX7_goesOn_56 ?_
          refine x_callV (n0 := this) (as := [.int x12_1]) (rest := []) hC (ci := 7) (r := (RX7, TX7, 36)) k2 rfl (fun l hl => m7_samples l hl G ρ this x12_1 τ12 _ h) q828 q830 s15 q3 q831 ⟨rfl, hd7_samples⟩ (by decide) ⟨(show _ + 0 ≤ 0 by omega), (show _ + 0 ≤ 0 by omega)⟩ (by first | exact Nat.le_of_ble_eq_true rfl | (simp [rv_cat]; done) | (simp (decide := true) [rv_cat, cat_ref, cat_int]; done)) rfl dX7_goesOn_57 (fun E σ9 hx => False.elim hx) (fun v5 σ2 ρ1 hp1 hag1 => ?_)
          obtain ⟨e9, e8, h⟩ := hp1
          rw [e8, e9]
          refine xJ.nrm (k' := k + 0) (n' := n + 0) (pc' := 60) (st' := []) rfl rfl rfl rfl ?_
          refine x_iinc (v' := x12_1 + 1) (L' := [(1, .int (x12_1 + 1)), (0, .ref (ρ this))]) hC 1 rfl dX7_goesOn_60 rfl (by decide) (by first | rfl | simp (decide := true) [rv_cat, cat_ref, cat_int]) ?_
          refine x_goto (tgt := 12) hC dX7_goesOn_63 (by decide) ?_
          refine xJ.sub (L' := [(0, .ref (ρ this)), (1, .int (x12_1 + 1))]) [1, 0] rfl ?_
          exact ih _ _ h hKK
set_option maxHeartbeats 4000000 in
set_option maxRecDepth 20000 in
theorem ml7_goesOn_77 {G : xG} {X : xX} (hC : xC G X "PlantServerModel" cX7_goesOn 4 rm7_goesOn) (hr : xRt X (some .int)) (htab : xTab X []) (this : Nm) (x71_1 : Int32) (x71_2 : Int32) {ρ : Nm → Nat} (h0 : xR0 X ρ) (k n : Nat) (hk1 : k ≤ 0) (hk2 : n ≤ 0) (K : Int32 → Int32 → PH → Prop) (Q : Int32 → PH → Prop) (Xp : String → PH → Prop) : ∀ (f77 : Nat) (x77_1 : Int32) (x77_3 : Int32) (τ77 : PH), l7_goesOn_77 this x71_1 x71_2 K Q f77 x77_1 x77_3 τ77 → (∀ (x77_1 : Int32) (x77_3 : Int32) (τ77 : PH), K x77_1 x77_3 τ77 → xJ G X (xT X (eI ρ Q) Xp G rm7_goesOn) 4 ρ τ77 k n 139 [(0, .ref (ρ this)), (1, .int x77_1), (2, .int x71_2), (3, .int x77_3)] []) → xJ G X (xT X (eI ρ Q) Xp G rm7_goesOn) 4 ρ τ77 k n 77 [(0, .ref (ρ this)), (1, .int x77_1), (2, .int x71_2), (3, .int x77_3)] [] := by
  intro f77
  induction f77 with
  | zero => intro x77_1 x77_3 τ77 h hKK; unfold l7_goesOn_77 at h; exact h.elim
  | succ f77 ih =>
    intro x77_1 x77_3 τ77 h hKK
    unfold l7_goesOn_77 at h
    refine x_iload_n hC 3 rfl dX7_goesOn_77 ?_
    refine x_aload_n hC 0 rfl dX7_goesOn_78 ?_
    obtain ⟨k7, h⟩ := h
    refine x_getI (n0 := this) hC (ci := 7) (T := TX7) (N := 36) (C := RX7) 3 k7 rfl rfl (by decide) rfl q692 dX7_goesOn_79 ?_
    refine x_icmp_ge (tgt := 139) hC dX7_goesOn_82 (by decide) (fun c5 => ?_) (fun c5 => ?_)
    · have h := h.1 c5
      exact hKK _ _ _ h
    · have h := h.2 c5
      refine x_aload_n hC 0 rfl dX7_goesOn_85 ?_
      refine x_getR (n0 := this) hC (ci := 7) (T := TX7) (N := 36) (C := RX7) 4 k7 rfl rfl (by decide) rfl q693 dX7_goesOn_86 ?_
      refine x_iload_n hC 3 rfl dX7_goesOn_89 ?_
      obtain ⟨m5, hm5, h⟩ := h
      rw [show rv ρ (hR τ77 this 4) = Value.ref (ρ m5) from by rw [hm5]; rfl]
      obtain ⟨k8, h⟩ := h
      obtain ⟨v6, h⟩ := h
      refine x_zald (a := m5) hC k8 v6 dX7_goesOn_90 ?_
      refine x_if_eq (tgt := 133) hC dX7_goesOn_91 (by decide) (fun c6 => ?_) (fun c6 => ?_)
      · have h := h.1 c6
        refine x_iinc (v' := x77_3 + 1) (L' := [(3, .int (x77_3 + 1)), (0, .ref (ρ this)), (1, .int x77_1), (2, .int x71_2)]) hC 3 rfl dX7_goesOn_133 rfl (by decide) (by first | rfl | simp (decide := true) [rv_cat, cat_ref, cat_int]) ?_
        refine x_goto (tgt := 77) hC dX7_goesOn_136 (by decide) ?_
        refine xJ.sub (L' := [(0, .ref (ρ this)), (1, .int x77_1), (2, .int x71_2), (3, .int (x77_3 + 1))]) [1, 2, 3, 0] rfl ?_
        exact ih _ _ _ h hKK
      · have h := h.2 c6
        refine x_aload_n hC 0 rfl dX7_goesOn_94 ?_
        refine x_getR (n0 := this) hC (ci := 7) (T := TX7) (N := 36) (C := RX7) 9 k7 rfl rfl (by decide) rfl q698 dX7_goesOn_95 ?_
        refine x_iload_n hC 3 rfl dX7_goesOn_98 ?_
        obtain ⟨m6, hm6, h⟩ := h
        rw [show rv ρ (hR τ77 this 9) = Value.ref (ρ m6) from by rw [hm6]; rfl]
        obtain ⟨k9, h⟩ := h
        obtain ⟨v7, h⟩ := h
        refine x_iald (a := m6) hC k9 v7 dX7_goesOn_99 ?_
        refine x_iload_n hC 2 rfl dX7_goesOn_100 ?_
        refine x_icmp_ne (tgt := 133) hC dX7_goesOn_101 (by decide) (fun c7 => ?_) (fun c7 => ?_)
        · have h := h.1 c7
          refine x_iinc (v' := x77_3 + 1) (L' := [(3, .int (x77_3 + 1)), (0, .ref (ρ this)), (1, .int x77_1), (2, .int x71_2)]) hC 3 rfl dX7_goesOn_133 rfl (by decide) (by first | rfl | simp (decide := true) [rv_cat, cat_ref, cat_int]) ?_
          refine x_goto (tgt := 77) hC dX7_goesOn_136 (by decide) ?_
          refine xJ.sub (L' := [(0, .ref (ρ this)), (1, .int x77_1), (2, .int x71_2), (3, .int (x77_3 + 1))]) [1, 2, 3, 0] rfl ?_
          exact ih _ _ _ h hKK
        · have h := h.2 c7
          refine x_aload_n hC 0 rfl dX7_goesOn_104 ?_
          refine x_getI (n0 := this) hC (ci := 7) (T := TX7) (N := 36) (C := RX7) 1 k7 rfl rfl (by decide) rfl q690 dX7_goesOn_105 ?_
          refine x_aload_n hC 0 rfl dX7_goesOn_108 ?_
          refine x_getR (n0 := this) hC (ci := 7) (T := TX7) (N := 36) (C := RX7) 5 k7 rfl rfl (by decide) rfl q694 dX7_goesOn_109 ?_
          refine x_iload_n hC 3 rfl dX7_goesOn_112 ?_
          obtain ⟨m7, hm7, h⟩ := h
          rw [show rv ρ (hR τ77 this 5) = Value.ref (ρ m7) from by rw [hm7]; rfl]
          obtain ⟨k10, h⟩ := h
          obtain ⟨v8, h⟩ := h
          refine x_iald (a := m7) hC k10 v8 dX7_goesOn_113 ?_
          refine x_isub hC dX7_goesOn_114 ?_
          refine x_aload_n hC 0 rfl dX7_goesOn_115 ?_
          refine x_getR (n0 := this) hC (ci := 7) (T := TX7) (N := 36) (C := RX7) 6 k7 rfl rfl (by decide) rfl q695 dX7_goesOn_116 ?_
          refine x_iload_n hC 3 rfl dX7_goesOn_119 ?_
          obtain ⟨m8, hm8, h⟩ := h
          rw [show rv ρ (hR τ77 this 6) = Value.ref (ρ m8) from by rw [hm8]; rfl]
          obtain ⟨k11, h⟩ := h
          obtain ⟨v9, h⟩ := h
          refine x_iald (a := m8) hC k11 v9 dX7_goesOn_120 ?_
          obtain ⟨nz2, h⟩ := h
          refine x_irem hC nz2 dX7_goesOn_121 ?_
          refine x_if_ne (tgt := 133) hC dX7_goesOn_122 (by decide) (fun c8 => ?_) (fun c8 => ?_)
          · have h := h.1 c8
            refine x_iinc (v' := x77_3 + 1) (L' := [(3, .int (x77_3 + 1)), (0, .ref (ρ this)), (1, .int x77_1), (2, .int x71_2)]) hC 3 rfl dX7_goesOn_133 rfl (by decide) (by first | rfl | simp (decide := true) [rv_cat, cat_ref, cat_int]) ?_
            refine x_goto (tgt := 77) hC dX7_goesOn_136 (by decide) ?_
            refine xJ.sub (L' := [(0, .ref (ρ this)), (1, .int x77_1), (2, .int x71_2), (3, .int (x77_3 + 1))]) [1, 2, 3, 0] rfl ?_
            exact ih _ _ _ h hKK
          · have h := h.2 c8
            refine x_iload_n hC 1 rfl dX7_goesOn_125 ?_
            refine x_aload_n hC 0 rfl dX7_goesOn_126 ?_
            refine x_iload_n hC 3 rfl dX7_goesOn_127 ?_
            refine x_callV (n0 := this) (as := [.int x77_3]) (rest := [.int x77_1]) hC (ci := 7) (r := (RX7, TX7, 36)) k7 rfl (fun l hl => m7_publishes l hl G ρ this x77_3 τ77 _ h) q864 q866 s20 q3 q867 ⟨rfl, hd7_publishes⟩ (by decide) ⟨(show _ + 0 ≤ 0 by omega), (show _ + 0 ≤ 0 by omega)⟩ (by first | exact Nat.le_of_ble_eq_true rfl | (simp [rv_cat]; done) | (simp (decide := true) [rv_cat, cat_ref, cat_int]; done)) rfl dX7_goesOn_128 (fun E σ9 hx => False.elim hx) (fun v10 σ3 ρ2 hp2 hag2 => ?_)
            obtain ⟨e9, r2, e8, h⟩ := hp2
            rw [e8, e9]
            refine xJ.nrm (k' := k + 0) (n' := n + 0) (pc' := 131) (st' := [.int r2, .int x77_1]) rfl rfl rfl rfl ?_
            refine x_iadd hC dX7_goesOn_131 ?_
            refine x_istore_n (L' := [(1, .int (x77_1 + r2)), (0, .ref (ρ this)), (2, .int x71_2), (3, .int x77_3)]) hC dX7_goesOn_132 (by decide) (by first | rfl | simp (decide := true) [rv_cat, cat_ref, cat_int]) ?_
            refine x_iinc (v' := x77_3 + 1) (L' := [(3, .int (x77_3 + 1)), (1, .int (x77_1 + r2)), (0, .ref (ρ this)), (2, .int x71_2)]) hC 3 rfl dX7_goesOn_133 rfl (by decide) (by first | rfl | simp (decide := true) [rv_cat, cat_ref, cat_int]) ?_
            refine x_goto (tgt := 77) hC dX7_goesOn_136 (by decide) ?_
            refine xJ.sub (L' := [(0, .ref (ρ this)), (1, .int (x77_1 + r2)), (2, .int x71_2), (3, .int (x77_3 + 1))]) [2, 1, 3, 0] rfl ?_
            exact ih _ _ _ h hKK
set_option maxHeartbeats 4000000 in
set_option maxRecDepth 20000 in
theorem ml7_goesOn_71 {G : xG} {X : xX} (hC : xC G X "PlantServerModel" cX7_goesOn 4 rm7_goesOn) (hr : xRt X (some .int)) (htab : xTab X []) (this : Nm) {ρ : Nm → Nat} (h0 : xR0 X ρ) (k n : Nat) (hk1 : k ≤ 0) (hk2 : n ≤ 0) (K : Int32 → Int32 → PH → Prop) (Q : Int32 → PH → Prop) (Xp : String → PH → Prop) : ∀ (f71 : Nat) (x71_1 : Int32) (x71_2 : Int32) (τ71 : PH), l7_goesOn_71 this K Q f71 x71_1 x71_2 τ71 → (∀ (x71_1 : Int32) (x71_2 : Int32) (τ71 : PH), K x71_1 x71_2 τ71 → xJ G X (xT X (eI ρ Q) Xp G rm7_goesOn) 4 ρ τ71 k n 145 [(0, .ref (ρ this)), (1, .int x71_1), (2, .int x71_2)] []) → xJ G X (xT X (eI ρ Q) Xp G rm7_goesOn) 4 ρ τ71 k n 71 [(0, .ref (ρ this)), (1, .int x71_1), (2, .int x71_2)] [] := by
  intro f71
  induction f71 with
  | zero => intro x71_1 x71_2 τ71 h hKK; unfold l7_goesOn_71 at h; exact h.elim
  | succ f71 ih =>
    intro x71_1 x71_2 τ71 h hKK
    unfold l7_goesOn_71 at h
    refine x_iload_n hC 2 rfl dX7_goesOn_71 ?_
    refine x_if_lt (tgt := 145) hC dX7_goesOn_72 (by decide) (fun c4 => ?_) (fun c4 => ?_)
    · have h := h.1 c4
      exact hKK _ _ _ h
    · have h := h.2 c4
      refine x_iconst (v := 0) hC dX7_goesOn_75 (by decide) ?_
      refine x_istore_n (L' := [(3, .int 0), (0, .ref (ρ this)), (1, .int x71_1), (2, .int x71_2)]) hC dX7_goesOn_76 (by decide) (by first | rfl | simp (decide := true) [rv_cat, cat_ref, cat_int]) ?_
      refine xJ.sub (L' := [(0, .ref (ρ this)), (1, .int x71_1), (2, .int x71_2), (3, .int 0)]) [1, 2, 3, 0] rfl ?_
      obtain ⟨f77, h⟩ := h
      refine ml7_goesOn_77 hC hr htab this x71_1 x71_2 h0 (k + 0) (n + 0) (show _ ≤ 0 by omega) (show _ ≤ 0 by omega) _ Q _ f77 _ _ _ h (fun y2 y3 τ2 h => ?_)
      refine x_iinc (v' := x71_2 + (-1)) (L' := [(2, .int (x71_2 + (-1))), (0, .ref (ρ this)), (1, .int y2), (3, .int y3)]) hC 2 rfl dX7_goesOn_139 rfl (by decide) (by first | rfl | simp (decide := true) [rv_cat, cat_ref, cat_int]) ?_
      refine x_goto (tgt := 71) hC dX7_goesOn_142 (by decide) ?_
      refine xJ.sub (L' := [(0, .ref (ρ this)), (1, .int y2), (2, .int (x71_2 + (-1)))]) [1, 2, 0] rfl ?_
      exact ih _ _ _ h hKK
set_option maxHeartbeats 4000000 in
set_option maxRecDepth 20000 in
theorem m7_goesOn (l : Launch) (hl : l.stackTraces = false) (G : xG) (ρ : Nm → Nat) (this : Nm) (σ : PH) (Q : Int32 → PH → Prop) (h : w7_goesOn this σ Q) : xMet l yX7_goesOn (.code yX7_goesOn cX7_goesOn 4 (some .int)) rm7_goesOn G ρ σ [.ref (ρ this)] (eI ρ Q) xNo := by
  refine xMet.of hl (by decide +kernel) (Nat.le_of_ble_eq_true rfl) (fun X hC hr hn htab h0 => ?_)
  have hC : xC G X "PlantServerModel" cX7_goesOn 4 rm7_goesOn := hC
  unfold w7_goesOn at h
  refine xJ.loc (L' := [(0, .ref (ρ this))]) rfl ?_
  refine x_aload_n hC 0 rfl dX7_goesOn_0 ?_
  refine x_dup hC (by first | rfl | exact rv_cat) dX7_goesOn_1 ?_
  obtain ⟨k1, h⟩ := h
  refine x_getI (n0 := this) hC (ci := 7) (T := TX7) (N := 36) (C := RX7) 1 k1 rfl rfl (by decide) rfl q690 dX7_goesOn_2 ?_
  refine x_iconst (v := 1) hC dX7_goesOn_5 (by decide) ?_
  refine x_iadd hC dX7_goesOn_6 ?_
  refine x_putI (n0 := this) hC (ci := 7) (T := TX7) (N := 36) (C := RX7) 1 k1 rfl rfl (by decide) rfl q690 rfl (tyX7_ok 1 (by decide)) dX7_goesOn_7 ?_
  refine xJ.nmH (fun σ1 e1 => ?_)
  have h := h σ1 e1
  have r1 : hR σ1 = hR σ ∧ hL σ1 = hL σ := by rw [e1]; exact ⟨rfl, rfl⟩
  refine x_iconst (v := 0) hC dX7_goesOn_10 (by decide) ?_
  refine x_istore_n (L' := [(1, .int 0), (0, .ref (ρ this))]) hC dX7_goesOn_11 (by decide) (by first | rfl | simp (decide := true) [rv_cat, cat_ref, cat_int]) ?_
  refine xJ.sub (L' := [(0, .ref (ρ this)), (1, .int 0)]) [1, 0] rfl ?_
  obtain ⟨f12, h⟩ := h
  refine ml7_goesOn_12 hC hr htab this h0 (0) (0) (by decide) (by decide) _ Q _ f12 _ _ h (fun y1 τ1 h => ?_)
  refine x_iconst (v := 0) hC dX7_goesOn_66 (by decide) ?_
  refine x_istore_n (L' := [(1, .int 0), (0, .ref (ρ this))]) hC dX7_goesOn_67 (by decide) (by first | rfl | simp (decide := true) [rv_cat, cat_ref, cat_int]) ?_
  refine x_bipush (v := 9) hC dX7_goesOn_68 (by decide) ?_
  refine x_istore_n (L' := [(2, .int 9), (1, .int 0), (0, .ref (ρ this))]) hC dX7_goesOn_70 (by decide) (by first | rfl | simp (decide := true) [rv_cat, cat_ref, cat_int]) ?_
  refine xJ.sub (L' := [(0, .ref (ρ this)), (1, .int 0), (2, .int 9)]) [2, 1, 0] rfl ?_
  obtain ⟨f71, h⟩ := h
  refine ml7_goesOn_71 hC hr htab this h0 (0) (0) (by decide) (by decide) _ Q _ f71 _ _ _ h (fun y4 y5 τ3 h => ?_)
  refine x_iload_n hC 1 rfl dX7_goesOn_145 ?_
  exact x_iret hC hr dX7_goesOn_146 (by decide) (by decide) ⟨rfl, _, rfl, h⟩
/-! PlantServerModel.pass -/
theorem dX7_pass_0 : decode cX7_pass 0 = .ok (.aload_n 0, 1) := by decide +kernel
theorem dX7_pass_1 : decode cX7_pass 1 = .ok (.iload_n 1, 1) := by decide +kernel
theorem dX7_pass_2 : decode cX7_pass 2 = .ok (.iconst 1, 1) := by decide +kernel
theorem dX7_pass_3 : decode cX7_pass 3 = .ok (.bipush 50, 2) := by decide +kernel
theorem dX7_pass_5 : decode cX7_pass 5 = .ok (.invokestatic 108, 3) := by decide +kernel
theorem dX7_pass_8 : decode cX7_pass 8 = .ok (.ifCond .ne 7, 3) := by decide +kernel
theorem dX7_pass_11 : decode cX7_pass 11 = .ok (.iconst 1, 1) := by decide +kernel
theorem dX7_pass_12 : decode cX7_pass 12 = .ok (.goto 20, 3) := by decide +kernel
theorem dX7_pass_15 : decode cX7_pass 15 = .ok (.aload_n 0, 1) := by decide +kernel
theorem dX7_pass_16 : decode cX7_pass 16 = .ok (.getfield 122, 3) := by decide +kernel
theorem dX7_pass_19 : decode cX7_pass 19 = .ok (.iload_n 1, 1) := by decide +kernel
theorem dX7_pass_20 : decode cX7_pass 20 = .ok (.iadd, 1) := by decide +kernel
theorem dX7_pass_21 : decode cX7_pass 21 = .ok (.sipush 5000, 3) := by decide +kernel
theorem dX7_pass_24 : decode cX7_pass 24 = .ok (.if_icmp .le 7, 3) := by decide +kernel
theorem dX7_pass_27 : decode cX7_pass 27 = .ok (.iconst 2, 1) := by decide +kernel
theorem dX7_pass_28 : decode cX7_pass 28 = .ok (.goto 4, 3) := by decide +kernel
theorem dX7_pass_31 : decode cX7_pass 31 = .ok (.iconst 0, 1) := by decide +kernel
theorem dX7_pass_32 : decode cX7_pass 32 = .ok (.putfield 104, 3) := by decide +kernel
theorem dX7_pass_35 : decode cX7_pass 35 = .ok (.iconst 0, 1) := by decide +kernel
theorem dX7_pass_36 : decode cX7_pass 36 = .ok (.istore_n 2, 1) := by decide +kernel
theorem dX7_pass_37 : decode cX7_pass 37 = .ok (.iconst 0, 1) := by decide +kernel
theorem dX7_pass_38 : decode cX7_pass 38 = .ok (.istore_n 3, 1) := by decide +kernel
theorem dX7_pass_39 : decode cX7_pass 39 = .ok (.iload_n 3, 1) := by decide +kernel
theorem dX7_pass_40 : decode cX7_pass 40 = .ok (.iload_n 1, 1) := by decide +kernel
theorem dX7_pass_41 : decode cX7_pass 41 = .ok (.if_icmp .ge 23, 3) := by decide +kernel
theorem dX7_pass_44 : decode cX7_pass 44 = .ok (.aload_n 0, 1) := by decide +kernel
theorem dX7_pass_45 : decode cX7_pass 45 = .ok (.getfield 104, 3) := by decide +kernel
theorem dX7_pass_48 : decode cX7_pass 48 = .ok (.ifCond .ne 16, 3) := by decide +kernel
theorem dX7_pass_51 : decode cX7_pass 51 = .ok (.iload_n 2, 1) := by decide +kernel
theorem dX7_pass_52 : decode cX7_pass 52 = .ok (.aload_n 0, 1) := by decide +kernel
theorem dX7_pass_53 : decode cX7_pass 53 = .ok (.invokevirtual 166, 3) := by decide +kernel
theorem dX7_pass_56 : decode cX7_pass 56 = .ok (.iadd, 1) := by decide +kernel
theorem dX7_pass_57 : decode cX7_pass 57 = .ok (.istore_n 2, 1) := by decide +kernel
theorem dX7_pass_58 : decode cX7_pass 58 = .ok (.iinc 3 1, 3) := by decide +kernel
theorem dX7_pass_61 : decode cX7_pass 61 = .ok (.goto (-22), 3) := by decide +kernel
theorem dX7_pass_64 : decode cX7_pass 64 = .ok (.iload_n 2, 1) := by decide +kernel
theorem dX7_pass_65 : decode cX7_pass 65 = .ok (.ireturn, 1) := by decide +kernel
abbrev rm7_pass : Room := { frames := 5, cells := 0, slots := 0, locals := 115 }
theorem hd7_pass : yX7_pass.cls ≠ "java/lang/invoke/MethodHandle" ∧ yX7_pass.cls ≠ "java/lang/invoke/VarHandle" ∧ (parseMethodDescriptor yX7_pass.desc).map (fun d => d.parameters.length) = some 1 := by decide +kernel
set_option maxHeartbeats 4000000 in
set_option maxRecDepth 20000 in
theorem ml7_pass_39 {G : xG} {X : xX} (hC : xC G X "PlantServerModel" cX7_pass 4 rm7_pass) (hr : xRt X (some .int)) (htab : xTab X []) (this : Nm) (p1 : Int32) {ρ : Nm → Nat} (h0 : xR0 X ρ) (k n : Nat) (hk1 : k ≤ 0) (hk2 : n ≤ 0) (K : Int32 → Int32 → PH → Prop) (Q : Int32 → PH → Prop) (Xp : String → PH → Prop) : ∀ (f39 : Nat) (x39_2 : Int32) (x39_3 : Int32) (τ39 : PH), l7_pass_39 this p1 K Q f39 x39_2 x39_3 τ39 → (∀ (x39_2 : Int32) (x39_3 : Int32) (τ39 : PH), K x39_2 x39_3 τ39 → xJ G X (xT X (eI ρ Q) Xp G rm7_pass) 4 ρ τ39 k n 64 [(0, .ref (ρ this)), (1, .int p1), (2, .int x39_2), (3, .int x39_3)] []) → xJ G X (xT X (eI ρ Q) Xp G rm7_pass) 4 ρ τ39 k n 39 [(0, .ref (ρ this)), (1, .int p1), (2, .int x39_2), (3, .int x39_3)] [] := by
  intro f39
  induction f39 with
  | zero => intro x39_2 x39_3 τ39 h hKK; unfold l7_pass_39 at h; exact h.elim
  | succ f39 ih =>
    intro x39_2 x39_3 τ39 h hKK
    unfold l7_pass_39 at h
    refine x_iload_n hC 3 rfl dX7_pass_39 ?_
    refine x_iload_n hC 1 rfl dX7_pass_40 ?_
    refine x_icmp_ge (tgt := 64) hC dX7_pass_41 (by decide) (fun c3 => ?_) (fun c3 => ?_)
    · have h := h.1 c3
      exact hKK _ _ _ h
    · have h := h.2 c3
      refine x_aload_n hC 0 rfl dX7_pass_44 ?_
      obtain ⟨k2, h⟩ := h
      refine x_getI (n0 := this) hC (ci := 7) (T := TX7) (N := 36) (C := RX7) 0 k2 rfl rfl (by decide) rfl q689 dX7_pass_45 ?_
      refine x_if_ne (tgt := 64) hC dX7_pass_48 (by decide) (fun c4 => ?_) (fun c4 => ?_)
      · have h := h.1 c4
        exact hKK _ _ _ h
      · have h := h.2 c4
        refine x_iload_n hC 2 rfl dX7_pass_51 ?_
        refine x_aload_n hC 0 rfl dX7_pass_52 ?_
        refine x_callV (n0 := this) (as := []) (rest := [.int x39_2]) hC (ci := 7) (r := (RX7, TX7, 36)) k2 rfl (fun l hl => m7_goesOn l hl G ρ this τ39 _ h) q860 q862 s19 q3 q863 ⟨rfl, hd7_goesOn⟩ (by decide) ⟨(show _ + 0 ≤ 0 by omega), (show _ + 0 ≤ 0 by omega)⟩ (by first | exact Nat.le_of_ble_eq_true rfl | (simp [rv_cat]; done) | (simp (decide := true) [rv_cat, cat_ref, cat_int]; done)) rfl dX7_pass_53 (fun E σ9 hx => False.elim hx) (fun v2 σ3 ρ2 hp2 hag2 => ?_)
        obtain ⟨e9, r3, e8, h⟩ := hp2
        rw [e8, e9]
        refine xJ.nrm (k' := k + 0) (n' := n + 0) (pc' := 56) (st' := [.int r3, .int x39_2]) rfl rfl rfl rfl ?_
        refine x_iadd hC dX7_pass_56 ?_
        refine x_istore_n (L' := [(2, .int (x39_2 + r3)), (0, .ref (ρ this)), (1, .int p1), (3, .int x39_3)]) hC dX7_pass_57 (by decide) (by first | rfl | simp (decide := true) [rv_cat, cat_ref, cat_int]) ?_
        refine x_iinc (v' := x39_3 + 1) (L' := [(3, .int (x39_3 + 1)), (2, .int (x39_2 + r3)), (0, .ref (ρ this)), (1, .int p1)]) hC 3 rfl dX7_pass_58 rfl (by decide) (by first | rfl | simp (decide := true) [rv_cat, cat_ref, cat_int]) ?_
        refine x_goto (tgt := 39) hC dX7_pass_61 (by decide) ?_
        refine xJ.sub (L' := [(0, .ref (ρ this)), (1, .int p1), (2, .int (x39_2 + r3)), (3, .int (x39_3 + 1))]) [2, 3, 1, 0] rfl ?_
        exact ih _ _ _ h hKK
set_option maxHeartbeats 4000000 in
set_option maxRecDepth 20000 in
theorem m7_pass (l : Launch) (hl : l.stackTraces = false) (G : xG) (ρ : Nm → Nat) (this : Nm) (p1 : Int32) (σ : PH) (Q : Int32 → PH → Prop) (h : w7_pass this p1 σ Q) : xMet l yX7_pass (.code yX7_pass cX7_pass 4 (some .int)) rm7_pass G ρ σ [.ref (ρ this), .int p1] (eI ρ Q) xNo := by
  refine xMet.of hl (by decide +kernel) (Nat.le_of_ble_eq_true rfl) (fun X hC hr hn htab h0 => ?_)
  have hC : xC G X "PlantServerModel" cX7_pass 4 rm7_pass := hC
  unfold w7_pass at h
  refine xJ.loc (L' := [(0, .ref (ρ this)), (1, .int p1)]) rfl ?_
  refine x_aload_n hC 0 rfl dX7_pass_0 ?_
  refine x_iload_n hC 1 rfl dX7_pass_1 ?_
  refine x_iconst (v := 1) hC dX7_pass_2 (by decide) ?_
  refine x_bipush (v := 50) hC dX7_pass_3 (by decide) ?_
  refine x_callS (as := [.int p1, .int 1, .int 50]) (rest := [.ref (ρ this)]) hC (fun l hl => m7_in l hl G ρ p1 1 50 σ _ h) q809 q810 q3 q811 hd7_in (by decide) ⟨(by decide), (by decide)⟩ (by first | exact Nat.le_of_ble_eq_true rfl | (simp [rv_cat]; done) | (simp (decide := true) [rv_cat, cat_ref, cat_int]; done)) rfl dX7_pass_5 (fun E σ9 hx => False.elim hx) (fun v1 σ1 ρ1 hp1 hag1 => ?_)
  obtain ⟨e9, r1, e8, h⟩ := hp1
  rw [e8, e9]
  refine xJ.nrm (k' := 0) (n' := 0) (pc' := 8) (st' := [.int r1, .ref (ρ this)]) rfl rfl rfl rfl ?_
  refine x_if_ne (tgt := 15) hC dX7_pass_8 (by decide) (fun c1 => ?_) (fun c1 => ?_)
  · have h := h.1 c1
    refine x_aload_n hC 0 rfl dX7_pass_15 ?_
    obtain ⟨k1, h⟩ := h
    refine x_getI (n0 := this) hC (ci := 7) (T := TX7) (N := 36) (C := RX7) 1 k1 rfl rfl (by decide) rfl q690 dX7_pass_16 ?_
    refine x_iload_n hC 1 rfl dX7_pass_19 ?_
    refine x_iadd hC dX7_pass_20 ?_
    refine x_sipush (v := 5000) hC dX7_pass_21 (by decide) ?_
    refine x_icmp_le (tgt := 31) hC dX7_pass_24 (by decide) (fun c2 => ?_) (fun c2 => ?_)
    · have h := h.1 c2
      refine x_iconst (v := 0) hC dX7_pass_31 (by decide) ?_
      refine x_putI (n0 := this) hC (ci := 7) (T := TX7) (N := 36) (C := RX7) 0 k1 rfl rfl (by decide) rfl q689 rfl (tyX7_ok 0 (by decide)) dX7_pass_32 ?_
      refine xJ.nmH (fun σ2 e1 => ?_)
      have h := h σ2 e1
      have r2 : hR σ2 = hR σ1 ∧ hL σ2 = hL σ1 := by rw [e1]; exact ⟨rfl, rfl⟩
      refine x_iconst (v := 0) hC dX7_pass_35 (by decide) ?_
      refine x_istore_n (L' := [(2, .int 0), (0, .ref (ρ this)), (1, .int p1)]) hC dX7_pass_36 (by decide) (by first | rfl | simp (decide := true) [rv_cat, cat_ref, cat_int]) ?_
      refine x_iconst (v := 0) hC dX7_pass_37 (by decide) ?_
      refine x_istore_n (L' := [(3, .int 0), (2, .int 0), (0, .ref (ρ this)), (1, .int p1)]) hC dX7_pass_38 (by decide) (by first | rfl | simp (decide := true) [rv_cat, cat_ref, cat_int]) ?_
      refine xJ.sub (L' := [(0, .ref (ρ this)), (1, .int p1), (2, .int 0), (3, .int 0)]) [2, 3, 1, 0] rfl ?_
      obtain ⟨f39, h⟩ := h
      refine ml7_pass_39 hC hr htab this p1 h0 (0) (0) (by decide) (by decide) _ Q _ f39 _ _ _ h (fun y1 y2 τ1 h => ?_)
      refine x_iload_n hC 2 rfl dX7_pass_64 ?_
      exact x_iret hC hr dX7_pass_65 (by decide) (by decide) ⟨rfl, _, rfl, h⟩
    · have h := h.2 c2
      refine x_iconst (v := 2) hC dX7_pass_27 (by decide) ?_
      refine x_goto (tgt := 32) hC dX7_pass_28 (by decide) ?_
      refine x_putI (n0 := this) hC (ci := 7) (T := TX7) (N := 36) (C := RX7) 0 k1 rfl rfl (by decide) rfl q689 rfl (tyX7_ok 0 (by decide)) dX7_pass_32 ?_
      refine xJ.nmH (fun σ4 e2 => ?_)
      have h := h σ4 e2
      have r4 : hR σ4 = hR σ1 ∧ hL σ4 = hL σ1 := by rw [e2]; exact ⟨rfl, rfl⟩
      refine x_iconst (v := 0) hC dX7_pass_35 (by decide) ?_
      refine x_istore_n (L' := [(2, .int 0), (0, .ref (ρ this)), (1, .int p1)]) hC dX7_pass_36 (by decide) (by first | rfl | simp (decide := true) [rv_cat, cat_ref, cat_int]) ?_
      refine x_iconst (v := 0) hC dX7_pass_37 (by decide) ?_
      refine x_istore_n (L' := [(3, .int 0), (2, .int 0), (0, .ref (ρ this)), (1, .int p1)]) hC dX7_pass_38 (by decide) (by first | rfl | simp (decide := true) [rv_cat, cat_ref, cat_int]) ?_
      refine xJ.sub (L' := [(0, .ref (ρ this)), (1, .int p1), (2, .int 0), (3, .int 0)]) [2, 3, 1, 0] rfl ?_
      obtain ⟨f39, h⟩ := h
      refine ml7_pass_39 hC hr htab this p1 h0 (0) (0) (by decide) (by decide) _ Q _ f39 _ _ _ h (fun y3 y4 τ2 h => ?_)
      refine x_iload_n hC 2 rfl dX7_pass_64 ?_
      exact x_iret hC hr dX7_pass_65 (by decide) (by decide) ⟨rfl, _, rfl, h⟩
  · have h := h.2 c1
    refine x_iconst (v := 1) hC dX7_pass_11 (by decide) ?_
    refine x_goto (tgt := 32) hC dX7_pass_12 (by decide) ?_
    obtain ⟨k4, h⟩ := h
    refine x_putI (n0 := this) hC (ci := 7) (T := TX7) (N := 36) (C := RX7) 0 k4 rfl rfl (by decide) rfl q689 rfl (tyX7_ok 0 (by decide)) dX7_pass_32 ?_
    refine xJ.nmH (fun σ6 e3 => ?_)
    have h := h σ6 e3
    have r6 : hR σ6 = hR σ1 ∧ hL σ6 = hL σ1 := by rw [e3]; exact ⟨rfl, rfl⟩
    refine x_iconst (v := 0) hC dX7_pass_35 (by decide) ?_
    refine x_istore_n (L' := [(2, .int 0), (0, .ref (ρ this)), (1, .int p1)]) hC dX7_pass_36 (by decide) (by first | rfl | simp (decide := true) [rv_cat, cat_ref, cat_int]) ?_
    refine x_iconst (v := 0) hC dX7_pass_37 (by decide) ?_
    refine x_istore_n (L' := [(3, .int 0), (2, .int 0), (0, .ref (ρ this)), (1, .int p1)]) hC dX7_pass_38 (by decide) (by first | rfl | simp (decide := true) [rv_cat, cat_ref, cat_int]) ?_
    refine xJ.sub (L' := [(0, .ref (ρ this)), (1, .int p1), (2, .int 0), (3, .int 0)]) [2, 3, 1, 0] rfl ?_
    obtain ⟨f39, h⟩ := h
    refine ml7_pass_39 hC hr htab this p1 h0 (0) (0) (by decide) (by decide) _ Q _ f39 _ _ _ h (fun y5 y6 τ3 h => ?_)
    refine x_iload_n hC 2 rfl dX7_pass_64 ?_
    exact x_iret hC hr dX7_pass_65 (by decide) (by decide) ⟨rfl, _, rfl, h⟩
/-! PlantServer.requests -/
theorem dX6_requests_0 : decode cX6_requests 0 = .ok (.aload_n 0, 1) := by decide +kernel
theorem dX6_requests_1 : decode cX6_requests 1 = .ok (.getfield 42, 3) := by decide +kernel
theorem dX6_requests_4 : decode cX6_requests 4 = .ok (.ireturn, 1) := by decide +kernel
abbrev rm6_requests : Room := { frames := 0, cells := 0, slots := 0, locals := 0 }
theorem hd6_requests : yX6_requests.cls ≠ "java/lang/invoke/MethodHandle" ∧ yX6_requests.cls ≠ "java/lang/invoke/VarHandle" ∧ (parseMethodDescriptor yX6_requests.desc).map (fun d => d.parameters.length) = some 0 := by decide +kernel
set_option maxHeartbeats 4000000 in
set_option maxRecDepth 20000 in
theorem m6_requests (l : Launch) (hl : l.stackTraces = false) (G : xG) (ρ : Nm → Nat) (this : Nm) (σ : PH) (Q : Int32 → PH → Prop) (h : w6_requests this σ Q) : xMet l yX6_requests (.code yX6_requests cX6_requests 1 (some .int)) rm6_requests G ρ σ [.ref (ρ this)] (eI ρ Q) xNo := by
  refine xMet.of hl (by decide +kernel) (Nat.le_of_ble_eq_true rfl) (fun X hC hr hn htab h0 => ?_)
  have hC : xC G X "PlantServer" cX6_requests 1 rm6_requests := hC
  unfold w6_requests at h
  refine xJ.loc (L' := [(0, .ref (ρ this))]) rfl ?_
  refine x_aload_n hC 0 rfl dX6_requests_0 ?_
  obtain ⟨k1, h⟩ := h
  refine x_getI (n0 := this) hC (ci := 6) (T := TX6) (N := 9) (C := RX6) 7 k1 rfl rfl (by decide) rfl q57 dX6_requests_1 ?_
  exact x_iret hC hr dX6_requests_4 (by decide) (by decide) ⟨rfl, _, rfl, h⟩
/-! PlantServerModel.requests -/
theorem dX7_requests_0 : decode cX7_requests 0 = .ok (.aload_n 0, 1) := by decide +kernel
theorem dX7_requests_1 : decode cX7_requests 1 = .ok (.iconst 0, 1) := by decide +kernel
theorem dX7_requests_2 : decode cX7_requests 2 = .ok (.putfield 104, 3) := by decide +kernel
theorem dX7_requests_5 : decode cX7_requests 5 = .ok (.aload_n 0, 1) := by decide +kernel
theorem dX7_requests_6 : decode cX7_requests 6 = .ok (.getfield 156, 3) := by decide +kernel
theorem dX7_requests_9 : decode cX7_requests 9 = .ok (.ireturn, 1) := by decide +kernel
abbrev rm7_requests : Room := { frames := 0, cells := 0, slots := 0, locals := 0 }
theorem hd7_requests : yX7_requests.cls ≠ "java/lang/invoke/MethodHandle" ∧ yX7_requests.cls ≠ "java/lang/invoke/VarHandle" ∧ (parseMethodDescriptor yX7_requests.desc).map (fun d => d.parameters.length) = some 0 := by decide +kernel
set_option maxHeartbeats 4000000 in
set_option maxRecDepth 20000 in
theorem m7_requests (l : Launch) (hl : l.stackTraces = false) (G : xG) (ρ : Nm → Nat) (this : Nm) (σ : PH) (Q : Int32 → PH → Prop) (h : w7_requests this σ Q) : xMet l yX7_requests (.code yX7_requests cX7_requests 1 (some .int)) rm7_requests G ρ σ [.ref (ρ this)] (eI ρ Q) xNo := by
  refine xMet.of hl (by decide +kernel) (Nat.le_of_ble_eq_true rfl) (fun X hC hr hn htab h0 => ?_)
  have hC : xC G X "PlantServerModel" cX7_requests 1 rm7_requests := hC
  unfold w7_requests at h
  refine xJ.loc (L' := [(0, .ref (ρ this))]) rfl ?_
  refine x_aload_n hC 0 rfl dX7_requests_0 ?_
  refine x_iconst (v := 0) hC dX7_requests_1 (by decide) ?_
  obtain ⟨k1, h⟩ := h
  refine x_putI (n0 := this) hC (ci := 7) (T := TX7) (N := 36) (C := RX7) 0 k1 rfl rfl (by decide) rfl q689 rfl (tyX7_ok 0 (by decide)) dX7_requests_2 ?_
  refine xJ.nmH (fun σ1 e1 => ?_)
  have h := h σ1 e1
  have r1 : hR σ1 = hR σ ∧ hL σ1 = hL σ := by rw [e1]; exact ⟨rfl, rfl⟩
  refine x_aload_n hC 0 rfl dX7_requests_5 ?_
  have k2 : hK σ1 this = 8 := by rw [e1]; exact k1
  refine x_getI (n0 := this) hC (ci := 7) (T := TX7) (N := 36) (C := RX7) 35 k2 rfl rfl (by decide) rfl q724 dX7_requests_6 ?_
  exact x_iret hC hr dX7_requests_9 (by decide) (by decide) ⟨rfl, _, rfl, h⟩
/-! PlantServer.tick -/
theorem dX6_tick_0 : decode cX6_tick 0 = .ok (.aload_n 0, 1) := by decide +kernel
theorem dX6_tick_1 : decode cX6_tick 1 = .ok (.getfield 45, 3) := by decide +kernel
theorem dX6_tick_4 : decode cX6_tick 4 = .ok (.ireturn, 1) := by decide +kernel
abbrev rm6_tick : Room := { frames := 0, cells := 0, slots := 0, locals := 0 }
theorem hd6_tick : yX6_tick.cls ≠ "java/lang/invoke/MethodHandle" ∧ yX6_tick.cls ≠ "java/lang/invoke/VarHandle" ∧ (parseMethodDescriptor yX6_tick.desc).map (fun d => d.parameters.length) = some 0 := by decide +kernel
set_option maxHeartbeats 4000000 in
set_option maxRecDepth 20000 in
theorem m6_tick (l : Launch) (hl : l.stackTraces = false) (G : xG) (ρ : Nm → Nat) (this : Nm) (σ : PH) (Q : Int32 → PH → Prop) (h : w6_tick this σ Q) : xMet l yX6_tick (.code yX6_tick cX6_tick 1 (some .int)) rm6_tick G ρ σ [.ref (ρ this)] (eI ρ Q) xNo := by
  refine xMet.of hl (by decide +kernel) (Nat.le_of_ble_eq_true rfl) (fun X hC hr hn htab h0 => ?_)
  have hC : xC G X "PlantServer" cX6_tick 1 rm6_tick := hC
  unfold w6_tick at h
  refine xJ.loc (L' := [(0, .ref (ρ this))]) rfl ?_
  refine x_aload_n hC 0 rfl dX6_tick_0 ?_
  obtain ⟨k1, h⟩ := h
  refine x_getI (n0 := this) hC (ci := 6) (T := TX6) (N := 9) (C := RX6) 8 k1 rfl rfl (by decide) rfl q58 dX6_tick_1 ?_
  exact x_iret hC hr dX6_tick_4 (by decide) (by decide) ⟨rfl, _, rfl, h⟩
/-! PlantServerModel.tick -/
theorem dX7_tick_0 : decode cX7_tick 0 = .ok (.aload_n 0, 1) := by decide +kernel
theorem dX7_tick_1 : decode cX7_tick 1 = .ok (.iconst 0, 1) := by decide +kernel
theorem dX7_tick_2 : decode cX7_tick 2 = .ok (.putfield 104, 3) := by decide +kernel
theorem dX7_tick_5 : decode cX7_tick 5 = .ok (.aload_n 0, 1) := by decide +kernel
theorem dX7_tick_6 : decode cX7_tick 6 = .ok (.getfield 122, 3) := by decide +kernel
theorem dX7_tick_9 : decode cX7_tick 9 = .ok (.ireturn, 1) := by decide +kernel
abbrev rm7_tick : Room := { frames := 0, cells := 0, slots := 0, locals := 0 }
theorem hd7_tick : yX7_tick.cls ≠ "java/lang/invoke/MethodHandle" ∧ yX7_tick.cls ≠ "java/lang/invoke/VarHandle" ∧ (parseMethodDescriptor yX7_tick.desc).map (fun d => d.parameters.length) = some 0 := by decide +kernel
set_option maxHeartbeats 4000000 in
set_option maxRecDepth 20000 in
theorem m7_tick (l : Launch) (hl : l.stackTraces = false) (G : xG) (ρ : Nm → Nat) (this : Nm) (σ : PH) (Q : Int32 → PH → Prop) (h : w7_tick this σ Q) : xMet l yX7_tick (.code yX7_tick cX7_tick 1 (some .int)) rm7_tick G ρ σ [.ref (ρ this)] (eI ρ Q) xNo := by
  refine xMet.of hl (by decide +kernel) (Nat.le_of_ble_eq_true rfl) (fun X hC hr hn htab h0 => ?_)
  have hC : xC G X "PlantServerModel" cX7_tick 1 rm7_tick := hC
  unfold w7_tick at h
  refine xJ.loc (L' := [(0, .ref (ρ this))]) rfl ?_
  refine x_aload_n hC 0 rfl dX7_tick_0 ?_
  refine x_iconst (v := 0) hC dX7_tick_1 (by decide) ?_
  obtain ⟨k1, h⟩ := h
  refine x_putI (n0 := this) hC (ci := 7) (T := TX7) (N := 36) (C := RX7) 0 k1 rfl rfl (by decide) rfl q689 rfl (tyX7_ok 0 (by decide)) dX7_tick_2 ?_
  refine xJ.nmH (fun σ1 e1 => ?_)
  have h := h σ1 e1
  have r1 : hR σ1 = hR σ ∧ hL σ1 = hL σ := by rw [e1]; exact ⟨rfl, rfl⟩
  refine x_aload_n hC 0 rfl dX7_tick_5 ?_
  have k2 : hK σ1 this = 8 := by rw [e1]; exact k1
  refine x_getI (n0 := this) hC (ci := 7) (T := TX7) (N := 36) (C := RX7) 1 k2 rfl rfl (by decide) rfl q690 dX7_tick_6 ?_
  exact x_iret hC hr dX7_tick_9 (by decide) (by decide) ⟨rfl, _, rfl, h⟩
/-! PlantServer$Subscription.placeOf -/
theorem dX4_placeOf_0 : decode cX4_placeOf 0 = .ok (.iconst 0, 1) := by decide +kernel
theorem dX4_placeOf_1 : decode cX4_placeOf 1 = .ok (.istore_n 2, 1) := by decide +kernel
theorem dX4_placeOf_2 : decode cX4_placeOf 2 = .ok (.iload_n 2, 1) := by decide +kernel
theorem dX4_placeOf_3 : decode cX4_placeOf 3 = .ok (.aload_n 0, 1) := by decide +kernel
theorem dX4_placeOf_4 : decode cX4_placeOf 4 = .ok (.getfield 31, 3) := by decide +kernel
theorem dX4_placeOf_7 : decode cX4_placeOf 7 = .ok (.if_icmp .ge 30, 3) := by decide +kernel
theorem dX4_placeOf_10 : decode cX4_placeOf 10 = .ok (.aload_n 0, 1) := by decide +kernel
theorem dX4_placeOf_11 : decode cX4_placeOf 11 = .ok (.getfield 19, 3) := by decide +kernel
theorem dX4_placeOf_14 : decode cX4_placeOf 14 = .ok (.iload_n 2, 1) := by decide +kernel
theorem dX4_placeOf_15 : decode cX4_placeOf 15 = .ok (.aaload, 1) := by decide +kernel
theorem dX4_placeOf_16 : decode cX4_placeOf 16 = .ok (.astore_n 3, 1) := by decide +kernel
theorem dX4_placeOf_17 : decode cX4_placeOf 17 = .ok (.aload_n 3, 1) := by decide +kernel
theorem dX4_placeOf_18 : decode cX4_placeOf 18 = .ok (.ifnull 13, 3) := by decide +kernel
theorem dX4_placeOf_21 : decode cX4_placeOf 21 = .ok (.aload_n 3, 1) := by decide +kernel
theorem dX4_placeOf_22 : decode cX4_placeOf 22 = .ok (.getfield 88, 3) := by decide +kernel
theorem dX4_placeOf_25 : decode cX4_placeOf 25 = .ok (.iload_n 1, 1) := by decide +kernel
theorem dX4_placeOf_26 : decode cX4_placeOf 26 = .ok (.if_icmp .ne 5, 3) := by decide +kernel
theorem dX4_placeOf_29 : decode cX4_placeOf 29 = .ok (.iload_n 2, 1) := by decide +kernel
theorem dX4_placeOf_30 : decode cX4_placeOf 30 = .ok (.ireturn, 1) := by decide +kernel
theorem dX4_placeOf_31 : decode cX4_placeOf 31 = .ok (.iinc 2 1, 3) := by decide +kernel
theorem dX4_placeOf_34 : decode cX4_placeOf 34 = .ok (.goto (-32), 3) := by decide +kernel
theorem dX4_placeOf_37 : decode cX4_placeOf 37 = .ok (.iconst (-1), 1) := by decide +kernel
theorem dX4_placeOf_38 : decode cX4_placeOf 38 = .ok (.ireturn, 1) := by decide +kernel
abbrev rm4_placeOf : Room := { frames := 0, cells := 0, slots := 0, locals := 0 }
theorem hd4_placeOf : yX4_placeOf.cls ≠ "java/lang/invoke/MethodHandle" ∧ yX4_placeOf.cls ≠ "java/lang/invoke/VarHandle" ∧ (parseMethodDescriptor yX4_placeOf.desc).map (fun d => d.parameters.length) = some 1 := by decide +kernel
set_option maxHeartbeats 4000000 in
set_option maxRecDepth 20000 in
theorem ml4_placeOf_2 {G : xG} {X : xX} (hC : xC G X "PlantServer$Subscription" cX4_placeOf 4 rm4_placeOf) (hr : xRt X (some .int)) (htab : xTab X []) (this : Nm) (p1 : Int32) {ρ : Nm → Nat} (h0 : xR0 X ρ) (k n : Nat) (hk1 : k ≤ 0) (hk2 : n ≤ 0) (K : Int32 → PH → Prop) (Q : Int32 → PH → Prop) (Xp : String → PH → Prop) : ∀ (f2 : Nat) (x2_2 : Int32) (τ2 : PH), l4_placeOf_2 this p1 K Q f2 x2_2 τ2 → (∀ (x2_2 : Int32) (τ2 : PH), K x2_2 τ2 → xJ G X (xT X (eI ρ Q) Xp G rm4_placeOf) 4 ρ τ2 k n 37 [(0, .ref (ρ this)), (1, .int p1), (2, .int x2_2)] []) → xJ G X (xT X (eI ρ Q) Xp G rm4_placeOf) 4 ρ τ2 k n 2 [(0, .ref (ρ this)), (1, .int p1), (2, .int x2_2)] [] := by
  intro f2
  induction f2 with
  | zero => intro x2_2 τ2 h hKK; unfold l4_placeOf_2 at h; exact h.elim
  | succ f2 ih =>
    intro x2_2 τ2 h hKK
    unfold l4_placeOf_2 at h
    refine x_iload_n hC 2 rfl dX4_placeOf_2 ?_
    refine x_aload_n hC 0 rfl dX4_placeOf_3 ?_
    obtain ⟨k1, h⟩ := h
    refine x_getI (n0 := this) hC (ci := 4) (T := TX4) (N := 14) (C := RX4) 9 k1 rfl rfl (by decide) rfl q249 dX4_placeOf_4 ?_
    refine x_icmp_ge (tgt := 37) hC dX4_placeOf_7 (by decide) (fun c1 => ?_) (fun c1 => ?_)
    · have h := h.1 c1
      exact hKK _ _ h
    · have h := h.2 c1
      refine x_aload_n hC 0 rfl dX4_placeOf_10 ?_
      refine x_getR (n0 := this) hC (ci := 4) (T := TX4) (N := 14) (C := RX4) 6 k1 rfl rfl (by decide) rfl q244 dX4_placeOf_11 ?_
      refine x_iload_n hC 2 rfl dX4_placeOf_14 ?_
      obtain ⟨m1, hm1, h⟩ := h
      rw [show rv ρ (hR τ2 this 6) = Value.ref (ρ m1) from by rw [hm1]; rfl]
      obtain ⟨k2, h⟩ := h
      obtain ⟨v1, h⟩ := h
      refine x_aald12 (a := m1) hC k2 v1 dX4_placeOf_15 ?_
      refine x_astore_nQ (o := hR τ2 m1 (Int32.toNatClampNeg x2_2)) (L' := [(3, rv ρ (hR τ2 m1 (Int32.toNatClampNeg x2_2))), (0, .ref (ρ this)), (1, .int p1), (2, .int x2_2)]) hC dX4_placeOf_16 (by decide) (by first | rfl | simp (decide := true) [rv_cat, cat_ref, cat_int]) ?_
      refine x_aload_nQ (o := hR τ2 m1 (Int32.toNatClampNeg x2_2)) hC 0 rfl dX4_placeOf_17 ?_
      refine x_ifnull (o := hR τ2 m1 (Int32.toNatClampNeg x2_2)) (tgt := 31) hC dX4_placeOf_18 (by decide) (fun c2 => ?_) (fun m2 c2 => ?_)
      · have h := h.1 c2
        rw [show rv ρ (hR τ2 m1 (Int32.toNatClampNeg x2_2)) = Value.null from by rw [c2]; rfl]
        refine x_iinc (v' := x2_2 + 1) (L' := [(2, .int (x2_2 + 1)), (3, .null), (0, .ref (ρ this)), (1, .int p1)]) hC 3 rfl dX4_placeOf_31 rfl (by decide) (by first | rfl | simp (decide := true) [rv_cat, cat_ref, cat_int]) ?_
        refine x_goto (tgt := 2) hC dX4_placeOf_34 (by decide) ?_
        refine xJ.sub (L' := [(0, .ref (ρ this)), (1, .int p1), (2, .int (x2_2 + 1))]) [2, 3, 0] rfl ?_
        exact ih _ _ h hKK
      · have h := h.2 m2 c2
        rw [show rv ρ (hR τ2 m1 (Int32.toNatClampNeg x2_2)) = Value.ref (ρ m2) from by rw [c2]; rfl]
        refine x_aload_n hC 0 rfl dX4_placeOf_21 ?_
        obtain ⟨k3, h⟩ := h
        refine x_getI (n0 := m2) hC (ci := 2) (T := TX2) (N := 5) (C := RX2) 3 k3 rfl rfl (by decide) rfl q530 dX4_placeOf_22 ?_
        refine x_iload_n hC 2 rfl dX4_placeOf_25 ?_
        refine x_icmp_ne (tgt := 31) hC dX4_placeOf_26 (by decide) (fun c3 => ?_) (fun c3 => ?_)
        · have h := h.1 c3
          refine x_iinc (v' := x2_2 + 1) (L' := [(2, .int (x2_2 + 1)), (3, .ref (ρ m2)), (0, .ref (ρ this)), (1, .int p1)]) hC 3 rfl dX4_placeOf_31 rfl (by decide) (by first | rfl | simp (decide := true) [rv_cat, cat_ref, cat_int]) ?_
          refine x_goto (tgt := 2) hC dX4_placeOf_34 (by decide) ?_
          refine xJ.sub (L' := [(0, .ref (ρ this)), (1, .int p1), (2, .int (x2_2 + 1))]) [2, 3, 0] rfl ?_
          exact ih _ _ h hKK
        · have h := h.2 c3
          refine x_iload_n hC 3 rfl dX4_placeOf_29 ?_
          exact x_iret hC hr dX4_placeOf_30 (show _ ≤ 0 by omega) (show _ ≤ 0 by omega) ⟨rfl, _, rfl, h⟩
set_option maxHeartbeats 4000000 in
set_option maxRecDepth 20000 in
theorem m4_placeOf (l : Launch) (hl : l.stackTraces = false) (G : xG) (ρ : Nm → Nat) (this : Nm) (p1 : Int32) (σ : PH) (Q : Int32 → PH → Prop) (h : w4_placeOf this p1 σ Q) : xMet l yX4_placeOf (.code yX4_placeOf cX4_placeOf 4 (some .int)) rm4_placeOf G ρ σ [.ref (ρ this), .int p1] (eI ρ Q) xNo := by
  refine xMet.of hl (by decide +kernel) (Nat.le_of_ble_eq_true rfl) (fun X hC hr hn htab h0 => ?_)
  have hC : xC G X "PlantServer$Subscription" cX4_placeOf 4 rm4_placeOf := hC
  unfold w4_placeOf at h
  refine xJ.loc (L' := [(0, .ref (ρ this)), (1, .int p1)]) rfl ?_
  refine x_iconst (v := 0) hC dX4_placeOf_0 (by decide) ?_
  refine x_istore_n (L' := [(2, .int 0), (0, .ref (ρ this)), (1, .int p1)]) hC dX4_placeOf_1 (by decide) (by first | rfl | simp (decide := true) [rv_cat, cat_ref, cat_int]) ?_
  refine xJ.sub (L' := [(0, .ref (ρ this)), (1, .int p1), (2, .int 0)]) [1, 2, 0] rfl ?_
  obtain ⟨f2, h⟩ := h
  refine ml4_placeOf_2 hC hr htab this p1 h0 (0) (0) (by decide) (by decide) _ Q _ f2 _ _ h (fun y1 τ1 h => ?_)
  refine x_iconst (v := (-1)) hC dX4_placeOf_37 (by decide) ?_
  exact x_iret hC hr dX4_placeOf_38 (by decide) (by decide) ⟨rfl, _, rfl, h⟩
/-! PlantServer.acknowledge -/
theorem dX6_acknowledge_0 : decode cX6_acknowledge 0 = .ok (.aload_n 0, 1) := by decide +kernel
theorem dX6_acknowledge_1 : decode cX6_acknowledge 1 = .ok (.iload_n 1, 1) := by decide +kernel
theorem dX6_acknowledge_2 : decode cX6_acknowledge 2 = .ok (.invokevirtual 73, 3) := by decide +kernel
theorem dX6_acknowledge_5 : decode cX6_acknowledge 5 = .ok (.astore_n 3, 1) := by decide +kernel
theorem dX6_acknowledge_6 : decode cX6_acknowledge 6 = .ok (.aload_n 3, 1) := by decide +kernel
theorem dX6_acknowledge_7 : decode cX6_acknowledge 7 = .ok (.iload_n 2, 1) := by decide +kernel
theorem dX6_acknowledge_8 : decode cX6_acknowledge 8 = .ok (.invokevirtual 138, 3) := by decide +kernel
theorem dX6_acknowledge_11 : decode cX6_acknowledge 11 = .ok (.istore 4, 2) := by decide +kernel
theorem dX6_acknowledge_13 : decode cX6_acknowledge 13 = .ok (.iload 4, 2) := by decide +kernel
theorem dX6_acknowledge_15 : decode cX6_acknowledge 15 = .ok (.iconst (-1), 1) := by decide +kernel
theorem dX6_acknowledge_16 : decode cX6_acknowledge 16 = .ok (.if_icmp .ne 5, 3) := by decide +kernel
theorem dX6_acknowledge_19 : decode cX6_acknowledge 19 = .ok (.iconst 0, 1) := by decide +kernel
theorem dX6_acknowledge_20 : decode cX6_acknowledge 20 = .ok (.ireturn, 1) := by decide +kernel
theorem dX6_acknowledge_21 : decode cX6_acknowledge 21 = .ok (.aload_n 3, 1) := by decide +kernel
theorem dX6_acknowledge_22 : decode cX6_acknowledge 22 = .ok (.iload 4, 2) := by decide +kernel
theorem dX6_acknowledge_24 : decode cX6_acknowledge 24 = .ok (.invokevirtual 142, 3) := by decide +kernel
theorem dX6_acknowledge_27 : decode cX6_acknowledge 27 = .ok (.iconst 1, 1) := by decide +kernel
theorem dX6_acknowledge_28 : decode cX6_acknowledge 28 = .ok (.ireturn, 1) := by decide +kernel
abbrev rm6_acknowledge : Room := { frames := 7, cells := 1, slots := 6, locals := 112 }
theorem hd6_acknowledge : yX6_acknowledge.cls ≠ "java/lang/invoke/MethodHandle" ∧ yX6_acknowledge.cls ≠ "java/lang/invoke/VarHandle" ∧ (parseMethodDescriptor yX6_acknowledge.desc).map (fun d => d.parameters.length) = some 2 := by decide +kernel
set_option maxHeartbeats 4000000 in
set_option maxRecDepth 20000 in
theorem m6_acknowledge (l : Launch) (hl : l.stackTraces = false) (G : xG) (ρ : Nm → Nat) (this : Nm) (p1 : Int32) (p2 : Int32) (σ : PH) (Q : Int32 → PH → Prop) (Xp : String → PH → Prop) (h : w6_acknowledge this p1 p2 σ Q Xp) : xMet l yX6_acknowledge (.code yX6_acknowledge cX6_acknowledge 5 (some .boolean)) rm6_acknowledge G ρ σ [.ref (ρ this), .int p1, .int p2] (eI ρ Q) Xp := by
  refine xMet.of hl (by decide +kernel) (Nat.le_of_ble_eq_true rfl) (fun X hC hr hn htab h0 => ?_)
  have hC : xC G X "PlantServer" cX6_acknowledge 5 rm6_acknowledge := hC
  unfold w6_acknowledge at h
  refine xJ.loc (L' := [(0, .ref (ρ this)), (1, .int p1), (2, .int p2)]) rfl ?_
  refine x_aload_n hC 0 rfl dX6_acknowledge_0 ?_
  refine x_iload_n hC 1 rfl dX6_acknowledge_1 ?_
  obtain ⟨k1, h⟩ := h
  refine x_callV (n0 := this) (as := [.int p1]) (rest := []) hC (ci := 6) (r := (RX6, TX6, 9)) k1 rfl (fun l hl => m6_openSubscription l hl G ρ this p1 σ _ Xp h) q296 q298 s2 q1 q299 ⟨rfl, hd6_openSubscription⟩ (by decide) ⟨(by decide), (by decide)⟩ (by first | exact Nat.le_of_ble_eq_true rfl | (simp [rv_cat]; done) | (simp (decide := true) [rv_cat, cat_ref, cat_int]; done)) rfl dX6_acknowledge_2 (fun E σ9 hx => x_out hC h0 htab (by decide) (by decide) hx) (fun v1 σ1 ρ1 hp1 hag1 => ?_)
  obtain ⟨e9, r1, e8, h⟩ := hp1
  rw [e8, e9]
  refine xJ.nrm (k' := 1) (n' := 6) (pc' := 5) (st' := [rv ρ r1]) rfl rfl rfl rfl ?_
  refine x_astore_nQ (o := r1) (L' := [(3, rv ρ r1), (0, .ref (ρ this)), (1, .int p1), (2, .int p2)]) hC dX6_acknowledge_5 (by decide) (by first | rfl | simp (decide := true) [rv_cat, cat_ref, cat_int]) ?_
  refine x_aload_nQ (o := r1) hC 0 rfl dX6_acknowledge_6 ?_
  refine x_iload_n hC 3 rfl dX6_acknowledge_7 ?_
  obtain ⟨m1, hm1, h⟩ := h
  rw [show rv ρ r1 = Value.ref (ρ m1) from by rw [hm1]; rfl]
  obtain ⟨k2, h⟩ := h
  refine x_callV (n0 := m1) (as := [.int p2]) (rest := []) hC (ci := 4) (r := (RX4, TX4, 14)) k2 rfl (fun l hl => m4_placeOf l hl G ρ m1 p2 σ1 _ h) q568 q569 q570 q10 q571 ⟨rfl, hd4_placeOf⟩ (by decide) ⟨(by decide), (by decide)⟩ (by first | exact Nat.le_of_ble_eq_true rfl | (simp [rv_cat]; done) | (simp (decide := true) [rv_cat, cat_ref, cat_int]; done)) rfl dX6_acknowledge_8 (fun E σ9 hx => False.elim hx) (fun v2 σ2 ρ2 hp2 hag2 => ?_)
  obtain ⟨e9, r2, e8, h⟩ := hp2
  rw [e8, e9]
  refine xJ.nrm (k' := 1) (n' := 6) (pc' := 11) (st' := [.int r2]) rfl rfl rfl rfl ?_
  refine x_istore (L' := [(4, .int r2), (3, .ref (ρ m1)), (0, .ref (ρ this)), (1, .int p1), (2, .int p2)]) hC dX6_acknowledge_11 (by decide) (by first | rfl | simp (decide := true) [rv_cat, cat_ref, cat_int]) ?_
  refine x_iload hC 0 rfl dX6_acknowledge_13 ?_
  refine x_iconst (v := (-1)) hC dX6_acknowledge_15 (by decide) ?_
  refine x_icmp_ne (tgt := 21) hC dX6_acknowledge_16 (by decide) (fun c1 => ?_) (fun c1 => ?_)
  · have h := h.1 c1
    refine x_aload_n hC 1 rfl dX6_acknowledge_21 ?_
    refine x_iload hC 0 rfl dX6_acknowledge_22 ?_
    have k3 : hK σ2 m1 = 5 := (hag2 m1 (by rw [k2]; decide)).1.trans k2
    refine x_callV (n0 := m1) (as := [.int r2]) (rest := []) hC (ci := 4) (r := (RX4, TX4, 14)) k3 rfl (fun l hl => m4_forget l hl G ρ m1 r2 σ2 _ h) q572 q515 q516 q10 q517 ⟨rfl, hd4_forget⟩ (by decide) ⟨(by decide), (by decide)⟩ (by first | exact Nat.le_of_ble_eq_true rfl | (simp [rv_cat]; done) | (simp (decide := true) [rv_cat, cat_ref, cat_int]; done)) rfl dX6_acknowledge_24 (fun E σ9 hx => False.elim hx) (fun v3 σ3 ρ3 hp3 hag3 => ?_)
    obtain ⟨e9, e8, h⟩ := hp3
    rw [e8, e9]
    refine xJ.nrm (k' := 1) (n' := 6) (pc' := 27) (st' := []) rfl rfl rfl rfl ?_
    refine x_iconst (v := 1) hC dX6_acknowledge_27 (by decide) ?_
    exact x_zret hC hr zb1 dX6_acknowledge_28 (by decide) (by decide) ⟨rfl, _, rfl, h⟩
  · have h := h.2 c1
    refine x_iconst (v := 0) hC dX6_acknowledge_19 (by decide) ?_
    exact x_zret hC hr zb0 dX6_acknowledge_20 (by decide) (by decide) ⟨rfl, _, rfl, h⟩
/-! PlantServerLaw.acknowledge -/
theorem dL_acknowledge_0 : decode cL_acknowledge 0 = .ok (.aload_n 3, 1) := by decide +kernel
theorem dL_acknowledge_1 : decode cL_acknowledge 1 = .ok (.iconst 0, 1) := by decide +kernel
theorem dL_acknowledge_2 : decode cL_acknowledge 2 = .ok (.aload_n 0, 1) := by decide +kernel
theorem dL_acknowledge_3 : decode cL_acknowledge 3 = .ok (.iload_n 1, 1) := by decide +kernel
theorem dL_acknowledge_4 : decode cL_acknowledge 4 = .ok (.iload_n 2, 1) := by decide +kernel
theorem dL_acknowledge_5 : decode cL_acknowledge 5 = .ok (.invokevirtual 46, 3) := by decide +kernel
theorem dL_acknowledge_8 : decode cL_acknowledge 8 = .ok (.ifCond .eq 7, 3) := by decide +kernel
theorem dL_acknowledge_11 : decode cL_acknowledge 11 = .ok (.lconst 1, 1) := by decide +kernel
theorem dL_acknowledge_12 : decode cL_acknowledge 12 = .ok (.goto 4, 3) := by decide +kernel
theorem dL_acknowledge_15 : decode cL_acknowledge 15 = .ok (.lconst 0, 1) := by decide +kernel
theorem dL_acknowledge_16 : decode cL_acknowledge 16 = .ok (.lastore, 1) := by decide +kernel
theorem dL_acknowledge_17 : decode cL_acknowledge 17 = .ok (.goto 7, 3) := by decide +kernel
theorem dL_acknowledge_20 : decode cL_acknowledge 20 = .ok (.astore 4, 2) := by decide +kernel
theorem dL_acknowledge_22 : decode cL_acknowledge 22 = .ok (.iconst 1, 1) := by decide +kernel
theorem dL_acknowledge_23 : decode cL_acknowledge 23 = .ok (.ireturn, 1) := by decide +kernel
theorem dL_acknowledge_24 : decode cL_acknowledge 24 = .ok (.iconst 0, 1) := by decide +kernel
theorem dL_acknowledge_25 : decode cL_acknowledge 25 = .ok (.ireturn, 1) := by decide +kernel
abbrev rmL_acknowledge : Room := { frames := 8, cells := 1, slots := 6, locals := 136 }
theorem hdL_acknowledge : yL_acknowledge.cls ≠ "java/lang/invoke/MethodHandle" ∧ yL_acknowledge.cls ≠ "java/lang/invoke/VarHandle" ∧ (parseMethodDescriptor yL_acknowledge.desc).map (fun d => d.parameters.length) = some 4 := by decide +kernel
set_option maxHeartbeats 4000000 in
set_option maxRecDepth 20000 in
theorem mL_acknowledge (l : Launch) (hl : l.stackTraces = false) (G : xG) (ρ : Nm → Nat) (a1 : Nm) (p2 : Int32) (p3 : Int32) (a4 : Nm) (σ : PH) (Q : Int32 → PH → Prop) (h : wL_acknowledge a1 p2 p3 a4 σ Q) : xMet l yL_acknowledge (.codeWith yL_acknowledge cL_acknowledge 5 (some .int) [(0, 17, 20, 13)]) rmL_acknowledge G ρ σ [.ref (ρ a1), .int p2, .int p3, .ref (ρ a4)] (eI ρ Q) xNo := by
  refine xMet.ofW hl (by decide +kernel) (Nat.le_of_ble_eq_true rfl) (fun X hC hr hn htab h0 => ?_)
  have hC : xC G X "PlantServerLaw" cL_acknowledge 5 rmL_acknowledge := hC
  unfold wL_acknowledge at h
  refine xJ.loc (L' := [(0, .ref (ρ a1)), (1, .int p2), (2, .int p3), (3, .ref (ρ a4))]) rfl ?_
  refine x_aload_n hC 3 rfl dL_acknowledge_0 ?_
  refine x_iconst (v := 0) hC dL_acknowledge_1 (by decide) ?_
  refine x_aload_n hC 0 rfl dL_acknowledge_2 ?_
  refine x_iload_n hC 1 rfl dL_acknowledge_3 ?_
  refine x_iload_n hC 2 rfl dL_acknowledge_4 ?_
  obtain ⟨k1, h⟩ := h
  refine x_callV (n0 := a1) (as := [.int p2, .int p3]) (rest := [.int 0, .ref (ρ a4)]) hC (ci := 6) (r := (RX6, TX6, 9)) k1 rfl (fun l hl => m6_acknowledge l hl G ρ a1 p2 p3 σ _ _ h) q564 q565 q566 q1 q567 ⟨rfl, hd6_acknowledge⟩ (by decide) ⟨(by decide), (by decide)⟩ (by first | exact Nat.le_of_ble_eq_true rfl | (simp [rv_cat]; done) | (simp (decide := true) [rv_cat, cat_ref, cat_int]; done)) rfl dL_acknowledge_5 (fun E σ2 hx => ?_) (fun v1 σ1 ρ1 hp1 hag1 => ?_)
  · have hE9 := hx.2
    have he := hE9
    have h := hx.1 he
    subst he
    refine x_catch hC [] [] (0, 17, 20, 13) htab (by intro z hz; simp at hz) (by decide) (by decide) q89 xcast_xIO (fun qx1 => ?_)
    refine xJ.nrm (k' := 1) (n' := 6) (pc' := 20) (st' := [.ref qx1]) rfl rfl rfl rfl ?_
    refine x_astore (L' := [(4, .ref qx1), (0, .ref (ρ a1)), (1, .int p2), (2, .int p3), (3, .ref (ρ a4))]) hC dL_acknowledge_20 (by decide) (by first | rfl | simp (decide := true) [rv_cat, cat_ref, cat_int]) ?_
    refine x_iconst (v := 1) hC dL_acknowledge_22 (by decide) ?_
    exact x_iret hC hr dL_acknowledge_23 (by decide) (by decide) ⟨rfl, _, rfl, h⟩
  · obtain ⟨e9, r1, e8, h⟩ := hp1
    rw [e8, e9]
    refine xJ.nrm (k' := 1) (n' := 6) (pc' := 8) (st' := [.int r1, .int 0, .ref (ρ a4)]) rfl rfl rfl rfl ?_
    refine x_if_eq (tgt := 15) hC dL_acknowledge_8 (by decide) (fun c1 => ?_) (fun c1 => ?_)
    · have h := h.1 c1
      refine x_lconst (v := 0) hC dL_acknowledge_15 (by decide) ?_
      obtain ⟨k2, h⟩ := h
      obtain ⟨v2, h⟩ := h
      refine x_last (a := a4) hC k2 v2 dL_acknowledge_16 ?_
      refine xJ.nmH (fun σ3 e1 => ?_)
      have h := h σ3 e1
      have r2 : hR σ3 = hR σ1 ∧ hL σ3 = hL σ1 := by rw [e1]; exact ⟨rfl, rfl⟩
      refine x_goto (tgt := 24) hC dL_acknowledge_17 (by decide) ?_
      refine x_iconst (v := 0) hC dL_acknowledge_24 (by decide) ?_
      exact x_iret hC hr dL_acknowledge_25 (by decide) (by decide) ⟨rfl, _, rfl, h⟩
    · have h := h.2 c1
      refine x_lconst (v := 1) hC dL_acknowledge_11 (by decide) ?_
      refine x_goto (tgt := 16) hC dL_acknowledge_12 (by decide) ?_
      obtain ⟨k3, h⟩ := h
      obtain ⟨v3, h⟩ := h
      refine x_last (a := a4) hC k3 v3 dL_acknowledge_16 ?_
      refine xJ.nmH (fun σ4 e2 => ?_)
      have h := h σ4 e2
      have r3 : hR σ4 = hR σ1 ∧ hL σ4 = hL σ1 := by rw [e2]; exact ⟨rfl, rfl⟩
      refine x_goto (tgt := 24) hC dL_acknowledge_17 (by decide) ?_
      refine x_iconst (v := 0) hC dL_acknowledge_24 (by decide) ?_
      exact x_iret hC hr dL_acknowledge_25 (by decide) (by decide) ⟨rfl, _, rfl, h⟩
/-! PlantServerModel.asks -/
theorem dX7_asks_0 : decode cX7_asks 0 = .ok (.aload_n 0, 1) := by decide +kernel
theorem dX7_asks_1 : decode cX7_asks 1 = .ok (.aload_n 0, 1) := by decide +kernel
theorem dX7_asks_2 : decode cX7_asks 2 = .ok (.iload_n 1, 1) := by decide +kernel
theorem dX7_asks_3 : decode cX7_asks 3 = .ok (.invokevirtual 125, 3) := by decide +kernel
theorem dX7_asks_6 : decode cX7_asks 6 = .ok (.ifCond .eq 7, 3) := by decide +kernel
theorem dX7_asks_9 : decode cX7_asks 9 = .ok (.iconst 0, 1) := by decide +kernel
theorem dX7_asks_10 : decode cX7_asks 10 = .ok (.goto 4, 3) := by decide +kernel
theorem dX7_asks_13 : decode cX7_asks 13 = .ok (.iconst 1, 1) := by decide +kernel
theorem dX7_asks_14 : decode cX7_asks 14 = .ok (.putfield 104, 3) := by decide +kernel
theorem dX7_asks_17 : decode cX7_asks 17 = .ok (.aload_n 0, 1) := by decide +kernel
theorem dX7_asks_18 : decode cX7_asks 18 = .ok (.getfield 104, 3) := by decide +kernel
theorem dX7_asks_21 : decode cX7_asks 21 = .ok (.ifCond .ne 7, 3) := by decide +kernel
theorem dX7_asks_24 : decode cX7_asks 24 = .ok (.iconst 1, 1) := by decide +kernel
theorem dX7_asks_25 : decode cX7_asks 25 = .ok (.goto 4, 3) := by decide +kernel
theorem dX7_asks_28 : decode cX7_asks 28 = .ok (.iconst 0, 1) := by decide +kernel
theorem dX7_asks_29 : decode cX7_asks 29 = .ok (.ireturn, 1) := by decide +kernel
abbrev rm7_asks : Room := { frames := 2, cells := 0, slots := 0, locals := 43 }
theorem hd7_asks : yX7_asks.cls ≠ "java/lang/invoke/MethodHandle" ∧ yX7_asks.cls ≠ "java/lang/invoke/VarHandle" ∧ (parseMethodDescriptor yX7_asks.desc).map (fun d => d.parameters.length) = some 1 := by decide +kernel
set_option maxHeartbeats 4000000 in
set_option maxRecDepth 20000 in
theorem m7_asks (l : Launch) (hl : l.stackTraces = false) (G : xG) (ρ : Nm → Nat) (this : Nm) (p1 : Int32) (σ : PH) (Q : Int32 → PH → Prop) (h : w7_asks this p1 σ Q) : xMet l yX7_asks (.code yX7_asks cX7_asks 2 (some .boolean)) rm7_asks G ρ σ [.ref (ρ this), .int p1] (eI ρ Q) xNo := by
  refine xMet.of hl (by decide +kernel) (Nat.le_of_ble_eq_true rfl) (fun X hC hr hn htab h0 => ?_)
  have hC : xC G X "PlantServerModel" cX7_asks 2 rm7_asks := hC
  unfold w7_asks at h
  refine xJ.loc (L' := [(0, .ref (ρ this)), (1, .int p1)]) rfl ?_
  refine x_aload_n hC 0 rfl dX7_asks_0 ?_
  refine x_aload_n hC 0 rfl dX7_asks_1 ?_
  refine x_iload_n hC 1 rfl dX7_asks_2 ?_
  obtain ⟨k1, h⟩ := h
  refine x_callV (n0 := this) (as := [.int p1]) (rest := [.ref (ρ this)]) hC (ci := 7) (r := (RX7, TX7, 36)) k1 rfl (fun l hl => m7_isSubscription l hl G ρ this p1 σ _ h) q820 q822 s14 q3 q823 ⟨rfl, hd7_isSubscription⟩ (by decide) ⟨(by decide), (by decide)⟩ (by first | exact Nat.le_of_ble_eq_true rfl | (simp [rv_cat]; done) | (simp (decide := true) [rv_cat, cat_ref, cat_int]; done)) rfl dX7_asks_3 (fun E σ9 hx => False.elim hx) (fun v1 σ1 ρ1 hp1 hag1 => ?_)
  obtain ⟨e9, r1, e8, h⟩ := hp1
  rw [e8, e9]
  refine xJ.nrm (k' := 0) (n' := 0) (pc' := 6) (st' := [.int r1, .ref (ρ this)]) rfl rfl rfl rfl ?_
  refine x_if_eq (tgt := 13) hC dX7_asks_6 (by decide) (fun c1 => ?_) (fun c1 => ?_)
  · have h := h.1 c1
    refine x_iconst (v := 1) hC dX7_asks_13 (by decide) ?_
    have k2 : hK σ1 this = 8 := (hag1 this (by rw [k1]; decide)).1.trans k1
    refine x_putI (n0 := this) hC (ci := 7) (T := TX7) (N := 36) (C := RX7) 0 k2 rfl rfl (by decide) rfl q689 rfl (tyX7_ok 0 (by decide)) dX7_asks_14 ?_
    refine xJ.nmH (fun σ2 e1 => ?_)
    have h := h σ2 e1
    have r2 : hR σ2 = hR σ1 ∧ hL σ2 = hL σ1 := by rw [e1]; exact ⟨rfl, rfl⟩
    refine x_aload_n hC 0 rfl dX7_asks_17 ?_
    have k3 : hK σ2 this = 8 := by rw [e1]; exact k2
    refine x_getI (n0 := this) hC (ci := 7) (T := TX7) (N := 36) (C := RX7) 0 k3 rfl rfl (by decide) rfl q689 dX7_asks_18 ?_
    refine x_if_ne (tgt := 28) hC dX7_asks_21 (by decide) (fun c2 => ?_) (fun c2 => ?_)
    · have h := h.1 c2
      refine x_iconst (v := 0) hC dX7_asks_28 (by decide) ?_
      exact x_zret hC hr zb0 dX7_asks_29 (by decide) (by decide) ⟨rfl, _, rfl, h⟩
    · have h := h.2 c2
      refine x_iconst (v := 1) hC dX7_asks_24 (by decide) ?_
      refine x_goto (tgt := 29) hC dX7_asks_25 (by decide) ?_
      exact x_zret hC hr zb1 dX7_asks_29 (by decide) (by decide) ⟨rfl, _, rfl, h⟩
  · have h := h.2 c1
    refine x_iconst (v := 0) hC dX7_asks_9 (by decide) ?_
    refine x_goto (tgt := 14) hC dX7_asks_10 (by decide) ?_
    have k4 : hK σ1 this = 8 := (hag1 this (by rw [k1]; decide)).1.trans k1
    refine x_putI (n0 := this) hC (ci := 7) (T := TX7) (N := 36) (C := RX7) 0 k4 rfl rfl (by decide) rfl q689 rfl (tyX7_ok 0 (by decide)) dX7_asks_14 ?_
    refine xJ.nmH (fun σ3 e2 => ?_)
    have h := h σ3 e2
    have r3 : hR σ3 = hR σ1 ∧ hL σ3 = hL σ1 := by rw [e2]; exact ⟨rfl, rfl⟩
    refine x_aload_n hC 0 rfl dX7_asks_17 ?_
    have k5 : hK σ3 this = 8 := by rw [e2]; exact k4
    refine x_getI (n0 := this) hC (ci := 7) (T := TX7) (N := 36) (C := RX7) 0 k5 rfl rfl (by decide) rfl q689 dX7_asks_18 ?_
    refine x_if_ne (tgt := 28) hC dX7_asks_21 (by decide) (fun c3 => ?_) (fun c3 => ?_)
    · have h := h.1 c3
      refine x_iconst (v := 0) hC dX7_asks_28 (by decide) ?_
      exact x_zret hC hr zb0 dX7_asks_29 (by decide) (by decide) ⟨rfl, _, rfl, h⟩
    · have h := h.2 c3
      refine x_iconst (v := 1) hC dX7_asks_24 (by decide) ?_
      refine x_goto (tgt := 29) hC dX7_asks_25 (by decide) ?_
      exact x_zret hC hr zb1 dX7_asks_29 (by decide) (by decide) ⟨rfl, _, rfl, h⟩
